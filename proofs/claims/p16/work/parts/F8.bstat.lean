theorem dX8_condition_0 : decode cX8_condition 0 = .ok (.aload_n 0, 1) := by decide +kernel
theorem dX8_condition_1 : decode cX8_condition 1 = .ok (.bipush 34, 2) := by decide +kernel
theorem dX8_condition_3 : decode cX8_condition 3 = .ok (.invokevirtual 53, 3) := by decide +kernel
theorem dX8_condition_6 : decode cX8_condition 6 = .ok (.pop, 1) := by decide +kernel
theorem dX8_condition_7 : decode cX8_condition 7 = .ok (.aload_n 0, 1) := by decide +kernel
theorem dX8_condition_8 : decode cX8_condition 8 = .ok (.invokevirtual 196, 3) := by decide +kernel
theorem dX8_condition_11 : decode cX8_condition 11 = .ok (.astore_n 1, 1) := by decide +kernel
theorem dX8_condition_12 : decode cX8_condition 12 = .ok (.aload_n 0, 1) := by decide +kernel
theorem dX8_condition_13 : decode cX8_condition 13 = .ok (.bipush 35, 2) := by decide +kernel
theorem dX8_condition_15 : decode cX8_condition 15 = .ok (.invokevirtual 53, 3) := by decide +kernel
theorem dX8_condition_18 : decode cX8_condition 18 = .ok (.pop, 1) := by decide +kernel
theorem dX8_condition_19 : decode cX8_condition 19 = .ok (.aload_n 1, 1) := by decide +kernel
theorem dX8_condition_20 : decode cX8_condition 20 = .ok (.areturn, 1) := by decide +kernel
set_option maxHeartbeats 16000000 in
set_option maxRecDepth 100000 in
theorem P_condition (l : Launch) (G : pT) (h0 : Nat) (a : Nat → Nat) (F : Nat → Int32) (R : Nat → Value) (Z : Int64) (B : Nat → Nat → Int32) (J : Nat → Nat → Int64) (K : PK) (w : va_W) (n : Nat) (at9 : Nat) (sz : Nat) (dp : Nat) (sg : Nat) (O : Nat) (g : Nat → Nat → Nat) (hsz : sz ≤ 5000) (hat : at9 ≤ sz) (hdp : dp + n = 20) (hsg : sg ≤ 60) (hwn : WN K g) (how : ∀ o : Nat, O = o + 1 → K.1 o = 1 ∧ g 0 o = 0 ∧ ¬ K.2.1 0 o = 32) (hO : OKP G h0 a (upd (upd (upd (upd F 2 (nI sz)) 9 (nI at9)) 10 (nI dp)) 11 (nI sg)) R Z B J K w) (hl0 : l.stackTraces = false) : PBn l G pX0 yX8_condition cX8_condition 2 (some (.object "JinjaTongue$Node")) ({ frames := (40 * n + 42), cells := (2 * (sz - at9) + 20), slots := (11 * (2 * (sz - at9) + 20)), locals := (1300 * n + 1340) }) [.ref (a 3)] w (fun (v : Option Value) (u : va_W × (Nat × PK × (Nat → Nat → Nat) × Nat × Nat × (Nat → Int32) × Nat)) => v = some (.ref u.2.1) ∧ (NwR K u.2.2.1 g u.2.2.2.1 u.2.1 O u.2.2.2.2.2.2.2 (5 * (20 - dp) + 6 + (u.2.2.2.2.2.1 - sg))) ∧ (at9 + 1 ≤ rS u.2.2.2.2.2.2.2 ∧ rS u.2.2.2.2.2.2.2 + 1 ≤ rE u.2.2.2.2.2.2.2 ∧ rE u.2.2.2.2.2.2.2 + 1 ≤ u.2.2.2.2.1 ∧ 1 ≤ rD u.2.2.2.2.2.2.2 ∧ rD u.2.2.2.2.2.2.2 ≤ 9 * (20 - dp) + (u.2.2.2.2.2.1 - sg) + 1) ∧ (at9 + 3 ≤ u.2.2.2.2.1 ∧ u.2.2.2.2.1 ≤ sz) ∧ (sg ≤ u.2.2.2.2.2.1 ∧ u.2.2.2.2.2.1 ≤ 60) ∧ (NwT (B 7) sz (B 10) u.2.2.2.2.2.2.1 K u.2.2.1 at9 u.2.2.2.2.1) ∧ (OKP G h0 a (upd (upd (upd (upd F 2 (nI sz)) 9 (nI u.2.2.2.2.1)) 10 (nI dp)) 11 (nI u.2.2.2.2.2.1)) R Z (updA B 10 u.2.2.2.2.2.2.1) J u.2.2.1 u.1)) (fun u => u.1) (fun (u : va_W × (Nat × PK × (Nat → Nat → Nat) × Nat × Nat × (Nat → Int32) × Nat)) => (2 * (u.2.2.2.2.1 - at9) - 5)) (fun (u : va_W × (Nat × PK × (Nat → Nat → Nat) × Nat × Nat × (Nat → Int32) × Nat)) => (11 * (2 * (u.2.2.2.2.1 - at9) - 5))) (fun (u : va_W × (Nat → Int32) × (Nat → Value) × (Nat → Nat → Int32)) => ThQ G h0 a (upd (upd (upd (upd F 2 (nI sz)) 9 (nI at9)) 10 (nI dp)) 11 (nI sg)) R Z B J u) (fun u => u.1) := by
  intro sz
  refine vx_ofW (cc := cX8_condition) (maxL := 2) (ret := (some (.object "JinjaTongue$Node"))) (by decide) rfl ?_
  intro p e s m args below meth c s₁ B9 hml hnt hv
  obtain ⟨rfl, hsz, hP, hD0, hE, hX⟩ := hv
  have hx := B9.exec
  have hb := B9.bytes
  have hr := B9.returns
  have hts := atoms_spec (ws := Cond.code yX8_condition cX8_condition 2 (some (.object "JinjaTongue$Node")) :: pw) B9.pre
  have hq : ∀ w ∈ pw, w.before _ s = true := fun w h => hts w (List.mem_cons_of_mem _ h)
  have hown : s.vm.findClass RX8 = some m.cls := findClass_of_methodNamed B9.named
  have hlocks := B9.notSynchronized
  subst hsz
  have hD := hD0.self (sz := s.heap.size)
  have hA : ∀ q : Nat, s.heap.size ≤ q → va_A w s.heap.size q := fun q h => Or.inr h
  generalize va_A w s.heap.size = A at hD hE hA ⊢
  have hS : va_S A s.heap s.heap [] := va_S.rf
  have hl := lv_entry ([.ref (a 3)]) (n := 2) (Nat.le_of_ble_eq_true rfl)
  rw [lg_entry_eq]
  generalize (lg_sl ([.ref (a 3)]) ++ List.replicate (2 - (lg_sl ([.ref (a 3)])).length) Slot.unset).toArray = ls at hl ⊢
  have hl : lv_has ls 2 [(0, .ref (a 3))] := hl
  have htk0 : NwT (B 7) sz (B 10) (B 10) K K at9 at9 := NwT.nil
  refine lv_aload_n hx hb dX8_condition_0 rfl (lv_at hl 0 rfl) ?_
  refine lv_bipush (v := 34) hx hb dX8_condition_1 (by decide) ?_
  have hO : OKW G h0 a (upd (upd (upd (upd (upd (upd F 2 (nI sz)) 9 (nI at9)) 10 (nI dp)) 11 (nI sg)) 2 (nI sz)) 9 (nI at9)) R Z B J K.1 (fun q99 x99 => x99 = rep G a K q99) w := hO.to rfl
  obtain ⟨_, qr4, hqr5⟩ := hO.2.1 23 _ (sg_23 G h0 a _ _ _ _ _)
  refine pn_V0 (G := G) (As := [.int 34]) (rest := []) hx hb hml hown hq hE hX pX0_al hP hD hS hA hl.1 (P_take l G h0 a (upd (upd (upd (upd F 2 (nI sz)) 9 (nI at9)) 10 (nI dp)) 11 (nI sg)) R Z B J K.1 (fun q99 x99 => x99 = rep G a K q99) w 34 at9 sz (by omega) (by omega) (by decide) hO hl0) (gV pw_793 pw_794 pw_795 pw_796 pw_781) hV_X8_take qr4 5 hqr5 rfl rfl rfl (Nat.le_of_ble_eq_true rfl) dX8_condition_3 ⟨(by show 0 + 1 ≤ (2 * (sz - at9) + 20); omega), (by show 0 + 6 ≤ (11 * (2 * (sz - at9) + 20)); omega)⟩ ⟨(by show 7 + 1 ≤ (40 * n + 42); omega), (by show 8 + (2 + 11) + 122 ≤ (1300 * n + 1340); omega)⟩ (fun v3 u1 H locs hw2 hP hD hS => ?_) (fun ux ce9 q9 H9 locs9 hux hP9 hD9 hS9 hce hcv hcl => pb_out ux (ThQ.up (Thx.same (Thx.same Thx.rfl rfl) rfl) RhX.rfl hux) hnt hlocks hce hcv hcl hP9 hD9 hS9 (by show 0 + 1 ≤ (2 * (sz - at9) + 20); omega) (by show 0 + 6 ≤ (11 * (2 * (sz - at9) + 20)); omega))
  obtain ⟨w, _⟩ := u1
  obtain ⟨hw2, h6, h7, hO⟩ := hw2
  have h6 : at9 + 1 ≤ sz := h6
  have h7 : tkN ((B 7)) sz 67 (nI at9) = 34 := h7
  obtain rfl : v3 = some (.int (nI at9)) := hw2
  have hO : OKP G h0 a (upd (upd (upd (upd F 2 (nI sz)) 9 (nI (at9 + 1))) 10 (nI dp)) 11 (nI sg)) R Z B J K w := hO.to rfl
  refine W.widen (k := 0) (n := 0) (by show 0 + 0 ≤ 0; omega) (by show 0 + 0 ≤ 0; omega) ?_
  refine W.eq (g2 := F0 m 6 ls [.int (nI at9)]) rfl ?_
  refine lv_pop hx hb dX8_condition_6 rfl ?_
  refine lv_aload_n hx hb dX8_condition_7 rfl (lv_at hl 0 rfl) ?_
  have hO : OKP G h0 a (upd (upd (upd (upd (upd (upd (upd (upd (upd F 2 (nI sz)) 9 (nI at9)) 10 (nI dp)) 11 (nI sg)) 9 (nI (at9 + 1))) 2 (nI sz)) 9 (nI (at9 + 1))) 10 (nI dp)) 11 (nI sg)) R Z B J K w := hO.to rfl
  obtain ⟨_, qr11, hqr12⟩ := hO.2.1 23 _ (sg_23 G h0 a _ _ _ _ _)
  refine pn_V0 (G := G) (As := []) (rest := []) hx hb hml hown hq hE hX pX0_al hP hD hS hA hl.1 (((PE_all l G n).1) h0 a (upd (upd (upd (upd (upd F 2 (nI sz)) 9 (nI at9)) 10 (nI dp)) 11 (nI sg)) 9 (nI (at9 + 1))) R Z B J K w (at9 + 1) sz dp sg O g (by omega) (by omega) hdp (by omega) hwn how hO hl0) (gV pw_916 pw_917 pw_918 pw_796 pw_942) hV_X8_expression qr11 5 hqr12 rfl rfl rfl (Nat.le_of_ble_eq_true rfl) dX8_condition_8 ⟨(by show 0 + (2 * (sz - (at9 + 1)) + 20) ≤ (2 * (sz - at9) + 20); omega), (by show 0 + (11 * (2 * (sz - (at9 + 1)) + 20)) ≤ (11 * (2 * (sz - at9) + 20)); omega)⟩ ⟨(by show (40 * n + 40) + 1 ≤ (40 * n + 42); omega), (by show 8 + (3 + 11) + (1300 * n + 1300) ≤ (1300 * n + 1340); omega)⟩ (fun v10 u8 H locs hw9 hP hD hS => ?_) (fun ux ce9 q9 H9 locs9 hux hP9 hD9 hS9 hce hcv hcl => pb_out ux (ThQ.up (Thx.same (Thx.same (Thx.same (Thx.same (Thx.f Thx.rfl (by omega)) rfl) rfl) rfl) rfl) RhX.rfl hux) hnt hlocks hce hcv hcl hP9 hD9 hS9 (by show 0 + (2 * (sz - (at9 + 1)) + 20) ≤ (2 * (sz - at9) + 20); omega) (by show 0 + (11 * (2 * (sz - (at9 + 1)) + 20)) ≤ (11 * (2 * (sz - at9) + 20)); omega))
  obtain ⟨w, r13, K14, g15, at16, sg17, f18, k19⟩ := u8
  obtain ⟨hw9, h20, h21, h22, h23, h24, h25, hO⟩ := hw9
  have h20 : NwR K K14 g g15 r13 O k19 (5 * (20 - dp) + 6 + (sg17 - sg)) := h20
  have h21 : (at9 + 1) ≤ rS k19 ∧ rS k19 + 1 ≤ rE k19 ∧ rE k19 ≤ at16 ∧ 1 ≤ rD k19 ∧ rD k19 ≤ 9 * (20 - dp) + (sg17 - sg) + 1 := h21
  have h22 : (at9 + 1) + 1 ≤ at16 ∧ at16 ≤ sz := h22
  have h23 : sg ≤ sg17 ∧ sg17 ≤ 60 := h23
  have h24 : ¬ tkN ((B 7)) sz 67 (nI (at9 + 1)) = 37 := h24
  have h25 : NwT ((B 7)) sz ((B 10)) f18 K K14 (at9 + 1) at16 := h25
  obtain rfl : v10 = some (.ref r13) := hw9
  have hO : OKP G h0 a (upd (upd (upd (upd F 2 (nI sz)) 9 (nI at16)) 10 (nI dp)) 11 (nI sg17)) R Z (updA B 10 f18) J K14 w := hO.to rfl
  refine W.widen (k := (2 * (at16 - (at9 + 1)) - 1)) (n := (11 * (2 * (at16 - (at9 + 1)) - 1))) (by show 0 + (2 * (at16 - (at9 + 1)) - 1) ≤ (2 * (at16 - (at9 + 1)) - 1); omega) (by show 0 + (11 * (2 * (at16 - (at9 + 1)) - 1)) ≤ (11 * (2 * (at16 - (at9 + 1)) - 1)); omega) ?_
  refine W.eq (g2 := F0 m 11 ls [.ref r13]) rfl ?_
  have htk26 : NwT (B 7) sz (B 10) f18 K K14 at9 at16 := (NwT.call htk0 h25 (by omega))
  refine lv_astore_n (lv' := [(1, .ref r13), (0, .ref (a 3))]) hx hb dX8_condition_11 rfl hl (by decide) rfl (fun ls hl => ?_)
  refine lv_aload_n hx hb dX8_condition_12 rfl (lv_at hl 1 rfl) ?_
  refine lv_bipush (v := 35) hx hb dX8_condition_13 (by decide) ?_
  have hO : OKW G h0 a (upd (upd (upd (upd (upd (upd (upd (upd F 2 (nI sz)) 9 (nI at9)) 10 (nI dp)) 11 (nI sg)) 9 (nI at16)) 11 (nI sg17)) 2 (nI sz)) 9 (nI at16)) R Z (updA B 10 f18) J K14.1 (fun q99 x99 => x99 = rep G a K14 q99) w := hO.to rfl
  obtain ⟨_, qr30, hqr31⟩ := hO.2.1 23 _ (sg_23 G h0 a _ _ _ _ _)
  refine pn_V0 (G := G) (As := [.int 35]) (rest := []) hx hb hml hown hq hE hX pX0_al hP hD hS hA hl.1 (P_take l G h0 a (upd (upd (upd (upd (upd (upd F 2 (nI sz)) 9 (nI at9)) 10 (nI dp)) 11 (nI sg)) 9 (nI at16)) 11 (nI sg17)) R Z (updA B 10 f18) J K14.1 (fun q99 x99 => x99 = rep G a K14 q99) w 35 at16 sz (by omega) (by omega) (by decide) hO hl0) (gV pw_793 pw_794 pw_795 pw_796 pw_781) hV_X8_take qr30 5 hqr31 rfl rfl rfl (Nat.le_of_ble_eq_true rfl) dX8_condition_15 ⟨(by show (2 * (at16 - (at9 + 1)) - 1) + 1 ≤ (2 * (sz - at9) + 20); omega), (by show (11 * (2 * (at16 - (at9 + 1)) - 1)) + 6 ≤ (11 * (2 * (sz - at9) + 20)); omega)⟩ ⟨(by show 7 + 1 ≤ (40 * n + 42); omega), (by show 8 + (2 + 11) + 122 ≤ (1300 * n + 1340); omega)⟩ (fun v29 u27 H locs hw28 hP hD hS => ?_) (fun ux ce9 q9 H9 locs9 hux hP9 hD9 hS9 hce hcv hcl => pb_out ux (ThQ.up (Thx.same (Thx.same (Thx.b (Thx.f (Thx.f Thx.rfl (by omega)) (by omega)) (by omega) (by decide)) rfl) rfl) RhX.rfl hux) hnt hlocks hce hcv hcl hP9 hD9 hS9 (by show (2 * (at16 - (at9 + 1)) - 1) + 1 ≤ (2 * (sz - at9) + 20); omega) (by show (11 * (2 * (at16 - (at9 + 1)) - 1)) + 6 ≤ (11 * (2 * (sz - at9) + 20)); omega))
  obtain ⟨w, _⟩ := u27
  obtain ⟨hw28, h32, h33, hO⟩ := hw28
  have h32 : at16 + 1 ≤ sz := h32
  have h33 : tkN ((B 7)) sz 67 (nI at16) = 35 := h33
  obtain rfl : v29 = some (.int (nI at16)) := hw28
  have hO : OKP G h0 a (upd (upd (upd (upd F 2 (nI sz)) 9 (nI (at16 + 1))) 10 (nI dp)) 11 (nI sg17)) R Z (updA B 10 f18) J K14 w := hO.to rfl
  refine W.widen (k := (2 * (at16 - (at9 + 1)) - 1)) (n := (11 * (2 * (at16 - (at9 + 1)) - 1))) (by show (2 * (at16 - (at9 + 1)) - 1) + 0 ≤ (2 * (at16 - (at9 + 1)) - 1); omega) (by show (11 * (2 * (at16 - (at9 + 1)) - 1)) + 0 ≤ (11 * (2 * (at16 - (at9 + 1)) - 1)); omega) ?_
  refine W.eq (g2 := F0 m 18 ls [.int (nI at16)]) rfl ?_
  refine lv_pop hx hb dX8_condition_18 rfl ?_
  refine lv_aload_n hx hb dX8_condition_19 rfl (lv_at hl 0 rfl) ?_
  refine W_size (fun hz1 hz2 => ?_)
  refine vx_ret ?_
  have hz34 : NwR K K14 g g15 r13 O k19 (5 * (20 - dp) + 6 + (sg17 - sg)) := h20
  have hz35 : at9 + 1 ≤ rS k19 ∧ rS k19 + 1 ≤ rE k19 ∧ rE k19 + 1 ≤ (at16 + 1) ∧ 1 ≤ rD k19 ∧ rD k19 ≤ 9 * (20 - dp) + (sg17 - sg) + 1 := (by omega)
  have hz36 : at9 + 3 ≤ (at16 + 1) ∧ (at16 + 1) ≤ sz := (by omega)
  have hz37 : sg ≤ sg17 ∧ sg17 ≤ 60 := (by omega)
  have hz38 : NwT (B 7) sz (B 10) f18 K K14 at9 (at16 + 1) := (NwT.le htk26 (by omega))
  have hO : OKP G h0 a (upd (upd (upd (upd F 2 (nI sz)) 9 (nI (at16 + 1))) 10 (nI dp)) 11 (nI sg17)) R Z (updA B 10 f18) J K14 w := hO.to rfl
  refine W.widen (k := (2 * (sz - at9) + 20)) (n := (11 * (2 * (sz - at9) + 20))) (by omega) (by omega) ?_
  have hzz1 : H.size ≤ s.heap.size + ((2 * ((at16 + 1) - at9) - 5)) := (by have z : (2 * (at16 - (at9 + 1)) - 1) ≤ (2 * ((at16 + 1) - at9) - 5) := (by omega); omega)
  have hzz2 : hSl H ≤ hSl s.heap + ((11 * (2 * ((at16 + 1) - at9) - 5))) := (by have z : (11 * (2 * (at16 - (at9 + 1)) - 1)) ≤ (11 * (2 * ((at16 + 1) - at9) - 5)) := (by omega); omega)
  exact W.aret (v := .ref r13) hx hb hr (Or.inl ⟨_, rfl⟩) (Or.inr ⟨_, rfl⟩) (fun t99 ht99 hW99 => ⟨⟨_, (w, (r13, K14, g15, (at16 + 1), sg17, f18, k19)), rfl, ⟨rfl, hz34, hz35, hz36, hz37, hz38, hO⟩, by rw [ht99]; exact hP, hD, by rw [ht99]; exact hzz1, by rw [ht99]; exact hzz2⟩, hS.F ht99⟩) hS.2.2 dX8_condition_20
theorem dX8_local_0 : decode cX8_local 0 = .ok (.aload_n 0, 1) := by decide +kernel
theorem dX8_local_1 : decode cX8_local 1 = .ok (.iconst 1, 1) := by decide +kernel
theorem dX8_local_2 : decode cX8_local 2 = .ok (.invokevirtual 132, 3) := by decide +kernel
theorem dX8_local_5 : decode cX8_local 5 = .ok (.istore_n 2, 1) := by decide +kernel
theorem dX8_local_6 : decode cX8_local 6 = .ok (.new 143, 3) := by decide +kernel
theorem dX8_local_9 : decode cX8_local 9 = .ok (.dup, 1) := by decide +kernel
theorem dX8_local_10 : decode cX8_local 10 = .ok (.bipush 22, 2) := by decide +kernel
theorem dX8_local_12 : decode cX8_local 12 = .ok (.aload_n 0, 1) := by decide +kernel
theorem dX8_local_13 : decode cX8_local 13 = .ok (.bipush 65, 2) := by decide +kernel
theorem dX8_local_15 : decode cX8_local 15 = .ok (.invokevirtual 53, 3) := by decide +kernel
theorem dX8_local_18 : decode cX8_local 18 = .ok (.iload_n 2, 1) := by decide +kernel
theorem dX8_local_19 : decode cX8_local 19 = .ok (.invokespecial 145, 3) := by decide +kernel
theorem dX8_local_22 : decode cX8_local 22 = .ok (.astore_n 3, 1) := by decide +kernel
theorem dX8_local_23 : decode cX8_local 23 = .ok (.iload_n 1, 1) := by decide +kernel
theorem dX8_local_24 : decode cX8_local 24 = .ok (.ifCond .eq 12, 3) := by decide +kernel
theorem dX8_local_36 : decode cX8_local 36 = .ok (.aload_n 0, 1) := by decide +kernel
theorem dX8_local_37 : decode cX8_local 37 = .ok (.bipush 43, 2) := by decide +kernel
theorem dX8_local_39 : decode cX8_local 39 = .ok (.invokevirtual 53, 3) := by decide +kernel
theorem dX8_local_42 : decode cX8_local 42 = .ok (.pop, 1) := by decide +kernel
theorem dX8_local_43 : decode cX8_local 43 = .ok (.aload_n 3, 1) := by decide +kernel
theorem dX8_local_44 : decode cX8_local 44 = .ok (.aload_n 0, 1) := by decide +kernel
theorem dX8_local_45 : decode cX8_local 45 = .ok (.invokevirtual 196, 3) := by decide +kernel
theorem dX8_local_48 : decode cX8_local 48 = .ok (.putfield 165, 3) := by decide +kernel
theorem dX8_local_51 : decode cX8_local 51 = .ok (.iload_n 1, 1) := by decide +kernel
theorem dX8_local_52 : decode cX8_local 52 = .ok (.ifCond .eq 10, 3) := by decide +kernel
theorem dX8_local_62 : decode cX8_local 62 = .ok (.aload_n 3, 1) := by decide +kernel
theorem dX8_local_63 : decode cX8_local 63 = .ok (.areturn, 1) := by decide +kernel
theorem dX8_local_55 : decode cX8_local 55 = .ok (.aload_n 0, 1) := by decide +kernel
theorem dX8_local_56 : decode cX8_local 56 = .ok (.bipush 38, 2) := by decide +kernel
theorem dX8_local_58 : decode cX8_local 58 = .ok (.invokevirtual 53, 3) := by decide +kernel
theorem dX8_local_61 : decode cX8_local 61 = .ok (.pop, 1) := by decide +kernel
theorem dX8_local_27 : decode cX8_local 27 = .ok (.aload_n 0, 1) := by decide +kernel
theorem dX8_local_28 : decode cX8_local 28 = .ok (.bipush 43, 2) := by decide +kernel
theorem dX8_local_30 : decode cX8_local 30 = .ok (.invokevirtual 36, 3) := by decide +kernel
theorem dX8_local_33 : decode cX8_local 33 = .ok (.ifCond .eq 18, 3) := by decide +kernel
set_option maxHeartbeats 20000000 in
set_option maxRecDepth 100000 in
theorem P_lokal (l : Launch) (G : pT) (h0 : Nat) (a : Nat → Nat) (F : Nat → Int32) (R : Nat → Value) (Z : Int64) (B : Nat → Nat → Int32) (J : Nat → Nat → Int64) (K : PK) (w : va_W) (x : Nat) (n : Nat) (at9 : Nat) (sz : Nat) (dp : Nat) (sg : Nat) (O : Nat) (g : Nat → Nat → Nat) (hsz : sz ≤ 5000) (hat : at9 ≤ sz) (hdp : dp + n = 20) (hsg : sg ≤ 60) (hwn : WN K g) (how : ∀ o : Nat, O = o + 1 → K.1 o = 1 ∧ g 0 o = 0 ∧ ¬ K.2.1 0 o = 32) (hx1x : x ≤ 1) (hO : OKP G h0 a (upd (upd (upd (upd F 2 (nI sz)) 9 (nI at9)) 10 (nI dp)) 11 (nI sg)) R Z B J K w) (hl0 : l.stackTraces = false) : PBn l G pX0 yX8_local cX8_local 4 (some (.object "JinjaTongue$Node")) ({ frames := (40 * n + 44), cells := (2 * (sz - at9) + 20), slots := (11 * (2 * (sz - at9) + 20)), locals := (1300 * n + 1400) }) [.ref (a 3), .int (nI x)] w (fun (v : Option Value) (u : va_W × (Nat × PK × (Nat → Nat → Nat) × Nat × Nat × (Nat → Int32) × Nat)) => v = some (.ref u.2.1) ∧ (NwR K u.2.2.1 g u.2.2.2.1 u.2.1 O u.2.2.2.2.2.2.2 (168)) ∧ (rS u.2.2.2.2.2.2.2 = at9 ∧ rE u.2.2.2.2.2.2.2 ≤ u.2.2.2.2.1 ∧ rS u.2.2.2.2.2.2.2 ≤ rE u.2.2.2.2.2.2.2 ∧ rD u.2.2.2.2.2.2.2 ≤ 2 * (20 - dp) + 2) ∧ (at9 + 2 ≤ u.2.2.2.2.1 ∧ u.2.2.2.2.1 ≤ sz) ∧ (sg ≤ u.2.2.2.2.2.1 ∧ u.2.2.2.2.2.1 ≤ 60) ∧ (u.2.2.1.2.1 0 u.2.1 = 22) ∧ (NwT (B 7) sz (B 10) u.2.2.2.2.2.2.1 K u.2.2.1 at9 u.2.2.2.2.1) ∧ (OKP G h0 a (upd (upd (upd (upd F 2 (nI sz)) 9 (nI u.2.2.2.2.1)) 10 (nI dp)) 11 (nI u.2.2.2.2.2.1)) R Z (updA B 10 u.2.2.2.2.2.2.1) J u.2.2.1 u.1)) (fun u => u.1) (fun (u : va_W × (Nat × PK × (Nat → Nat → Nat) × Nat × Nat × (Nat → Int32) × Nat)) => (2 * (u.2.2.2.2.1 - at9) - 3)) (fun (u : va_W × (Nat × PK × (Nat → Nat → Nat) × Nat × Nat × (Nat → Int32) × Nat)) => (11 * (2 * (u.2.2.2.2.1 - at9) - 3))) (fun (u : va_W × (Nat → Int32) × (Nat → Value) × (Nat → Nat → Int32)) => ThQ G h0 a (upd (upd (upd (upd F 2 (nI sz)) 9 (nI at9)) 10 (nI dp)) 11 (nI sg)) R Z B J u) (fun u => u.1) := by
  intro sz
  refine vx_ofW (cc := cX8_local) (maxL := 4) (ret := (some (.object "JinjaTongue$Node"))) (by decide) rfl ?_
  intro p e s m args below meth c s₁ B9 hml hnt hv
  obtain ⟨rfl, hsz, hP, hD0, hE, hX⟩ := hv
  have hx := B9.exec
  have hb := B9.bytes
  have hr := B9.returns
  have hts := atoms_spec (ws := Cond.code yX8_local cX8_local 4 (some (.object "JinjaTongue$Node")) :: pw) B9.pre
  have hq : ∀ w ∈ pw, w.before _ s = true := fun w h => hts w (List.mem_cons_of_mem _ h)
  have hown : s.vm.findClass RX8 = some m.cls := findClass_of_methodNamed B9.named
  have hlocks := B9.notSynchronized
  subst hsz
  have hD := hD0.self (sz := s.heap.size)
  have hA : ∀ q : Nat, s.heap.size ≤ q → va_A w s.heap.size q := fun q h => Or.inr h
  generalize va_A w s.heap.size = A at hD hE hA ⊢
  have hS : va_S A s.heap s.heap [] := va_S.rf
  have hl := lv_entry ([.ref (a 3), .int (nI x)]) (n := 4) (Nat.le_of_ble_eq_true rfl)
  rw [lg_entry_eq]
  generalize (lg_sl ([.ref (a 3), .int (nI x)]) ++ List.replicate (4 - (lg_sl ([.ref (a 3), .int (nI x)])).length) Slot.unset).toArray = ls at hl ⊢
  have hl : lv_has ls 4 [(0, .ref (a 3)), (1, .int (nI x))] := hl
  have htk0 : NwT (B 7) sz (B 10) (B 10) K K at9 at9 := NwT.nil
  have hns0 : NwS K K g g := NwS.nil hwn
  refine lv_aload_n hx hb dX8_local_0 rfl (lv_at hl 0 rfl) ?_
  refine lv_iconst (v := 1) hx hb dX8_local_1 (by decide) ?_
  have hO : OKW G h0 a (upd (upd (upd (upd (upd (upd F 2 (nI sz)) 9 (nI at9)) 10 (nI dp)) 11 (nI sg)) 2 (nI sz)) 9 (nI at9)) R Z B J K.1 (fun q99 x99 => x99 = rep G a K q99) w := hO.to rfl
  obtain ⟨_, qr4, hqr5⟩ := hO.2.1 23 _ (sg_23 G h0 a _ _ _ _ _)
  refine pn_V0 (G := G) (As := [.int 1]) (rest := []) hx hb hml hown hq hE hX pX0_al hP hD hS hA hl.1 (P_takeType l G h0 a (upd (upd (upd (upd F 2 (nI sz)) 9 (nI at9)) 10 (nI dp)) 11 (nI sg)) R Z B J K.1 (fun q99 x99 => x99 = rep G a K q99) w 1 at9 sz (by omega) (by omega) hO hl0) (gV pw_825 pw_826 pw_827 pw_796 pw_821) hV_X8_takeType qr4 5 hqr5 rfl rfl rfl (Nat.le_of_ble_eq_true rfl) dX8_local_2 ⟨(by show 0 + 1 ≤ (2 * (sz - at9) + 20); omega), (by show 0 + 6 ≤ (11 * (2 * (sz - at9) + 20)); omega)⟩ ⟨(by show 7 + 1 ≤ (40 * n + 44); omega), (by show 8 + (4 + 11) + 122 ≤ (1300 * n + 1400); omega)⟩ (fun v3 u1 H locs hw2 hP hD hS => ?_) (fun ux ce9 q9 H9 locs9 hux hP9 hD9 hS9 hce hcv hcl => pb_out ux (ThQ.up (Thx.same (Thx.same Thx.rfl rfl) rfl) RhX.rfl hux) hnt hlocks hce hcv hcl hP9 hD9 hS9 (by show 0 + 1 ≤ (2 * (sz - at9) + 20); omega) (by show 0 + 6 ≤ (11 * (2 * (sz - at9) + 20)); omega))
  obtain ⟨w, at6, f7⟩ := u1
  obtain ⟨hw2, h8, h9, h10, h11, hO⟩ := hw2
  have h8 : at9 + 1 ≤ at6 ∧ at6 ≤ sz := h8
  have h9 : RoS ((B 10)) f7 at9 := h9
  have h10 : TtQ ((B 7)) sz f7 at9 := h10
  have h11 : (1 : Int32) = 0 → at6 = at9 + 1 := h11
  obtain rfl : v3 = some (.int (nI at9)) := hw2
  have hO : OKP G h0 a (upd (upd (upd (upd F 2 (nI sz)) 9 (nI at6)) 10 (nI dp)) 11 (nI sg)) R Z (updA B 10 f7) J K w := hO.to rfl
  refine W.widen (k := 0) (n := 0) (by show 0 + 0 ≤ 0; omega) (by show 0 + 0 ≤ 0; omega) ?_
  refine W.eq (g2 := F0 m 5 ls [.int (nI at9)]) rfl ?_
  have htk12 : NwT (B 7) sz (B 10) f7 K K at9 at9 := (NwT.role htk0 h9 (by omega))
  refine lv_istore_n (lv' := [(2, .int (nI at9)), (0, .ref (a 3)), (1, .int (nI x))]) hx hb dX8_local_5 rfl hl (by decide) rfl (fun ls hl => ?_)
  refine p_new (s9 := 1) (C := RX7) (T := TX7) (N := 11) (ci := 13) (fs := [.int 0, .int 0, .int 0, .int 0, .int 0, .int 0, .null, .null, .null, .null, .null]) hx hb hq pin_wsX70 tyX7 tyX7_ok hown (hq _ pw_870) (hq _ pw_871) (hq _ pw_872) hE hP hD hS hA hO rfl nw_X7 (by decide) (fun q => by rw [rep_1 (show (kN K q 1 0).1 q = 1 from if_pos rfl)]; unfold fsNode kN; simp only [if_true]; rfl) (by show 0 + 1 ≤ (2 * (sz - at9) + 20); omega) (by show 0 + 11 ≤ (11 * (2 * (sz - at9) + 20)); omega) dX8_local_6 (fun q13 H w hq14 hP hD hS hO => ?_)
  have hf15 : (kN K q13 1 0).1 q13 = 1 := if_pos rfl
  refine W.widen (k := 1) (n := 11) (by show 0 + 1 ≤ 1; omega) (by show 0 + 11 ≤ 11; omega) ?_
  refine lv_dup hx hb dX8_local_9 rfl ?_
  refine lv_bipush (v := 22) hx hb dX8_local_10 (by decide) ?_
  refine lv_aload_n hx hb dX8_local_12 rfl (lv_at hl 1 rfl) ?_
  refine lv_bipush (v := 65) hx hb dX8_local_13 (by decide) ?_
  have hO : OKW G h0 a (upd (upd (upd (upd (upd (upd (upd F 2 (nI sz)) 9 (nI at9)) 10 (nI dp)) 11 (nI sg)) 9 (nI at6)) 2 (nI sz)) 9 (nI at6)) R Z (updA B 10 f7) J ((kN K q13 1 0).1) (fun q99 x99 => x99 = rep G a (kN K q13 1 0) q99) w := hO.to rfl
  obtain ⟨_, qr19, hqr20⟩ := hO.2.1 23 _ (sg_23 G h0 a _ _ _ _ _)
  refine pn_V0 (G := G) (As := [.int 65]) (rest := [.int 22, .ref q13, .ref q13]) hx hb hml hown hq hE hX pX0_al hP hD hS hA hl.1 (P_take l G h0 a (upd (upd (upd (upd (upd F 2 (nI sz)) 9 (nI at9)) 10 (nI dp)) 11 (nI sg)) 9 (nI at6)) R Z (updA B 10 f7) J ((kN K q13 1 0).1) (fun q99 x99 => x99 = rep G a (kN K q13 1 0) q99) w 65 at6 sz (by omega) (by omega) (by decide) hO hl0) (gV pw_793 pw_794 pw_795 pw_796 pw_781) hV_X8_take qr19 5 hqr20 rfl rfl rfl (Nat.le_of_ble_eq_true rfl) dX8_local_15 ⟨(by show 1 + 1 ≤ (2 * (sz - at9) + 20); omega), (by show 11 + 6 ≤ (11 * (2 * (sz - at9) + 20)); omega)⟩ ⟨(by show 7 + 1 ≤ (40 * n + 44); omega), (by show 8 + (2 + 11) + 122 ≤ (1300 * n + 1400); omega)⟩ (fun v18 u16 H locs hw17 hP hD hS => ?_) (fun ux ce9 q9 H9 locs9 hux hP9 hD9 hS9 hce hcv hcl => pb_out ux (ThQ.up (Thx.same (Thx.same (Thx.b (Thx.f Thx.rfl (by omega)) (by omega) (by decide)) rfl) rfl) RhX.rfl hux) hnt hlocks hce hcv hcl hP9 hD9 hS9 (by show 1 + 1 ≤ (2 * (sz - at9) + 20); omega) (by show 11 + 6 ≤ (11 * (2 * (sz - at9) + 20)); omega))
  obtain ⟨w, _⟩ := u16
  obtain ⟨hw17, h21, h22, hO⟩ := hw17
  have h21 : at6 + 1 ≤ sz := h21
  have h22 : tkN ((B 7)) sz 67 (nI at6) = 65 := h22
  obtain rfl : v18 = some (.int (nI at6)) := hw17
  have hO : OKP G h0 a (upd (upd (upd (upd F 2 (nI sz)) 9 (nI (at6 + 1))) 10 (nI dp)) 11 (nI sg)) R Z (updA B 10 f7) J (kN K q13 1 0) w := hO.to rfl
  refine W.widen (k := 1) (n := 11) (by show 1 + 0 ≤ 1; omega) (by show 11 + 0 ≤ 11; omega) ?_
  refine W.eq (g2 := F0 m 18 ls [.int (nI at6), .int 22, .ref q13, .ref q13]) rfl ?_
  refine lv_iload_n hx hb dX8_local_18 rfl (lv_at hl 0 rfl) ?_
  have hO : OKP G h0 a (upd (upd (upd (upd F 2 (nI sz)) 9 (nI (at6 + 1))) 10 (nI dp)) 11 (nI sg)) R Z (updA B 10 f7) J (kN K q13 1 0) w := hO.to rfl
  obtain ⟨qr26, hqr27⟩ := p_recv hO (by rw [hf15]; decide) (rep_1 hf15)
  refine pc_I0 (G := G) (As := [.int 22, .int (nI at6), .int (nI at9)]) (rest := [.ref q13]) hx hb hml hown hq hE hX pX0_al hP hD hS hA hl.1 (N_init l G h0 a (upd (upd (upd (upd F 2 (nI sz)) 9 (nI (at6 + 1))) 10 (nI dp)) 11 (nI sg)) R Z (updA B 10 f7) J (kN K q13 1 0) w q13 22 (nI at6) (nI at9) (by omega) hO) pw_874 pw_875 pw_872 pw_765 rfl hS_X7_init rfl (Nat.le_of_ble_eq_true rfl) dX8_local_19 ⟨(by show 1 + 0 ≤ (2 * (sz - at9) + 20); omega), (by show 11 + 0 ≤ (11 * (2 * (sz - at9) + 20)); omega)⟩ ⟨(by show 2 + 1 ≤ (40 * n + 44); omega), (by show 8 + (4 + 11) + 60 ≤ (1300 * n + 1400); omega)⟩ (fun v25 u23 H locs hw24 hP hD hS => ?_)
  obtain ⟨w, _⟩ := u23
  obtain ⟨hw24, hO⟩ := hw24
  obtain rfl : v25 = none := hw24
  have hf28 : (kI (kI (kI (kN K q13 1 0) 0 q13 22) 1 q13 (nI at6)) 2 q13 (nI at9)).1 q13 = 1 := hf15
  have hO : OKP G h0 a (upd (upd (upd (upd F 2 (nI sz)) 9 (nI (at6 + 1))) 10 (nI dp)) 11 (nI sg)) R Z (updA B 10 f7) J (kI (kI (kI (kN K q13 1 0) 0 q13 22) 1 q13 (nI at6)) 2 q13 (nI at9)) w := hO.to rfl
  refine W.widen (k := 1) (n := 11) (by show 1 + 0 ≤ 1; omega) (by show 11 + 0 ≤ 11; omega) ?_
  refine W.eq (g2 := F0 m 22 ls [.ref q13]) rfl ?_
  change OKP G h0 a (upd (upd (upd (upd F 2 (nI sz)) 9 (nI (at6 + 1))) 10 (nI dp)) 11 (nI sg)) R Z (updA B 10 f7) J (mkN K q13 22 (nI at6) (nI at9)) w at hO
  obtain ⟨K29, hK30⟩ : ∃ z : PK, z = (mkN K q13 22 (nI at6) (nI at9)) := ⟨_, rfl⟩
  rw [← hK30] at hO
  have htk31 : NwT (B 7) sz (B 10) f7 K K29 at9 (at6 + 1) := by rw [hK30]; exact NwT.new (NwT.le htk12 (show _ ≤ (at6 + 1) by omega)) hq14 (TkP.no (by decide))
  have hf32 : K29.1 q13 = 1 := by rw [hK30]; exact mkN_T
  have hf33 : K29.2.1 0 q13 = 22 := by rw [hK30]; exact mkN_0
  have hf34 : K29.2.1 2 q13 = (nI at9) := by rw [hK30]; exact mkN_2
  have hf35 : K29.2.2.1 0 q13 = none := by rw [hK30]; exact mkN_C
  have hf36 : K29.2.2.1 1 q13 = none := by rw [hK30]; exact mkN_C
  have hf37 : K29.2.2.1 2 q13 = none := by rw [hK30]; exact mkN_C
  have hf38 : K29.2.2.1 3 q13 = none := by rw [hK30]; exact mkN_C
  have hf39 : K29.2.2.1 4 q13 = none := by rw [hK30]; exact mkN_C
  have hns40 : NwS K K29 g (gset g q13 0 0 0) := by rw [hK30]; exact NwS.node hns0 hq14
  have hq41 : K.1 q13 = 0 := old_T hns0.2.1 hq14
  have hg42 : (gset g q13 0 0 0) 0 q13 = 0 := gset_0
  have hno43 : NoO K29 (gset g q13 0 0 0) q13 := by rw [hK30]; exact NoO.new hns0.1 hq14
  refine lv_astore_n (lv' := [(3, .ref q13), (2, .int (nI at9)), (0, .ref (a 3)), (1, .int (nI x))]) hx hb dX8_local_22 rfl hl (by decide) rfl (fun ls hl => ?_)
  refine lv_iload_n hx hb dX8_local_23 rfl (lv_at hl 3 rfl) ?_
  refine lv_if_eq (tgt := 36) hx hb dX8_local_24 (by decide) (fun c44 => ?_) (fun c44 => ?_)
  · have n45 : x = 0 := (nI_eq (a := x) (b := 0) (by omega) (by omega)).mp c44
    refine lv_aload_n hx hb dX8_local_36 rfl (lv_at hl 2 rfl) ?_
    refine lv_bipush (v := 43) hx hb dX8_local_37 (by decide) ?_
    have hO : OKW G h0 a (upd (upd (upd (upd (upd (upd (upd F 2 (nI sz)) 9 (nI at9)) 10 (nI dp)) 11 (nI sg)) 9 (nI (at6 + 1))) 2 (nI sz)) 9 (nI (at6 + 1))) R Z (updA B 10 f7) J K29.1 (fun q99 x99 => x99 = rep G a K29 q99) w := hO.to rfl
    obtain ⟨_, qr49, hqr50⟩ := hO.2.1 23 _ (sg_23 G h0 a _ _ _ _ _)
    refine pn_V0 (G := G) (As := [.int 43]) (rest := []) hx hb hml hown hq hE hX pX0_al hP hD hS hA hl.1 (P_take l G h0 a (upd (upd (upd (upd (upd F 2 (nI sz)) 9 (nI at9)) 10 (nI dp)) 11 (nI sg)) 9 (nI (at6 + 1))) R Z (updA B 10 f7) J K29.1 (fun q99 x99 => x99 = rep G a K29 q99) w 43 (at6 + 1) sz (by omega) (by omega) (by decide) hO hl0) (gV pw_793 pw_794 pw_795 pw_796 pw_781) hV_X8_take qr49 5 hqr50 rfl rfl rfl (Nat.le_of_ble_eq_true rfl) dX8_local_39 ⟨(by show 1 + 1 ≤ (2 * (sz - at9) + 20); omega), (by show 11 + 6 ≤ (11 * (2 * (sz - at9) + 20)); omega)⟩ ⟨(by show 7 + 1 ≤ (40 * n + 44); omega), (by show 8 + (2 + 11) + 122 ≤ (1300 * n + 1400); omega)⟩ (fun v48 u46 H locs hw47 hP hD hS => ?_) (fun ux ce9 q9 H9 locs9 hux hP9 hD9 hS9 hce hcv hcl => pb_out ux (ThQ.up (Thx.same (Thx.same (Thx.b (Thx.f Thx.rfl (by omega)) (by omega) (by decide)) rfl) rfl) RhX.rfl hux) hnt hlocks hce hcv hcl hP9 hD9 hS9 (by show 1 + 1 ≤ (2 * (sz - at9) + 20); omega) (by show 11 + 6 ≤ (11 * (2 * (sz - at9) + 20)); omega))
    obtain ⟨w, _⟩ := u46
    obtain ⟨hw47, h51, h52, hO⟩ := hw47
    have h51 : (at6 + 1) + 1 ≤ sz := h51
    have h52 : tkN ((B 7)) sz 67 (nI (at6 + 1)) = 43 := h52
    obtain rfl : v48 = some (.int (nI (at6 + 1))) := hw47
    have hO : OKP G h0 a (upd (upd (upd (upd F 2 (nI sz)) 9 (nI ((at6 + 1) + 1))) 10 (nI dp)) 11 (nI sg)) R Z (updA B 10 f7) J K29 w := hO.to rfl
    refine W.widen (k := 1) (n := 11) (by show 1 + 0 ≤ 1; omega) (by show 11 + 0 ≤ 11; omega) ?_
    refine W.eq (g2 := F0 m 42 ls [.int (nI (at6 + 1))]) rfl ?_
    refine lv_pop hx hb dX8_local_42 rfl ?_
    refine lv_aload_n hx hb dX8_local_43 rfl (lv_at hl 0 rfl) ?_
    refine lv_aload_n hx hb dX8_local_44 rfl (lv_at hl 2 rfl) ?_
    have hO : OKP G h0 a (upd (upd (upd (upd (upd (upd (upd (upd (upd F 2 (nI sz)) 9 (nI at9)) 10 (nI dp)) 11 (nI sg)) 9 (nI ((at6 + 1) + 1))) 2 (nI sz)) 9 (nI ((at6 + 1) + 1))) 10 (nI dp)) 11 (nI sg)) R Z (updA B 10 f7) J K29 w := hO.to rfl
    obtain ⟨_, qr56, hqr57⟩ := hO.2.1 23 _ (sg_23 G h0 a _ _ _ _ _)
    refine pn_V0 (G := G) (As := []) (rest := [.ref q13]) hx hb hml hown hq hE hX pX0_al hP hD hS hA hl.1 (((PE_all l G n).1) h0 a (upd (upd (upd (upd (upd F 2 (nI sz)) 9 (nI at9)) 10 (nI dp)) 11 (nI sg)) 9 (nI ((at6 + 1) + 1))) R Z (updA B 10 f7) J K29 w ((at6 + 1) + 1) sz dp sg 0 (gset g q13 0 0 0) (by omega) (by omega) hdp (by omega) hns40.1 (fun o9 h9 => absurd h9 (by omega)) hO hl0) (gV pw_916 pw_917 pw_918 pw_796 pw_942) hV_X8_expression qr56 5 hqr57 rfl rfl rfl (Nat.le_of_ble_eq_true rfl) dX8_local_45 ⟨(by show 1 + (2 * (sz - ((at6 + 1) + 1)) + 20) ≤ (2 * (sz - at9) + 20); omega), (by show 11 + (11 * (2 * (sz - ((at6 + 1) + 1)) + 20)) ≤ (11 * (2 * (sz - at9) + 20)); omega)⟩ ⟨(by show (40 * n + 40) + 1 ≤ (40 * n + 44); omega), (by show 8 + (3 + 11) + (1300 * n + 1300) ≤ (1300 * n + 1400); omega)⟩ (fun v55 u53 H locs hw54 hP hD hS => ?_) (fun ux ce9 q9 H9 locs9 hux hP9 hD9 hS9 hce hcv hcl => pb_out ux (ThQ.up (Thx.same (Thx.same (Thx.same (Thx.same (Thx.b (Thx.f Thx.rfl (by omega)) (by omega) (by decide)) rfl) rfl) rfl) rfl) RhX.rfl hux) hnt hlocks hce hcv hcl hP9 hD9 hS9 (by show 1 + (2 * (sz - ((at6 + 1) + 1)) + 20) ≤ (2 * (sz - at9) + 20); omega) (by show 11 + (11 * (2 * (sz - ((at6 + 1) + 1)) + 20)) ≤ (11 * (2 * (sz - at9) + 20)); omega))
    obtain ⟨w, r58, K59, g60, at61, sg62, f63, k64⟩ := u53
    obtain ⟨hw54, h65, h66, h67, h68, h69, h70, hO⟩ := hw54
    have h65 : NwR K29 K59 (gset g q13 0 0 0) g60 r58 0 k64 (5 * (20 - dp) + 6 + (sg62 - sg)) := h65
    have h66 : ((at6 + 1) + 1) ≤ rS k64 ∧ rS k64 + 1 ≤ rE k64 ∧ rE k64 ≤ at61 ∧ 1 ≤ rD k64 ∧ rD k64 ≤ 9 * (20 - dp) + (sg62 - sg) + 1 := h66
    have h67 : ((at6 + 1) + 1) + 1 ≤ at61 ∧ at61 ≤ sz := h67
    have h68 : sg ≤ sg62 ∧ sg62 ≤ 60 := h68
    have h69 : ¬ tkN ((B 7)) sz 67 (nI ((at6 + 1) + 1)) = 37 := h69
    have h70 : NwT ((B 7)) sz (f7) f63 K29 K59 ((at6 + 1) + 1) at61 := h70
    obtain rfl : v55 = some (.ref r58) := hw54
    have hf71 : K59.1 q13 = 1 := (((h65).2.1.1 q13 (by rw [hf32]; decide)).1).trans hf32
    have hf72 : K59.2.1 0 q13 = 22 := (((h65).2.1.1 q13 (by rw [hf32]; decide)).2.1 0).trans hf33
    have hf73 : K59.2.1 2 q13 = (nI at9) := (((h65).2.1.1 q13 (by rw [hf32]; decide)).2.1 2).trans hf34
    have hf74 : K59.2.2.1 0 q13 = none := (((h65).2.1.1 q13 (by rw [hf32]; decide)).2.2.1 0).trans hf35
    have hf75 : K59.2.2.1 1 q13 = none := (((h65).2.1.1 q13 (by rw [hf32]; decide)).2.2.1 1).trans hf36
    have hf76 : K59.2.2.1 2 q13 = none := (((h65).2.1.1 q13 (by rw [hf32]; decide)).2.2.1 2).trans hf37
    have hf77 : K59.2.2.1 3 q13 = none := (((h65).2.1.1 q13 (by rw [hf32]; decide)).2.2.1 3).trans hf38
    have hf78 : K59.2.2.1 4 q13 = none := (((h65).2.1.1 q13 (by rw [hf32]; decide)).2.2.1 4).trans hf39
    have hO : OKP G h0 a (upd (upd (upd (upd F 2 (nI sz)) 9 (nI at61)) 10 (nI dp)) 11 (nI sg62)) R Z (updA B 10 f63) J K59 w := hO.to rfl
    refine W.widen (k := (1 + (2 * (at61 - ((at6 + 1) + 1)) - 1))) (n := (11 + (11 * (2 * (at61 - ((at6 + 1) + 1)) - 1)))) (by show 1 + (2 * (at61 - ((at6 + 1) + 1)) - 1) ≤ (1 + (2 * (at61 - ((at6 + 1) + 1)) - 1)); omega) (by show 11 + (11 * (2 * (at61 - ((at6 + 1) + 1)) - 1)) ≤ (11 + (11 * (2 * (at61 - ((at6 + 1) + 1)) - 1))); omega) ?_
    refine W.eq (g2 := F0 m 48 ls [.ref r58, .ref q13]) rfl ?_
    have htk79 : NwT (B 7) sz (B 10) f63 K K59 at9 at61 := (NwT.call htk31 h70 (by omega))
    have hns80 : NwS K K59 g g60 := NwS.call hns40 h65 (fun o9 h9 => absurd h9 (by omega))
    have hrk81 : g60 2 r58 = k64 := h65.2.2.1.2.2.2.2.2.1
    have hf82 : K59.1 r58 = 1 := h65.2.2.1.2.1
    have hg83 : g60 0 q13 = 0 := (h65.2.1.2 q13 (by rw [hf32]; decide) 0).trans hg42
    have hno84 : NoO K59 g60 q13 := NoO.call hno43 h65 hf32 (by omega)
    have hgy85 := h65.2.2.1
    have hgy85a := hgy85.2.2.1
    have hgy85b := hgy85.2.2.2.1
    refine p_put (v := .ref r58) (ty := (.object "JinjaTongue$Node")) (C := RX7) (Tc := TX7) (N := 11) (ci := 13) (K' := (kC K59 0 q13 (some r58))) hx hb hq pin_wsX70 tyX7 tyX7_ok nmX7 hown hE hP hD hS hO (by rw [hf71]; decide) (rep_1 hf71) rfl 6 (by decide) (hq _ pw_938) (fun _ h9 => h9) rfl (by decide +kernel) rfl rfl (Nat.le_of_ble_eq_true rfl) rfl (by rw [rep_1 (show (kC K59 0 q13 (some r58)).1 q13 = 1 from hf71), pc_0] <;> rfl) (fun p9 hp9 => rep_kC hp9) dX8_local_48 (fun H locs w hP hD hS hO => ?_)
    obtain ⟨K86, hK87⟩ : ∃ z : PK, z = (kC K59 0 q13 (some r58)) := ⟨_, rfl⟩
    rw [← hK87] at hO
    have hf88 : K86.1 q13 = 1 := (by rw [hK87]; exact hf71)
    have hf89 : K86.2.1 0 q13 = 22 := (by rw [hK87]; exact hf72)
    have hf90 : K86.2.1 2 q13 = (nI at9) := (by rw [hK87]; exact hf73)
    have hf91 : K86.2.2.1 1 q13 = none := (by rw [hK87]; exact (kC_of (by decide)).trans hf75)
    have hf92 : K86.2.2.1 2 q13 = none := (by rw [hK87]; exact (kC_of (by decide)).trans hf76)
    have hf93 : K86.2.2.1 3 q13 = none := (by rw [hK87]; exact (kC_of (by decide)).trans hf77)
    have hf94 : K86.2.2.1 4 q13 = none := (by rw [hK87]; exact (kC_of (by decide)).trans hf78)
    have hf95 : K86.1 r58 = 1 := (by rw [hK87]; exact hf82)
    have hf96 : K86.2.2.1 0 q13 = some r58 := by rw [hK87]; exact kC_eq
    have htk97 : NwT (B 7) sz (B 10) f63 K K86 at9 at61 := by rw [hK87]; exact NwT.put htk79
    have hns98 : NwS K K86 g g60 := by rw [hK87]; exact NwS.put hns80 hq41 hg83
    have hno99 : NoO K86 g60 q13 := by rw [hK87]; exact hno84
    refine lv_iload_n hx hb dX8_local_51 rfl (lv_at hl 3 rfl) ?_
    refine lv_if_eq (tgt := 62) hx hb dX8_local_52 (by decide) (fun c100 => ?_) (fun c100 => ?_)
    · have n101 : x = 0 := (nI_eq (a := x) (b := 0) (by omega) (by omega)).mp c100
      refine lv_aload_n hx hb dX8_local_62 rfl (lv_at hl 0 rfl) ?_
      refine W_size (fun hz1 hz2 => ?_)
      refine vx_ret ?_
      obtain ⟨k9, k9I, hkS, hkE, hkM, hkN, hkX, hkD⟩ := rk_ex (s := at9) (e := at61) (m := at9) (n := at9) (x := at9) (d := (2 * (20 - dp) + 2)) (by omega)
      have hkid : ∀ f9 y9 : Nat, f9 ≤ 3 → K86.2.2.1 f9 q13 = some y9 → K86.1 y9 = 1 ∧ 1 ≤ g60 0 y9 ∧ g60 0 y9 < 168 := by
        intro f9 y9 hf9 hy9
        rcases (show f9 = 0 ∨ f9 = 1 ∨ f9 = 2 ∨ f9 = 3 by omega) with rfl | rfl | rfl | rfl
        · rw [hf96] at hy9; cases hy9; exact ⟨hf95, (by omega), by omega⟩
        · rw [hf91] at hy9; cases hy9
        · rw [hf92] at hy9; cases hy9
        · rw [hf93] at hy9; cases hy9
      have hkc102 : ∀ f9 y9 : Nat, f9 ≤ 3 → K86.2.2.1 f9 q13 = some y9 → Kch (K86.2.1 0 q13) f9 (K86.2.1 0 y9) k9 (g60 2 y9) := by
        intro f9 y9 hf9 hy9
        rcases (show f9 = 0 ∨ f9 = 1 ∨ f9 = 2 ∨ f9 = 3 by omega) with rfl | rfl | rfl | rfl
        · rw [hf96] at hy9; cases hy9; rw [hrk81]; rw [hf89] <;> exact ⟨(fun z => absurd z (by decide)), (fun z => absurd z (by decide)), (fun z => absurd z (by decide)), (fun z => absurd z (by decide)), (fun z => absurd z (by decide)), (fun z => absurd z (by decide)), (fun z => absurd z (by decide)), (fun z => absurd z (by decide)), (fun z => absurd z (by decide)), (fun z => absurd z (by decide)), (fun _ _ => (by omega)), (fun z => absurd z (by decide)), (fun z => absurd z (by decide)), (fun z => absurd z (by decide)), (fun z => absurd z (by decide)), (fun z => absurd z (by decide)), (fun z => absurd z (by decide)), (fun z => absurd z (by decide)), (fun z => absurd z (by decide)), (fun z => absurd z (by decide)), (fun z => absurd z (by decide)), (fun z => absurd z (by decide)), (fun z => absurd z (by decide)), (fun z => absurd z (by decide))⟩
        · rw [hf91] at hy9; cases hy9
        · rw [hf92] at hy9; cases hy9
        · rw [hf93] at hy9; cases hy9
      have hdn := NwS.done1I (q := q13) (L := 168) (O := O) (k := k9) hns98 hq41 hf88 hg83 (by omega) ⟨k9I, (by rw [hf89] <;> exact ⟨(fun z => absurd z (by decide)), (fun _ => (by omega)), (fun z => absurd z (by decide))⟩)⟩ (by rw [hf89]; exact ⟨(fun z => absurd z (by decide)), (fun z => absurd z (by decide)), (fun z => absurd z (by decide)), (fun z => absurd z (by decide)), (fun z => absurd z (by decide))⟩) (fun f9 z => by rw [hf89] at z; rcases z with ⟨z, _⟩ | ⟨z | z | z, _⟩ <;> exact absurd z (by decide)) hkid hf94 hno99 hkc102 how
      have hz103 : NwR K K86 g (gset g60 q13 168 O k9) q13 O k9 (168) := hdn
      have hz104 : rS k9 = at9 ∧ rE k9 ≤ at61 ∧ rS k9 ≤ rE k9 ∧ rD k9 ≤ 2 * (20 - dp) + 2 := (by omega)
      have hz105 : at9 + 2 ≤ at61 ∧ at61 ≤ sz := (by omega)
      have hz106 : sg ≤ sg62 ∧ sg62 ≤ 60 := (by omega)
      have hz107 : K86.2.1 0 q13 = 22 := hf89
      have hz108 : NwT (B 7) sz (B 10) f63 K K86 at9 at61 := (NwT.le htk97 (by omega))
      have hO : OKP G h0 a (upd (upd (upd (upd F 2 (nI sz)) 9 (nI at61)) 10 (nI dp)) 11 (nI sg62)) R Z (updA B 10 f63) J K86 w := hO.to rfl
      refine W.widen (k := (2 * (sz - at9) + 20)) (n := (11 * (2 * (sz - at9) + 20))) (by omega) (by omega) ?_
      have hzz1 : H.size ≤ s.heap.size + ((2 * (at61 - at9) - 3)) := (by have z : (1 + (2 * (at61 - ((at6 + 1) + 1)) - 1)) ≤ (2 * (at61 - at9) - 3) := (by omega); omega)
      have hzz2 : hSl H ≤ hSl s.heap + ((11 * (2 * (at61 - at9) - 3))) := (by have z : (11 + (11 * (2 * (at61 - ((at6 + 1) + 1)) - 1))) ≤ (11 * (2 * (at61 - at9) - 3)) := (by omega); omega)
      exact W.aret (v := .ref q13) hx hb hr (Or.inl ⟨_, rfl⟩) (Or.inr ⟨_, rfl⟩) (fun t99 ht99 hW99 => ⟨⟨_, (w, (q13, K86, (gset g60 q13 168 O k9), at61, sg62, f63, k9)), rfl, ⟨rfl, hz103, hz104, hz105, hz106, hz107, hz108, hO⟩, by rw [ht99]; exact hP, hD, by rw [ht99]; exact hzz1, by rw [ht99]; exact hzz2⟩, hS.F ht99⟩) hS.2.2 dX8_local_63
    · have n109 : ¬ (x = 0) := fun h9 => c100 ((nI_eq (a := x) (b := 0) (by omega) (by omega)).mpr h9)
      refine lv_aload_n hx hb dX8_local_55 rfl (lv_at hl 2 rfl) ?_
      refine lv_bipush (v := 38) hx hb dX8_local_56 (by decide) ?_
      have hO : OKW G h0 a (upd (upd (upd (upd (upd (upd (upd (upd F 2 (nI sz)) 9 (nI at9)) 10 (nI dp)) 11 (nI sg)) 9 (nI at61)) 11 (nI sg62)) 2 (nI sz)) 9 (nI at61)) R Z (updA B 10 f63) J K86.1 (fun q99 x99 => x99 = rep G a K86 q99) w := hO.to rfl
      obtain ⟨_, qr113, hqr114⟩ := hO.2.1 23 _ (sg_23 G h0 a _ _ _ _ _)
      refine pn_V0 (G := G) (As := [.int 38]) (rest := []) hx hb hml hown hq hE hX pX0_al hP hD hS hA hl.1 (P_take l G h0 a (upd (upd (upd (upd (upd (upd F 2 (nI sz)) 9 (nI at9)) 10 (nI dp)) 11 (nI sg)) 9 (nI at61)) 11 (nI sg62)) R Z (updA B 10 f63) J K86.1 (fun q99 x99 => x99 = rep G a K86 q99) w 38 at61 sz (by omega) (by omega) (by decide) hO hl0) (gV pw_793 pw_794 pw_795 pw_796 pw_781) hV_X8_take qr113 5 hqr114 rfl rfl rfl (Nat.le_of_ble_eq_true rfl) dX8_local_58 ⟨(by show (1 + (2 * (at61 - ((at6 + 1) + 1)) - 1)) + 1 ≤ (2 * (sz - at9) + 20); omega), (by show (11 + (11 * (2 * (at61 - ((at6 + 1) + 1)) - 1))) + 6 ≤ (11 * (2 * (sz - at9) + 20)); omega)⟩ ⟨(by show 7 + 1 ≤ (40 * n + 44); omega), (by show 8 + (2 + 11) + 122 ≤ (1300 * n + 1400); omega)⟩ (fun v112 u110 H locs hw111 hP hD hS => ?_) (fun ux ce9 q9 H9 locs9 hux hP9 hD9 hS9 hce hcv hcl => pb_out ux (ThQ.up (Thx.same (Thx.same (Thx.b (Thx.f (Thx.f Thx.rfl (by omega)) (by omega)) (by omega) (by decide)) rfl) rfl) RhX.rfl hux) hnt hlocks hce hcv hcl hP9 hD9 hS9 (by show (1 + (2 * (at61 - ((at6 + 1) + 1)) - 1)) + 1 ≤ (2 * (sz - at9) + 20); omega) (by show (11 + (11 * (2 * (at61 - ((at6 + 1) + 1)) - 1))) + 6 ≤ (11 * (2 * (sz - at9) + 20)); omega))
      obtain ⟨w, _⟩ := u110
      obtain ⟨hw111, h115, h116, hO⟩ := hw111
      have h115 : at61 + 1 ≤ sz := h115
      have h116 : tkN ((B 7)) sz 67 (nI at61) = 38 := h116
      obtain rfl : v112 = some (.int (nI at61)) := hw111
      have hO : OKP G h0 a (upd (upd (upd (upd F 2 (nI sz)) 9 (nI (at61 + 1))) 10 (nI dp)) 11 (nI sg62)) R Z (updA B 10 f63) J K86 w := hO.to rfl
      refine W.widen (k := (1 + (2 * (at61 - ((at6 + 1) + 1)) - 1))) (n := (11 + (11 * (2 * (at61 - ((at6 + 1) + 1)) - 1)))) (by show (1 + (2 * (at61 - ((at6 + 1) + 1)) - 1)) + 0 ≤ (1 + (2 * (at61 - ((at6 + 1) + 1)) - 1)); omega) (by show (11 + (11 * (2 * (at61 - ((at6 + 1) + 1)) - 1))) + 0 ≤ (11 + (11 * (2 * (at61 - ((at6 + 1) + 1)) - 1))); omega) ?_
      refine W.eq (g2 := F0 m 61 ls [.int (nI at61)]) rfl ?_
      refine lv_pop hx hb dX8_local_61 rfl ?_
      refine lv_aload_n hx hb dX8_local_62 rfl (lv_at hl 0 rfl) ?_
      refine W_size (fun hz1 hz2 => ?_)
      refine vx_ret ?_
      obtain ⟨k9, k9I, hkS, hkE, hkM, hkN, hkX, hkD⟩ := rk_ex (s := at9) (e := (at61 + 1)) (m := at9) (n := at9) (x := at9) (d := (2 * (20 - dp) + 2)) (by omega)
      have hkid : ∀ f9 y9 : Nat, f9 ≤ 3 → K86.2.2.1 f9 q13 = some y9 → K86.1 y9 = 1 ∧ 1 ≤ g60 0 y9 ∧ g60 0 y9 < 168 := by
        intro f9 y9 hf9 hy9
        rcases (show f9 = 0 ∨ f9 = 1 ∨ f9 = 2 ∨ f9 = 3 by omega) with rfl | rfl | rfl | rfl
        · rw [hf96] at hy9; cases hy9; exact ⟨hf95, (by omega), by omega⟩
        · rw [hf91] at hy9; cases hy9
        · rw [hf92] at hy9; cases hy9
        · rw [hf93] at hy9; cases hy9
      have hkc117 : ∀ f9 y9 : Nat, f9 ≤ 3 → K86.2.2.1 f9 q13 = some y9 → Kch (K86.2.1 0 q13) f9 (K86.2.1 0 y9) k9 (g60 2 y9) := by
        intro f9 y9 hf9 hy9
        rcases (show f9 = 0 ∨ f9 = 1 ∨ f9 = 2 ∨ f9 = 3 by omega) with rfl | rfl | rfl | rfl
        · rw [hf96] at hy9; cases hy9; rw [hrk81]; rw [hf89] <;> exact ⟨(fun z => absurd z (by decide)), (fun z => absurd z (by decide)), (fun z => absurd z (by decide)), (fun z => absurd z (by decide)), (fun z => absurd z (by decide)), (fun z => absurd z (by decide)), (fun z => absurd z (by decide)), (fun z => absurd z (by decide)), (fun z => absurd z (by decide)), (fun z => absurd z (by decide)), (fun _ _ => (by omega)), (fun z => absurd z (by decide)), (fun z => absurd z (by decide)), (fun z => absurd z (by decide)), (fun z => absurd z (by decide)), (fun z => absurd z (by decide)), (fun z => absurd z (by decide)), (fun z => absurd z (by decide)), (fun z => absurd z (by decide)), (fun z => absurd z (by decide)), (fun z => absurd z (by decide)), (fun z => absurd z (by decide)), (fun z => absurd z (by decide)), (fun z => absurd z (by decide))⟩
        · rw [hf91] at hy9; cases hy9
        · rw [hf92] at hy9; cases hy9
        · rw [hf93] at hy9; cases hy9
      have hdn := NwS.done1I (q := q13) (L := 168) (O := O) (k := k9) hns98 hq41 hf88 hg83 (by omega) ⟨k9I, (by rw [hf89] <;> exact ⟨(fun z => absurd z (by decide)), (fun _ => (by omega)), (fun z => absurd z (by decide))⟩)⟩ (by rw [hf89]; exact ⟨(fun z => absurd z (by decide)), (fun z => absurd z (by decide)), (fun z => absurd z (by decide)), (fun z => absurd z (by decide)), (fun z => absurd z (by decide))⟩) (fun f9 z => by rw [hf89] at z; rcases z with ⟨z, _⟩ | ⟨z | z | z, _⟩ <;> exact absurd z (by decide)) hkid hf94 hno99 hkc117 how
      have hz118 : NwR K K86 g (gset g60 q13 168 O k9) q13 O k9 (168) := hdn
      have hz119 : rS k9 = at9 ∧ rE k9 ≤ (at61 + 1) ∧ rS k9 ≤ rE k9 ∧ rD k9 ≤ 2 * (20 - dp) + 2 := (by omega)
      have hz120 : at9 + 2 ≤ (at61 + 1) ∧ (at61 + 1) ≤ sz := (by omega)
      have hz121 : sg ≤ sg62 ∧ sg62 ≤ 60 := (by omega)
      have hz122 : K86.2.1 0 q13 = 22 := hf89
      have hz123 : NwT (B 7) sz (B 10) f63 K K86 at9 (at61 + 1) := (NwT.le htk97 (by omega))
      have hO : OKP G h0 a (upd (upd (upd (upd F 2 (nI sz)) 9 (nI (at61 + 1))) 10 (nI dp)) 11 (nI sg62)) R Z (updA B 10 f63) J K86 w := hO.to rfl
      refine W.widen (k := (2 * (sz - at9) + 20)) (n := (11 * (2 * (sz - at9) + 20))) (by omega) (by omega) ?_
      have hzz1 : H.size ≤ s.heap.size + ((2 * ((at61 + 1) - at9) - 3)) := (by have z : (1 + (2 * (at61 - ((at6 + 1) + 1)) - 1)) ≤ (2 * ((at61 + 1) - at9) - 3) := (by omega); omega)
      have hzz2 : hSl H ≤ hSl s.heap + ((11 * (2 * ((at61 + 1) - at9) - 3))) := (by have z : (11 + (11 * (2 * (at61 - ((at6 + 1) + 1)) - 1))) ≤ (11 * (2 * ((at61 + 1) - at9) - 3)) := (by omega); omega)
      exact W.aret (v := .ref q13) hx hb hr (Or.inl ⟨_, rfl⟩) (Or.inr ⟨_, rfl⟩) (fun t99 ht99 hW99 => ⟨⟨_, (w, (q13, K86, (gset g60 q13 168 O k9), (at61 + 1), sg62, f63, k9)), rfl, ⟨rfl, hz118, hz119, hz120, hz121, hz122, hz123, hO⟩, by rw [ht99]; exact hP, hD, by rw [ht99]; exact hzz1, by rw [ht99]; exact hzz2⟩, hS.F ht99⟩) hS.2.2 dX8_local_63
  · have n124 : ¬ (x = 0) := fun h9 => c44 ((nI_eq (a := x) (b := 0) (by omega) (by omega)).mpr h9)
    refine lv_aload_n hx hb dX8_local_27 rfl (lv_at hl 2 rfl) ?_
    refine lv_bipush (v := 43) hx hb dX8_local_28 (by decide) ?_
    have hO : OKW G h0 a (upd (upd (upd (upd (upd (upd F 2 (nI sz)) 9 (nI (at6 + 1))) 10 (nI dp)) 11 (nI sg)) 2 (nI sz)) 9 (nI (at6 + 1))) R Z (updA B 10 f7) J K29.1 (fun q99 x99 => x99 = rep G a K29 q99) w := hO.to rfl
    obtain ⟨_, qr128, hqr129⟩ := hO.2.1 23 _ (sg_23 G h0 a _ _ _ _ _)
    refine pc_V0 (G := G) (As := [.int 43]) (rest := []) hx hb hml hown hq hE hX pX0_al hP hD hS hA hl.1 (P_sees l G h0 a (upd (upd (upd (upd F 2 (nI sz)) 9 (nI (at6 + 1))) 10 (nI dp)) 11 (nI sg)) R Z (updA B 10 f7) J K29.1 (fun q99 x99 => x99 = rep G a K29 q99) w 43 (at6 + 1) sz (by omega) (by omega) hO) (gV pw_803 pw_804 pw_805 pw_796 pw_775) hV_X8_sees qr128 5 hqr129 rfl rfl rfl (Nat.le_of_ble_eq_true rfl) dX8_local_30 ⟨(by show 1 + 0 ≤ (2 * (sz - at9) + 20); omega), (by show 11 + 0 ≤ (11 * (2 * (sz - at9) + 20)); omega)⟩ ⟨(by show 3 + 1 ≤ (40 * n + 44); omega), (by show 8 + (2 + 11) + 81 ≤ (1300 * n + 1400); omega)⟩ (fun v127 u125 H locs hw126 hP hD hS => ?_)
    obtain ⟨w, r130⟩ := u125
    obtain ⟨hw126, h131, h132, hO⟩ := hw126
    have h131 : r130 ≤ 1 := h131
    have h132 : SeQ ((B 7)) sz (at6 + 1) 43 r130 := h132
    obtain rfl : v127 = some (.int (nI r130)) := hw126
    have hO : OKP G h0 a (upd (upd (upd (upd F 2 (nI sz)) 9 (nI (at6 + 1))) 10 (nI dp)) 11 (nI sg)) R Z (updA B 10 f7) J K29 w := hO.to rfl
    refine W.widen (k := 1) (n := 11) (by show 1 + 0 ≤ 1; omega) (by show 11 + 0 ≤ 11; omega) ?_
    refine W.eq (g2 := F0 m 33 ls [.int (nI r130)]) rfl ?_
    refine lv_if_eq (tgt := 51) hx hb dX8_local_33 (by decide) (fun c133 => ?_) (fun c133 => ?_)
    · have n134 : r130 = 0 := (nI_eq (a := r130) (b := 0) (by omega) (by omega)).mp c133
      refine lv_iload_n hx hb dX8_local_51 rfl (lv_at hl 3 rfl) ?_
      refine lv_if_eq (tgt := 62) hx hb dX8_local_52 (by decide) (fun c135 => ?_) (fun c135 => ?_)
      · have n136 : x = 0 := (nI_eq (a := x) (b := 0) (by omega) (by omega)).mp c135
        refine lv_aload_n hx hb dX8_local_62 rfl (lv_at hl 0 rfl) ?_
        refine W_size (fun hz1 hz2 => ?_)
        refine vx_ret ?_
        obtain ⟨k9, k9I, hkS, hkE, hkM, hkN, hkX, hkD⟩ := rk_ex (s := at9) (e := (at6 + 1)) (m := at9) (n := at9) (x := at9) (d := (2 * (20 - dp) + 2)) (by omega)
        have hkid : ∀ f9 y9 : Nat, f9 ≤ 3 → K29.2.2.1 f9 q13 = some y9 → K29.1 y9 = 1 ∧ 1 ≤ (gset g q13 0 0 0) 0 y9 ∧ (gset g q13 0 0 0) 0 y9 < 168 := by
          intro f9 y9 hf9 hy9
          rcases (show f9 = 0 ∨ f9 = 1 ∨ f9 = 2 ∨ f9 = 3 by omega) with rfl | rfl | rfl | rfl
          · rw [hf35] at hy9; cases hy9
          · rw [hf36] at hy9; cases hy9
          · rw [hf37] at hy9; cases hy9
          · rw [hf38] at hy9; cases hy9
        have hkc137 : ∀ f9 y9 : Nat, f9 ≤ 3 → K29.2.2.1 f9 q13 = some y9 → Kch (K29.2.1 0 q13) f9 (K29.2.1 0 y9) k9 ((gset g q13 0 0 0) 2 y9) := by
          intro f9 y9 hf9 hy9
          rcases (show f9 = 0 ∨ f9 = 1 ∨ f9 = 2 ∨ f9 = 3 by omega) with rfl | rfl | rfl | rfl
          · rw [hf35] at hy9; cases hy9
          · rw [hf36] at hy9; cases hy9
          · rw [hf37] at hy9; cases hy9
          · rw [hf38] at hy9; cases hy9
        have hdn := NwS.done1I (q := q13) (L := 168) (O := O) (k := k9) hns40 hq41 hf32 hg42 (by omega) ⟨k9I, (by rw [hf33] <;> exact ⟨(fun z => absurd z (by decide)), (fun _ => (by omega)), (fun z => absurd z (by decide))⟩)⟩ (by rw [hf33]; exact ⟨(fun z => absurd z (by decide)), (fun z => absurd z (by decide)), (fun z => absurd z (by decide)), (fun z => absurd z (by decide)), (fun z => absurd z (by decide))⟩) (fun f9 z => by rw [hf33] at z; rcases z with ⟨z, _⟩ | ⟨z | z | z, _⟩ <;> exact absurd z (by decide)) hkid hf39 hno43 hkc137 how
        have hz138 : NwR K K29 g (gset (gset g q13 0 0 0) q13 168 O k9) q13 O k9 (168) := hdn
        have hz139 : rS k9 = at9 ∧ rE k9 ≤ (at6 + 1) ∧ rS k9 ≤ rE k9 ∧ rD k9 ≤ 2 * (20 - dp) + 2 := (by omega)
        have hz140 : at9 + 2 ≤ (at6 + 1) ∧ (at6 + 1) ≤ sz := (by omega)
        have hz141 : sg ≤ sg ∧ sg ≤ 60 := (by omega)
        have hz142 : K29.2.1 0 q13 = 22 := hf33
        have hz143 : NwT (B 7) sz (B 10) f7 K K29 at9 (at6 + 1) := (NwT.le htk31 (by omega))
        have hO : OKP G h0 a (upd (upd (upd (upd F 2 (nI sz)) 9 (nI (at6 + 1))) 10 (nI dp)) 11 (nI sg)) R Z (updA B 10 f7) J K29 w := hO.to rfl
        refine W.widen (k := (2 * (sz - at9) + 20)) (n := (11 * (2 * (sz - at9) + 20))) (by omega) (by omega) ?_
        have hzz1 : H.size ≤ s.heap.size + ((2 * ((at6 + 1) - at9) - 3)) := (by have z : 1 ≤ (2 * ((at6 + 1) - at9) - 3) := (by omega); omega)
        have hzz2 : hSl H ≤ hSl s.heap + ((11 * (2 * ((at6 + 1) - at9) - 3))) := (by have z : 11 ≤ (11 * (2 * ((at6 + 1) - at9) - 3)) := (by omega); omega)
        exact W.aret (v := .ref q13) hx hb hr (Or.inl ⟨_, rfl⟩) (Or.inr ⟨_, rfl⟩) (fun t99 ht99 hW99 => ⟨⟨_, (w, (q13, K29, (gset (gset g q13 0 0 0) q13 168 O k9), (at6 + 1), sg, f7, k9)), rfl, ⟨rfl, hz138, hz139, hz140, hz141, hz142, hz143, hO⟩, by rw [ht99]; exact hP, hD, by rw [ht99]; exact hzz1, by rw [ht99]; exact hzz2⟩, hS.F ht99⟩) hS.2.2 dX8_local_63
      · have n144 : ¬ (x = 0) := fun h9 => c135 ((nI_eq (a := x) (b := 0) (by omega) (by omega)).mpr h9)
        refine lv_aload_n hx hb dX8_local_55 rfl (lv_at hl 2 rfl) ?_
        refine lv_bipush (v := 38) hx hb dX8_local_56 (by decide) ?_
        have hO : OKW G h0 a (upd (upd (upd (upd (upd (upd (upd F 2 (nI sz)) 9 (nI at9)) 10 (nI dp)) 11 (nI sg)) 9 (nI (at6 + 1))) 2 (nI sz)) 9 (nI (at6 + 1))) R Z (updA B 10 f7) J K29.1 (fun q99 x99 => x99 = rep G a K29 q99) w := hO.to rfl
        obtain ⟨_, qr148, hqr149⟩ := hO.2.1 23 _ (sg_23 G h0 a _ _ _ _ _)
        refine pn_V0 (G := G) (As := [.int 38]) (rest := []) hx hb hml hown hq hE hX pX0_al hP hD hS hA hl.1 (P_take l G h0 a (upd (upd (upd (upd (upd F 2 (nI sz)) 9 (nI at9)) 10 (nI dp)) 11 (nI sg)) 9 (nI (at6 + 1))) R Z (updA B 10 f7) J K29.1 (fun q99 x99 => x99 = rep G a K29 q99) w 38 (at6 + 1) sz (by omega) (by omega) (by decide) hO hl0) (gV pw_793 pw_794 pw_795 pw_796 pw_781) hV_X8_take qr148 5 hqr149 rfl rfl rfl (Nat.le_of_ble_eq_true rfl) dX8_local_58 ⟨(by show 1 + 1 ≤ (2 * (sz - at9) + 20); omega), (by show 11 + 6 ≤ (11 * (2 * (sz - at9) + 20)); omega)⟩ ⟨(by show 7 + 1 ≤ (40 * n + 44); omega), (by show 8 + (2 + 11) + 122 ≤ (1300 * n + 1400); omega)⟩ (fun v147 u145 H locs hw146 hP hD hS => ?_) (fun ux ce9 q9 H9 locs9 hux hP9 hD9 hS9 hce hcv hcl => pb_out ux (ThQ.up (Thx.same (Thx.same (Thx.b (Thx.f Thx.rfl (by omega)) (by omega) (by decide)) rfl) rfl) RhX.rfl hux) hnt hlocks hce hcv hcl hP9 hD9 hS9 (by show 1 + 1 ≤ (2 * (sz - at9) + 20); omega) (by show 11 + 6 ≤ (11 * (2 * (sz - at9) + 20)); omega))
        obtain ⟨w, _⟩ := u145
        obtain ⟨hw146, h150, h151, hO⟩ := hw146
        have h150 : (at6 + 1) + 1 ≤ sz := h150
        have h151 : tkN ((B 7)) sz 67 (nI (at6 + 1)) = 38 := h151
        obtain rfl : v147 = some (.int (nI (at6 + 1))) := hw146
        have hO : OKP G h0 a (upd (upd (upd (upd F 2 (nI sz)) 9 (nI ((at6 + 1) + 1))) 10 (nI dp)) 11 (nI sg)) R Z (updA B 10 f7) J K29 w := hO.to rfl
        refine W.widen (k := 1) (n := 11) (by show 1 + 0 ≤ 1; omega) (by show 11 + 0 ≤ 11; omega) ?_
        refine W.eq (g2 := F0 m 61 ls [.int (nI (at6 + 1))]) rfl ?_
        refine lv_pop hx hb dX8_local_61 rfl ?_
        refine lv_aload_n hx hb dX8_local_62 rfl (lv_at hl 0 rfl) ?_
        refine W_size (fun hz1 hz2 => ?_)
        refine vx_ret ?_
        obtain ⟨k9, k9I, hkS, hkE, hkM, hkN, hkX, hkD⟩ := rk_ex (s := at9) (e := ((at6 + 1) + 1)) (m := at9) (n := at9) (x := at9) (d := (2 * (20 - dp) + 2)) (by omega)
        have hkid : ∀ f9 y9 : Nat, f9 ≤ 3 → K29.2.2.1 f9 q13 = some y9 → K29.1 y9 = 1 ∧ 1 ≤ (gset g q13 0 0 0) 0 y9 ∧ (gset g q13 0 0 0) 0 y9 < 168 := by
          intro f9 y9 hf9 hy9
          rcases (show f9 = 0 ∨ f9 = 1 ∨ f9 = 2 ∨ f9 = 3 by omega) with rfl | rfl | rfl | rfl
          · rw [hf35] at hy9; cases hy9
          · rw [hf36] at hy9; cases hy9
          · rw [hf37] at hy9; cases hy9
          · rw [hf38] at hy9; cases hy9
        have hkc152 : ∀ f9 y9 : Nat, f9 ≤ 3 → K29.2.2.1 f9 q13 = some y9 → Kch (K29.2.1 0 q13) f9 (K29.2.1 0 y9) k9 ((gset g q13 0 0 0) 2 y9) := by
          intro f9 y9 hf9 hy9
          rcases (show f9 = 0 ∨ f9 = 1 ∨ f9 = 2 ∨ f9 = 3 by omega) with rfl | rfl | rfl | rfl
          · rw [hf35] at hy9; cases hy9
          · rw [hf36] at hy9; cases hy9
          · rw [hf37] at hy9; cases hy9
          · rw [hf38] at hy9; cases hy9
        have hdn := NwS.done1I (q := q13) (L := 168) (O := O) (k := k9) hns40 hq41 hf32 hg42 (by omega) ⟨k9I, (by rw [hf33] <;> exact ⟨(fun z => absurd z (by decide)), (fun _ => (by omega)), (fun z => absurd z (by decide))⟩)⟩ (by rw [hf33]; exact ⟨(fun z => absurd z (by decide)), (fun z => absurd z (by decide)), (fun z => absurd z (by decide)), (fun z => absurd z (by decide)), (fun z => absurd z (by decide))⟩) (fun f9 z => by rw [hf33] at z; rcases z with ⟨z, _⟩ | ⟨z | z | z, _⟩ <;> exact absurd z (by decide)) hkid hf39 hno43 hkc152 how
        have hz153 : NwR K K29 g (gset (gset g q13 0 0 0) q13 168 O k9) q13 O k9 (168) := hdn
        have hz154 : rS k9 = at9 ∧ rE k9 ≤ ((at6 + 1) + 1) ∧ rS k9 ≤ rE k9 ∧ rD k9 ≤ 2 * (20 - dp) + 2 := (by omega)
        have hz155 : at9 + 2 ≤ ((at6 + 1) + 1) ∧ ((at6 + 1) + 1) ≤ sz := (by omega)
        have hz156 : sg ≤ sg ∧ sg ≤ 60 := (by omega)
        have hz157 : K29.2.1 0 q13 = 22 := hf33
        have hz158 : NwT (B 7) sz (B 10) f7 K K29 at9 ((at6 + 1) + 1) := (NwT.le htk31 (by omega))
        have hO : OKP G h0 a (upd (upd (upd (upd F 2 (nI sz)) 9 (nI ((at6 + 1) + 1))) 10 (nI dp)) 11 (nI sg)) R Z (updA B 10 f7) J K29 w := hO.to rfl
        refine W.widen (k := (2 * (sz - at9) + 20)) (n := (11 * (2 * (sz - at9) + 20))) (by omega) (by omega) ?_
        have hzz1 : H.size ≤ s.heap.size + ((2 * (((at6 + 1) + 1) - at9) - 3)) := (by have z : 1 ≤ (2 * (((at6 + 1) + 1) - at9) - 3) := (by omega); omega)
        have hzz2 : hSl H ≤ hSl s.heap + ((11 * (2 * (((at6 + 1) + 1) - at9) - 3))) := (by have z : 11 ≤ (11 * (2 * (((at6 + 1) + 1) - at9) - 3)) := (by omega); omega)
        exact W.aret (v := .ref q13) hx hb hr (Or.inl ⟨_, rfl⟩) (Or.inr ⟨_, rfl⟩) (fun t99 ht99 hW99 => ⟨⟨_, (w, (q13, K29, (gset (gset g q13 0 0 0) q13 168 O k9), ((at6 + 1) + 1), sg, f7, k9)), rfl, ⟨rfl, hz153, hz154, hz155, hz156, hz157, hz158, hO⟩, by rw [ht99]; exact hP, hD, by rw [ht99]; exact hzz1, by rw [ht99]; exact hzz2⟩, hS.F ht99⟩) hS.2.2 dX8_local_63
    · have n159 : ¬ (r130 = 0) := fun h9 => c133 ((nI_eq (a := r130) (b := 0) (by omega) (by omega)).mpr h9)
      refine lv_aload_n hx hb dX8_local_36 rfl (lv_at hl 2 rfl) ?_
      refine lv_bipush (v := 43) hx hb dX8_local_37 (by decide) ?_
      have hO : OKW G h0 a (upd (upd (upd (upd (upd (upd (upd F 2 (nI sz)) 9 (nI at9)) 10 (nI dp)) 11 (nI sg)) 9 (nI (at6 + 1))) 2 (nI sz)) 9 (nI (at6 + 1))) R Z (updA B 10 f7) J K29.1 (fun q99 x99 => x99 = rep G a K29 q99) w := hO.to rfl
      obtain ⟨_, qr163, hqr164⟩ := hO.2.1 23 _ (sg_23 G h0 a _ _ _ _ _)
      refine pn_V0 (G := G) (As := [.int 43]) (rest := []) hx hb hml hown hq hE hX pX0_al hP hD hS hA hl.1 (P_take l G h0 a (upd (upd (upd (upd (upd F 2 (nI sz)) 9 (nI at9)) 10 (nI dp)) 11 (nI sg)) 9 (nI (at6 + 1))) R Z (updA B 10 f7) J K29.1 (fun q99 x99 => x99 = rep G a K29 q99) w 43 (at6 + 1) sz (by omega) (by omega) (by decide) hO hl0) (gV pw_793 pw_794 pw_795 pw_796 pw_781) hV_X8_take qr163 5 hqr164 rfl rfl rfl (Nat.le_of_ble_eq_true rfl) dX8_local_39 ⟨(by show 1 + 1 ≤ (2 * (sz - at9) + 20); omega), (by show 11 + 6 ≤ (11 * (2 * (sz - at9) + 20)); omega)⟩ ⟨(by show 7 + 1 ≤ (40 * n + 44); omega), (by show 8 + (2 + 11) + 122 ≤ (1300 * n + 1400); omega)⟩ (fun v162 u160 H locs hw161 hP hD hS => ?_) (fun ux ce9 q9 H9 locs9 hux hP9 hD9 hS9 hce hcv hcl => pb_out ux (ThQ.up (Thx.same (Thx.same (Thx.b (Thx.f Thx.rfl (by omega)) (by omega) (by decide)) rfl) rfl) RhX.rfl hux) hnt hlocks hce hcv hcl hP9 hD9 hS9 (by show 1 + 1 ≤ (2 * (sz - at9) + 20); omega) (by show 11 + 6 ≤ (11 * (2 * (sz - at9) + 20)); omega))
      obtain ⟨w, _⟩ := u160
      obtain ⟨hw161, h165, h166, hO⟩ := hw161
      have h165 : (at6 + 1) + 1 ≤ sz := h165
      have h166 : tkN ((B 7)) sz 67 (nI (at6 + 1)) = 43 := h166
      obtain rfl : v162 = some (.int (nI (at6 + 1))) := hw161
      have hO : OKP G h0 a (upd (upd (upd (upd F 2 (nI sz)) 9 (nI ((at6 + 1) + 1))) 10 (nI dp)) 11 (nI sg)) R Z (updA B 10 f7) J K29 w := hO.to rfl
      refine W.widen (k := 1) (n := 11) (by show 1 + 0 ≤ 1; omega) (by show 11 + 0 ≤ 11; omega) ?_
      refine W.eq (g2 := F0 m 42 ls [.int (nI (at6 + 1))]) rfl ?_
      refine lv_pop hx hb dX8_local_42 rfl ?_
      refine lv_aload_n hx hb dX8_local_43 rfl (lv_at hl 0 rfl) ?_
      refine lv_aload_n hx hb dX8_local_44 rfl (lv_at hl 2 rfl) ?_
      have hO : OKP G h0 a (upd (upd (upd (upd (upd (upd (upd (upd (upd F 2 (nI sz)) 9 (nI at9)) 10 (nI dp)) 11 (nI sg)) 9 (nI ((at6 + 1) + 1))) 2 (nI sz)) 9 (nI ((at6 + 1) + 1))) 10 (nI dp)) 11 (nI sg)) R Z (updA B 10 f7) J K29 w := hO.to rfl
      obtain ⟨_, qr170, hqr171⟩ := hO.2.1 23 _ (sg_23 G h0 a _ _ _ _ _)
      refine pn_V0 (G := G) (As := []) (rest := [.ref q13]) hx hb hml hown hq hE hX pX0_al hP hD hS hA hl.1 (((PE_all l G n).1) h0 a (upd (upd (upd (upd (upd F 2 (nI sz)) 9 (nI at9)) 10 (nI dp)) 11 (nI sg)) 9 (nI ((at6 + 1) + 1))) R Z (updA B 10 f7) J K29 w ((at6 + 1) + 1) sz dp sg 0 (gset g q13 0 0 0) (by omega) (by omega) hdp (by omega) hns40.1 (fun o9 h9 => absurd h9 (by omega)) hO hl0) (gV pw_916 pw_917 pw_918 pw_796 pw_942) hV_X8_expression qr170 5 hqr171 rfl rfl rfl (Nat.le_of_ble_eq_true rfl) dX8_local_45 ⟨(by show 1 + (2 * (sz - ((at6 + 1) + 1)) + 20) ≤ (2 * (sz - at9) + 20); omega), (by show 11 + (11 * (2 * (sz - ((at6 + 1) + 1)) + 20)) ≤ (11 * (2 * (sz - at9) + 20)); omega)⟩ ⟨(by show (40 * n + 40) + 1 ≤ (40 * n + 44); omega), (by show 8 + (3 + 11) + (1300 * n + 1300) ≤ (1300 * n + 1400); omega)⟩ (fun v169 u167 H locs hw168 hP hD hS => ?_) (fun ux ce9 q9 H9 locs9 hux hP9 hD9 hS9 hce hcv hcl => pb_out ux (ThQ.up (Thx.same (Thx.same (Thx.same (Thx.same (Thx.b (Thx.f Thx.rfl (by omega)) (by omega) (by decide)) rfl) rfl) rfl) rfl) RhX.rfl hux) hnt hlocks hce hcv hcl hP9 hD9 hS9 (by show 1 + (2 * (sz - ((at6 + 1) + 1)) + 20) ≤ (2 * (sz - at9) + 20); omega) (by show 11 + (11 * (2 * (sz - ((at6 + 1) + 1)) + 20)) ≤ (11 * (2 * (sz - at9) + 20)); omega))
      obtain ⟨w, r172, K173, g174, at175, sg176, f177, k178⟩ := u167
      obtain ⟨hw168, h179, h180, h181, h182, h183, h184, hO⟩ := hw168
      have h179 : NwR K29 K173 (gset g q13 0 0 0) g174 r172 0 k178 (5 * (20 - dp) + 6 + (sg176 - sg)) := h179
      have h180 : ((at6 + 1) + 1) ≤ rS k178 ∧ rS k178 + 1 ≤ rE k178 ∧ rE k178 ≤ at175 ∧ 1 ≤ rD k178 ∧ rD k178 ≤ 9 * (20 - dp) + (sg176 - sg) + 1 := h180
      have h181 : ((at6 + 1) + 1) + 1 ≤ at175 ∧ at175 ≤ sz := h181
      have h182 : sg ≤ sg176 ∧ sg176 ≤ 60 := h182
      have h183 : ¬ tkN ((B 7)) sz 67 (nI ((at6 + 1) + 1)) = 37 := h183
      have h184 : NwT ((B 7)) sz (f7) f177 K29 K173 ((at6 + 1) + 1) at175 := h184
      obtain rfl : v169 = some (.ref r172) := hw168
      have hf185 : K173.1 q13 = 1 := (((h179).2.1.1 q13 (by rw [hf32]; decide)).1).trans hf32
      have hf186 : K173.2.1 0 q13 = 22 := (((h179).2.1.1 q13 (by rw [hf32]; decide)).2.1 0).trans hf33
      have hf187 : K173.2.1 2 q13 = (nI at9) := (((h179).2.1.1 q13 (by rw [hf32]; decide)).2.1 2).trans hf34
      have hf188 : K173.2.2.1 0 q13 = none := (((h179).2.1.1 q13 (by rw [hf32]; decide)).2.2.1 0).trans hf35
      have hf189 : K173.2.2.1 1 q13 = none := (((h179).2.1.1 q13 (by rw [hf32]; decide)).2.2.1 1).trans hf36
      have hf190 : K173.2.2.1 2 q13 = none := (((h179).2.1.1 q13 (by rw [hf32]; decide)).2.2.1 2).trans hf37
      have hf191 : K173.2.2.1 3 q13 = none := (((h179).2.1.1 q13 (by rw [hf32]; decide)).2.2.1 3).trans hf38
      have hf192 : K173.2.2.1 4 q13 = none := (((h179).2.1.1 q13 (by rw [hf32]; decide)).2.2.1 4).trans hf39
      have hO : OKP G h0 a (upd (upd (upd (upd F 2 (nI sz)) 9 (nI at175)) 10 (nI dp)) 11 (nI sg176)) R Z (updA B 10 f177) J K173 w := hO.to rfl
      refine W.widen (k := (1 + (2 * (at175 - ((at6 + 1) + 1)) - 1))) (n := (11 + (11 * (2 * (at175 - ((at6 + 1) + 1)) - 1)))) (by show 1 + (2 * (at175 - ((at6 + 1) + 1)) - 1) ≤ (1 + (2 * (at175 - ((at6 + 1) + 1)) - 1)); omega) (by show 11 + (11 * (2 * (at175 - ((at6 + 1) + 1)) - 1)) ≤ (11 + (11 * (2 * (at175 - ((at6 + 1) + 1)) - 1))); omega) ?_
      refine W.eq (g2 := F0 m 48 ls [.ref r172, .ref q13]) rfl ?_
      have htk193 : NwT (B 7) sz (B 10) f177 K K173 at9 at175 := (NwT.call htk31 h184 (by omega))
      have hns194 : NwS K K173 g g174 := NwS.call hns40 h179 (fun o9 h9 => absurd h9 (by omega))
      have hrk195 : g174 2 r172 = k178 := h179.2.2.1.2.2.2.2.2.1
      have hf196 : K173.1 r172 = 1 := h179.2.2.1.2.1
      have hg197 : g174 0 q13 = 0 := (h179.2.1.2 q13 (by rw [hf32]; decide) 0).trans hg42
      have hno198 : NoO K173 g174 q13 := NoO.call hno43 h179 hf32 (by omega)
      have hgy199 := h179.2.2.1
      have hgy199a := hgy199.2.2.1
      have hgy199b := hgy199.2.2.2.1
      refine p_put (v := .ref r172) (ty := (.object "JinjaTongue$Node")) (C := RX7) (Tc := TX7) (N := 11) (ci := 13) (K' := (kC K173 0 q13 (some r172))) hx hb hq pin_wsX70 tyX7 tyX7_ok nmX7 hown hE hP hD hS hO (by rw [hf185]; decide) (rep_1 hf185) rfl 6 (by decide) (hq _ pw_938) (fun _ h9 => h9) rfl (by decide +kernel) rfl rfl (Nat.le_of_ble_eq_true rfl) rfl (by rw [rep_1 (show (kC K173 0 q13 (some r172)).1 q13 = 1 from hf185), pc_0] <;> rfl) (fun p9 hp9 => rep_kC hp9) dX8_local_48 (fun H locs w hP hD hS hO => ?_)
      obtain ⟨K200, hK201⟩ : ∃ z : PK, z = (kC K173 0 q13 (some r172)) := ⟨_, rfl⟩
      rw [← hK201] at hO
      have hf202 : K200.1 q13 = 1 := (by rw [hK201]; exact hf185)
      have hf203 : K200.2.1 0 q13 = 22 := (by rw [hK201]; exact hf186)
      have hf204 : K200.2.1 2 q13 = (nI at9) := (by rw [hK201]; exact hf187)
      have hf205 : K200.2.2.1 1 q13 = none := (by rw [hK201]; exact (kC_of (by decide)).trans hf189)
      have hf206 : K200.2.2.1 2 q13 = none := (by rw [hK201]; exact (kC_of (by decide)).trans hf190)
      have hf207 : K200.2.2.1 3 q13 = none := (by rw [hK201]; exact (kC_of (by decide)).trans hf191)
      have hf208 : K200.2.2.1 4 q13 = none := (by rw [hK201]; exact (kC_of (by decide)).trans hf192)
      have hf209 : K200.1 r172 = 1 := (by rw [hK201]; exact hf196)
      have hf210 : K200.2.2.1 0 q13 = some r172 := by rw [hK201]; exact kC_eq
      have htk211 : NwT (B 7) sz (B 10) f177 K K200 at9 at175 := by rw [hK201]; exact NwT.put htk193
      have hns212 : NwS K K200 g g174 := by rw [hK201]; exact NwS.put hns194 hq41 hg197
      have hno213 : NoO K200 g174 q13 := by rw [hK201]; exact hno198
      refine lv_iload_n hx hb dX8_local_51 rfl (lv_at hl 3 rfl) ?_
      refine lv_if_eq (tgt := 62) hx hb dX8_local_52 (by decide) (fun c214 => ?_) (fun c214 => ?_)
      · have n215 : x = 0 := (nI_eq (a := x) (b := 0) (by omega) (by omega)).mp c214
        refine lv_aload_n hx hb dX8_local_62 rfl (lv_at hl 0 rfl) ?_
        refine W_size (fun hz1 hz2 => ?_)
        refine vx_ret ?_
        obtain ⟨k9, k9I, hkS, hkE, hkM, hkN, hkX, hkD⟩ := rk_ex (s := at9) (e := at175) (m := at9) (n := at9) (x := at9) (d := (2 * (20 - dp) + 2)) (by omega)
        have hkid : ∀ f9 y9 : Nat, f9 ≤ 3 → K200.2.2.1 f9 q13 = some y9 → K200.1 y9 = 1 ∧ 1 ≤ g174 0 y9 ∧ g174 0 y9 < 168 := by
          intro f9 y9 hf9 hy9
          rcases (show f9 = 0 ∨ f9 = 1 ∨ f9 = 2 ∨ f9 = 3 by omega) with rfl | rfl | rfl | rfl
          · rw [hf210] at hy9; cases hy9; exact ⟨hf209, (by omega), by omega⟩
          · rw [hf205] at hy9; cases hy9
          · rw [hf206] at hy9; cases hy9
          · rw [hf207] at hy9; cases hy9
        have hkc216 : ∀ f9 y9 : Nat, f9 ≤ 3 → K200.2.2.1 f9 q13 = some y9 → Kch (K200.2.1 0 q13) f9 (K200.2.1 0 y9) k9 (g174 2 y9) := by
          intro f9 y9 hf9 hy9
          rcases (show f9 = 0 ∨ f9 = 1 ∨ f9 = 2 ∨ f9 = 3 by omega) with rfl | rfl | rfl | rfl
          · rw [hf210] at hy9; cases hy9; rw [hrk195]; rw [hf203] <;> exact ⟨(fun z => absurd z (by decide)), (fun z => absurd z (by decide)), (fun z => absurd z (by decide)), (fun z => absurd z (by decide)), (fun z => absurd z (by decide)), (fun z => absurd z (by decide)), (fun z => absurd z (by decide)), (fun z => absurd z (by decide)), (fun z => absurd z (by decide)), (fun z => absurd z (by decide)), (fun _ _ => (by omega)), (fun z => absurd z (by decide)), (fun z => absurd z (by decide)), (fun z => absurd z (by decide)), (fun z => absurd z (by decide)), (fun z => absurd z (by decide)), (fun z => absurd z (by decide)), (fun z => absurd z (by decide)), (fun z => absurd z (by decide)), (fun z => absurd z (by decide)), (fun z => absurd z (by decide)), (fun z => absurd z (by decide)), (fun z => absurd z (by decide)), (fun z => absurd z (by decide))⟩
          · rw [hf205] at hy9; cases hy9
          · rw [hf206] at hy9; cases hy9
          · rw [hf207] at hy9; cases hy9
        have hdn := NwS.done1I (q := q13) (L := 168) (O := O) (k := k9) hns212 hq41 hf202 hg197 (by omega) ⟨k9I, (by rw [hf203] <;> exact ⟨(fun z => absurd z (by decide)), (fun _ => (by omega)), (fun z => absurd z (by decide))⟩)⟩ (by rw [hf203]; exact ⟨(fun z => absurd z (by decide)), (fun z => absurd z (by decide)), (fun z => absurd z (by decide)), (fun z => absurd z (by decide)), (fun z => absurd z (by decide))⟩) (fun f9 z => by rw [hf203] at z; rcases z with ⟨z, _⟩ | ⟨z | z | z, _⟩ <;> exact absurd z (by decide)) hkid hf208 hno213 hkc216 how
        have hz217 : NwR K K200 g (gset g174 q13 168 O k9) q13 O k9 (168) := hdn
        have hz218 : rS k9 = at9 ∧ rE k9 ≤ at175 ∧ rS k9 ≤ rE k9 ∧ rD k9 ≤ 2 * (20 - dp) + 2 := (by omega)
        have hz219 : at9 + 2 ≤ at175 ∧ at175 ≤ sz := (by omega)
        have hz220 : sg ≤ sg176 ∧ sg176 ≤ 60 := (by omega)
        have hz221 : K200.2.1 0 q13 = 22 := hf203
        have hz222 : NwT (B 7) sz (B 10) f177 K K200 at9 at175 := (NwT.le htk211 (by omega))
        have hO : OKP G h0 a (upd (upd (upd (upd F 2 (nI sz)) 9 (nI at175)) 10 (nI dp)) 11 (nI sg176)) R Z (updA B 10 f177) J K200 w := hO.to rfl
        refine W.widen (k := (2 * (sz - at9) + 20)) (n := (11 * (2 * (sz - at9) + 20))) (by omega) (by omega) ?_
        have hzz1 : H.size ≤ s.heap.size + ((2 * (at175 - at9) - 3)) := (by have z : (1 + (2 * (at175 - ((at6 + 1) + 1)) - 1)) ≤ (2 * (at175 - at9) - 3) := (by omega); omega)
        have hzz2 : hSl H ≤ hSl s.heap + ((11 * (2 * (at175 - at9) - 3))) := (by have z : (11 + (11 * (2 * (at175 - ((at6 + 1) + 1)) - 1))) ≤ (11 * (2 * (at175 - at9) - 3)) := (by omega); omega)
        exact W.aret (v := .ref q13) hx hb hr (Or.inl ⟨_, rfl⟩) (Or.inr ⟨_, rfl⟩) (fun t99 ht99 hW99 => ⟨⟨_, (w, (q13, K200, (gset g174 q13 168 O k9), at175, sg176, f177, k9)), rfl, ⟨rfl, hz217, hz218, hz219, hz220, hz221, hz222, hO⟩, by rw [ht99]; exact hP, hD, by rw [ht99]; exact hzz1, by rw [ht99]; exact hzz2⟩, hS.F ht99⟩) hS.2.2 dX8_local_63
      · have n223 : ¬ (x = 0) := fun h9 => c214 ((nI_eq (a := x) (b := 0) (by omega) (by omega)).mpr h9)
        refine lv_aload_n hx hb dX8_local_55 rfl (lv_at hl 2 rfl) ?_
        refine lv_bipush (v := 38) hx hb dX8_local_56 (by decide) ?_
        have hO : OKW G h0 a (upd (upd (upd (upd (upd (upd (upd (upd F 2 (nI sz)) 9 (nI at9)) 10 (nI dp)) 11 (nI sg)) 9 (nI at175)) 11 (nI sg176)) 2 (nI sz)) 9 (nI at175)) R Z (updA B 10 f177) J K200.1 (fun q99 x99 => x99 = rep G a K200 q99) w := hO.to rfl
        obtain ⟨_, qr227, hqr228⟩ := hO.2.1 23 _ (sg_23 G h0 a _ _ _ _ _)
        refine pn_V0 (G := G) (As := [.int 38]) (rest := []) hx hb hml hown hq hE hX pX0_al hP hD hS hA hl.1 (P_take l G h0 a (upd (upd (upd (upd (upd (upd F 2 (nI sz)) 9 (nI at9)) 10 (nI dp)) 11 (nI sg)) 9 (nI at175)) 11 (nI sg176)) R Z (updA B 10 f177) J K200.1 (fun q99 x99 => x99 = rep G a K200 q99) w 38 at175 sz (by omega) (by omega) (by decide) hO hl0) (gV pw_793 pw_794 pw_795 pw_796 pw_781) hV_X8_take qr227 5 hqr228 rfl rfl rfl (Nat.le_of_ble_eq_true rfl) dX8_local_58 ⟨(by show (1 + (2 * (at175 - ((at6 + 1) + 1)) - 1)) + 1 ≤ (2 * (sz - at9) + 20); omega), (by show (11 + (11 * (2 * (at175 - ((at6 + 1) + 1)) - 1))) + 6 ≤ (11 * (2 * (sz - at9) + 20)); omega)⟩ ⟨(by show 7 + 1 ≤ (40 * n + 44); omega), (by show 8 + (2 + 11) + 122 ≤ (1300 * n + 1400); omega)⟩ (fun v226 u224 H locs hw225 hP hD hS => ?_) (fun ux ce9 q9 H9 locs9 hux hP9 hD9 hS9 hce hcv hcl => pb_out ux (ThQ.up (Thx.same (Thx.same (Thx.b (Thx.f (Thx.f Thx.rfl (by omega)) (by omega)) (by omega) (by decide)) rfl) rfl) RhX.rfl hux) hnt hlocks hce hcv hcl hP9 hD9 hS9 (by show (1 + (2 * (at175 - ((at6 + 1) + 1)) - 1)) + 1 ≤ (2 * (sz - at9) + 20); omega) (by show (11 + (11 * (2 * (at175 - ((at6 + 1) + 1)) - 1))) + 6 ≤ (11 * (2 * (sz - at9) + 20)); omega))
        obtain ⟨w, _⟩ := u224
        obtain ⟨hw225, h229, h230, hO⟩ := hw225
        have h229 : at175 + 1 ≤ sz := h229
        have h230 : tkN ((B 7)) sz 67 (nI at175) = 38 := h230
        obtain rfl : v226 = some (.int (nI at175)) := hw225
        have hO : OKP G h0 a (upd (upd (upd (upd F 2 (nI sz)) 9 (nI (at175 + 1))) 10 (nI dp)) 11 (nI sg176)) R Z (updA B 10 f177) J K200 w := hO.to rfl
        refine W.widen (k := (1 + (2 * (at175 - ((at6 + 1) + 1)) - 1))) (n := (11 + (11 * (2 * (at175 - ((at6 + 1) + 1)) - 1)))) (by show (1 + (2 * (at175 - ((at6 + 1) + 1)) - 1)) + 0 ≤ (1 + (2 * (at175 - ((at6 + 1) + 1)) - 1)); omega) (by show (11 + (11 * (2 * (at175 - ((at6 + 1) + 1)) - 1))) + 0 ≤ (11 + (11 * (2 * (at175 - ((at6 + 1) + 1)) - 1))); omega) ?_
        refine W.eq (g2 := F0 m 61 ls [.int (nI at175)]) rfl ?_
        refine lv_pop hx hb dX8_local_61 rfl ?_
        refine lv_aload_n hx hb dX8_local_62 rfl (lv_at hl 0 rfl) ?_
        refine W_size (fun hz1 hz2 => ?_)
        refine vx_ret ?_
        obtain ⟨k9, k9I, hkS, hkE, hkM, hkN, hkX, hkD⟩ := rk_ex (s := at9) (e := (at175 + 1)) (m := at9) (n := at9) (x := at9) (d := (2 * (20 - dp) + 2)) (by omega)
        have hkid : ∀ f9 y9 : Nat, f9 ≤ 3 → K200.2.2.1 f9 q13 = some y9 → K200.1 y9 = 1 ∧ 1 ≤ g174 0 y9 ∧ g174 0 y9 < 168 := by
          intro f9 y9 hf9 hy9
          rcases (show f9 = 0 ∨ f9 = 1 ∨ f9 = 2 ∨ f9 = 3 by omega) with rfl | rfl | rfl | rfl
          · rw [hf210] at hy9; cases hy9; exact ⟨hf209, (by omega), by omega⟩
          · rw [hf205] at hy9; cases hy9
          · rw [hf206] at hy9; cases hy9
          · rw [hf207] at hy9; cases hy9
        have hkc231 : ∀ f9 y9 : Nat, f9 ≤ 3 → K200.2.2.1 f9 q13 = some y9 → Kch (K200.2.1 0 q13) f9 (K200.2.1 0 y9) k9 (g174 2 y9) := by
          intro f9 y9 hf9 hy9
          rcases (show f9 = 0 ∨ f9 = 1 ∨ f9 = 2 ∨ f9 = 3 by omega) with rfl | rfl | rfl | rfl
          · rw [hf210] at hy9; cases hy9; rw [hrk195]; rw [hf203] <;> exact ⟨(fun z => absurd z (by decide)), (fun z => absurd z (by decide)), (fun z => absurd z (by decide)), (fun z => absurd z (by decide)), (fun z => absurd z (by decide)), (fun z => absurd z (by decide)), (fun z => absurd z (by decide)), (fun z => absurd z (by decide)), (fun z => absurd z (by decide)), (fun z => absurd z (by decide)), (fun _ _ => (by omega)), (fun z => absurd z (by decide)), (fun z => absurd z (by decide)), (fun z => absurd z (by decide)), (fun z => absurd z (by decide)), (fun z => absurd z (by decide)), (fun z => absurd z (by decide)), (fun z => absurd z (by decide)), (fun z => absurd z (by decide)), (fun z => absurd z (by decide)), (fun z => absurd z (by decide)), (fun z => absurd z (by decide)), (fun z => absurd z (by decide)), (fun z => absurd z (by decide))⟩
          · rw [hf205] at hy9; cases hy9
          · rw [hf206] at hy9; cases hy9
          · rw [hf207] at hy9; cases hy9
        have hdn := NwS.done1I (q := q13) (L := 168) (O := O) (k := k9) hns212 hq41 hf202 hg197 (by omega) ⟨k9I, (by rw [hf203] <;> exact ⟨(fun z => absurd z (by decide)), (fun _ => (by omega)), (fun z => absurd z (by decide))⟩)⟩ (by rw [hf203]; exact ⟨(fun z => absurd z (by decide)), (fun z => absurd z (by decide)), (fun z => absurd z (by decide)), (fun z => absurd z (by decide)), (fun z => absurd z (by decide))⟩) (fun f9 z => by rw [hf203] at z; rcases z with ⟨z, _⟩ | ⟨z | z | z, _⟩ <;> exact absurd z (by decide)) hkid hf208 hno213 hkc231 how
        have hz232 : NwR K K200 g (gset g174 q13 168 O k9) q13 O k9 (168) := hdn
        have hz233 : rS k9 = at9 ∧ rE k9 ≤ (at175 + 1) ∧ rS k9 ≤ rE k9 ∧ rD k9 ≤ 2 * (20 - dp) + 2 := (by omega)
        have hz234 : at9 + 2 ≤ (at175 + 1) ∧ (at175 + 1) ≤ sz := (by omega)
        have hz235 : sg ≤ sg176 ∧ sg176 ≤ 60 := (by omega)
        have hz236 : K200.2.1 0 q13 = 22 := hf203
        have hz237 : NwT (B 7) sz (B 10) f177 K K200 at9 (at175 + 1) := (NwT.le htk211 (by omega))
        have hO : OKP G h0 a (upd (upd (upd (upd F 2 (nI sz)) 9 (nI (at175 + 1))) 10 (nI dp)) 11 (nI sg176)) R Z (updA B 10 f177) J K200 w := hO.to rfl
        refine W.widen (k := (2 * (sz - at9) + 20)) (n := (11 * (2 * (sz - at9) + 20))) (by omega) (by omega) ?_
        have hzz1 : H.size ≤ s.heap.size + ((2 * ((at175 + 1) - at9) - 3)) := (by have z : (1 + (2 * (at175 - ((at6 + 1) + 1)) - 1)) ≤ (2 * ((at175 + 1) - at9) - 3) := (by omega); omega)
        have hzz2 : hSl H ≤ hSl s.heap + ((11 * (2 * ((at175 + 1) - at9) - 3))) := (by have z : (11 + (11 * (2 * (at175 - ((at6 + 1) + 1)) - 1))) ≤ (11 * (2 * ((at175 + 1) - at9) - 3)) := (by omega); omega)
        exact W.aret (v := .ref q13) hx hb hr (Or.inl ⟨_, rfl⟩) (Or.inr ⟨_, rfl⟩) (fun t99 ht99 hW99 => ⟨⟨_, (w, (q13, K200, (gset g174 q13 168 O k9), (at175 + 1), sg176, f177, k9)), rfl, ⟨rfl, hz232, hz233, hz234, hz235, hz236, hz237, hO⟩, by rw [ht99]; exact hP, hD, by rw [ht99]; exact hzz1, by rw [ht99]; exact hzz2⟩, hS.F ht99⟩) hS.2.2 dX8_local_63
theorem dX8_wordStatement_31 : decode cX8_wordStatement 31 = .ok (.aload_n 3, 1) := by decide +kernel
theorem dX8_wordStatement_32 : decode cX8_wordStatement 32 = .ok (.aload_n 0, 1) := by decide +kernel
theorem dX8_wordStatement_33 : decode cX8_wordStatement 33 = .ok (.invokevirtual 196, 3) := by decide +kernel
theorem dX8_wordStatement_36 : decode cX8_wordStatement 36 = .ok (.putfield 165, 3) := by decide +kernel
set_option maxHeartbeats 20000000 in
set_option maxRecDepth 100000 in
theorem P_word1 (l : Launch) (G : pT) (h0 : Nat) (a : Nat → Nat) (F : Nat → Int32) (R : Nat → Value) (Z : Int64) (B : Nat → Nat → Int32) (J : Nat → Nat → Int64) (K : PK) (w : va_W) (x : Int32) (n : Nat) (at9 : Nat) (sz : Nat) (dp : Nat) (sg : Nat) (O : Nat) (g : Nat → Nat → Nat) (hsz : sz ≤ 5000) (hat : at9 ≤ sz) (hdp : dp + n = 20) (hsg : sg ≤ 60) (hwn : WN K g) (how : ∀ o : Nat, O = o + 1 → K.1 o = 1 ∧ g 0 o = 0 ∧ ¬ K.2.1 0 o = 32) (hle : at9 + 1 ≤ sz) (hx28 : x = 28 ∨ x = 31) (hO : OKP G h0 a (upd (upd (upd (upd F 2 (nI sz)) 9 (nI at9)) 10 (nI dp)) 11 (nI sg)) R Z B J K w) (hl0 : l.stackTraces = false) : PBn l G pX0 yX8_wordStatement cX8_wordStatement 4 (some (.object "JinjaTongue$Node")) ({ frames := (40 * n + 44), cells := (2 * (sz - at9) + 20), slots := (11 * (2 * (sz - at9) + 20)), locals := (1300 * n + 1400) }) [.ref (a 3), .int x, .int 1] w (fun (v : Option Value) (u : va_W × (Nat × PK × (Nat → Nat → Nat) × Nat × Nat × (Nat → Int32) × Nat)) => v = some (.ref u.2.1) ∧ (NwR K u.2.2.1 g u.2.2.2.1 u.2.1 O u.2.2.2.2.2.2.2 ((173 + 3 * (20 - dp)))) ∧ (rS u.2.2.2.2.2.2.2 = at9 ∧ rE u.2.2.2.2.2.2.2 ≤ u.2.2.2.2.1 ∧ rS u.2.2.2.2.2.2.2 ≤ rE u.2.2.2.2.2.2.2 ∧ rD u.2.2.2.2.2.2.2 ≤ 2 * (20 - dp) + 2) ∧ (at9 + 3 ≤ u.2.2.2.2.1 ∧ u.2.2.2.2.1 ≤ sz) ∧ (sg ≤ u.2.2.2.2.2.1 ∧ u.2.2.2.2.2.1 ≤ 60) ∧ (¬ u.2.2.1.2.1 0 u.2.1 = 22) ∧ (NwT (B 7) sz (B 10) u.2.2.2.2.2.2.1 K u.2.2.1 at9 u.2.2.2.2.1) ∧ (OKP G h0 a (upd (upd (upd (upd F 2 (nI sz)) 9 (nI u.2.2.2.2.1)) 10 (nI dp)) 11 (nI u.2.2.2.2.2.1)) R Z (updA B 10 u.2.2.2.2.2.2.1) J u.2.2.1 u.1)) (fun u => u.1) (fun (u : va_W × (Nat × PK × (Nat → Nat → Nat) × Nat × Nat × (Nat → Int32) × Nat)) => (2 * (u.2.2.2.2.1 - at9) - 4)) (fun (u : va_W × (Nat × PK × (Nat → Nat → Nat) × Nat × Nat × (Nat → Int32) × Nat)) => (11 * (2 * (u.2.2.2.2.1 - at9) - 4))) (fun (u : va_W × (Nat → Int32) × (Nat → Value) × (Nat → Nat → Int32)) => ThQ G h0 a (upd (upd (upd (upd F 2 (nI sz)) 9 (nI at9)) 10 (nI dp)) 11 (nI sg)) R Z B J u) (fun u => u.1) := by
  intro sz
  refine vx_ofW (cc := cX8_wordStatement) (maxL := 4) (ret := (some (.object "JinjaTongue$Node"))) (by decide) rfl ?_
  intro p e s m args below meth c s₁ B9 hml hnt hv
  obtain ⟨rfl, hsz, hP, hD0, hE, hX⟩ := hv
  have hx := B9.exec
  have hb := B9.bytes
  have hr := B9.returns
  have hts := atoms_spec (ws := Cond.code yX8_wordStatement cX8_wordStatement 4 (some (.object "JinjaTongue$Node")) :: pw) B9.pre
  have hq : ∀ w ∈ pw, w.before _ s = true := fun w h => hts w (List.mem_cons_of_mem _ h)
  have hown : s.vm.findClass RX8 = some m.cls := findClass_of_methodNamed B9.named
  have hlocks := B9.notSynchronized
  subst hsz
  have hD := hD0.self (sz := s.heap.size)
  have hA : ∀ q : Nat, s.heap.size ≤ q → va_A w s.heap.size q := fun q h => Or.inr h
  generalize va_A w s.heap.size = A at hD hE hA ⊢
  have hS : va_S A s.heap s.heap [] := va_S.rf
  have hl := lv_entry ([.ref (a 3), .int x, .int 1]) (n := 4) (Nat.le_of_ble_eq_true rfl)
  rw [lg_entry_eq]
  generalize (lg_sl ([.ref (a 3), .int x, .int 1]) ++ List.replicate (4 - (lg_sl ([.ref (a 3), .int x, .int 1])).length) Slot.unset).toArray = ls at hl ⊢
  have hl : lv_has ls 4 [(0, .ref (a 3)), (1, .int x), (2, .int 1)] := hl
  have htk0 : NwT (B 7) sz (B 10) (B 10) K K at9 at9 := NwT.nil
  have hns0 : NwS K K g g := NwS.nil hwn
  rcases hx28 with rfl | rfl
  · skip
    refine p_new (s9 := 1) (C := RX7) (T := TX7) (N := 11) (ci := 13) (fs := [.int 0, .int 0, .int 0, .int 0, .int 0, .int 0, .null, .null, .null, .null, .null]) hx hb hq pin_wsX70 tyX7 tyX7_ok hown (hq _ pw_870) (hq _ pw_871) (hq _ pw_872) hE hP hD hS hA hO rfl nw_X7 (by decide) (fun q => by rw [rep_1 (show (kN K q 1 0).1 q = 1 from if_pos rfl)]; unfold fsNode kN; simp only [if_true]; rfl) (by show 0 + 1 ≤ (2 * (sz - at9) + 20); omega) (by show 0 + 11 ≤ (11 * (2 * (sz - at9) + 20)); omega) dX8_wordStatement_0 (fun q1 H w hq2 hP hD hS hO => ?_)
    have hf3 : (kN K q1 1 0).1 q1 = 1 := if_pos rfl
    refine W.widen (k := 1) (n := 11) (by show 0 + 1 ≤ 1; omega) (by show 0 + 11 ≤ 11; omega) ?_
    refine lv_dup hx hb dX8_wordStatement_3 rfl ?_
    refine lv_iload_n hx hb dX8_wordStatement_4 rfl (lv_at hl 1 rfl) ?_
    refine lv_aload_n hx hb dX8_wordStatement_5 rfl (lv_at hl 0 rfl) ?_
    refine c_get (v := .int (nI at9)) (C := RX8) (Tc := TX8) (N := 5) (ci := 5) hx hb hq pin_wsX80 hown hE hP hO 23 (sg_23 G h0 a _ _ _ _ _) rfl 2 (by decide) (hq _ pw_776) (fun _ h9 => h9) rfl dX8_wordStatement_6 ?_
    refine lv_aload_n hx hb dX8_wordStatement_9 rfl (lv_at hl 0 rfl) ?_
    refine c_get (v := .int (nI at9)) (C := RX8) (Tc := TX8) (N := 5) (ci := 5) hx hb hq pin_wsX80 hown hE hP hO 23 (sg_23 G h0 a _ _ _ _ _) rfl 2 (by decide) (hq _ pw_776) (fun _ h9 => h9) rfl dX8_wordStatement_10 ?_
    have hO : OKP G h0 a (upd (upd (upd (upd F 2 (nI sz)) 9 (nI at9)) 10 (nI dp)) 11 (nI sg)) R Z B J (kN K q1 1 0) w := hO.to rfl
    obtain ⟨qr7, hqr8⟩ := p_recv hO (by rw [hf3]; decide) (rep_1 hf3)
    refine pc_I0 (G := G) (As := [.int 28, .int (nI at9), .int (nI at9)]) (rest := [.ref q1]) hx hb hml hown hq hE hX pX0_al hP hD hS hA hl.1 (N_init l G h0 a (upd (upd (upd (upd F 2 (nI sz)) 9 (nI at9)) 10 (nI dp)) 11 (nI sg)) R Z B J (kN K q1 1 0) w q1 28 (nI at9) (nI at9) (by omega) hO) pw_874 pw_875 pw_872 pw_765 rfl hS_X7_init rfl (Nat.le_of_ble_eq_true rfl) dX8_wordStatement_13 ⟨(by show 1 + 0 ≤ (2 * (sz - at9) + 20); omega), (by show 11 + 0 ≤ (11 * (2 * (sz - at9) + 20)); omega)⟩ ⟨(by show 2 + 1 ≤ (40 * n + 44); omega), (by show 8 + (4 + 11) + 60 ≤ (1300 * n + 1400); omega)⟩ (fun v6 u4 H locs hw5 hP hD hS => ?_)
    obtain ⟨w, _⟩ := u4
    obtain ⟨hw5, hO⟩ := hw5
    obtain rfl : v6 = none := hw5
    have hf9 : (kI (kI (kI (kN K q1 1 0) 0 q1 28) 1 q1 (nI at9)) 2 q1 (nI at9)).1 q1 = 1 := hf3
    have hO : OKP G h0 a (upd (upd (upd (upd F 2 (nI sz)) 9 (nI at9)) 10 (nI dp)) 11 (nI sg)) R Z B J (kI (kI (kI (kN K q1 1 0) 0 q1 28) 1 q1 (nI at9)) 2 q1 (nI at9)) w := hO.to rfl
    refine W.widen (k := 1) (n := 11) (by show 1 + 0 ≤ 1; omega) (by show 11 + 0 ≤ 11; omega) ?_
    refine W.eq (g2 := F0 m 16 ls [.ref q1]) rfl ?_
    change OKP G h0 a (upd (upd (upd (upd F 2 (nI sz)) 9 (nI at9)) 10 (nI dp)) 11 (nI sg)) R Z B J (mkN K q1 28 (nI at9) (nI at9)) w at hO
    obtain ⟨K10, hK11⟩ : ∃ z : PK, z = (mkN K q1 28 (nI at9) (nI at9)) := ⟨_, rfl⟩
    rw [← hK11] at hO
    have htk12 : NwT (B 7) sz (B 10) (B 10) K K10 at9 at9 := by rw [hK11]; exact NwT.new (NwT.le htk0 (show _ ≤ at9 by omega)) hq2 (TkP.no (by decide))
    have hf13 : K10.1 q1 = 1 := by rw [hK11]; exact mkN_T
    have hf14 : K10.2.1 0 q1 = 28 := by rw [hK11]; exact mkN_0
    have hf15 : K10.2.1 2 q1 = (nI at9) := by rw [hK11]; exact mkN_2
    have hf16 : K10.2.2.1 0 q1 = none := by rw [hK11]; exact mkN_C
    have hf17 : K10.2.2.1 1 q1 = none := by rw [hK11]; exact mkN_C
    have hf18 : K10.2.2.1 2 q1 = none := by rw [hK11]; exact mkN_C
    have hf19 : K10.2.2.1 3 q1 = none := by rw [hK11]; exact mkN_C
    have hf20 : K10.2.2.1 4 q1 = none := by rw [hK11]; exact mkN_C
    have hns21 : NwS K K10 g (gset g q1 0 0 0) := by rw [hK11]; exact NwS.node hns0 hq2
    have hq22 : K.1 q1 = 0 := old_T hns0.2.1 hq2
    have hg23 : (gset g q1 0 0 0) 0 q1 = 0 := gset_0
    have hno24 : NoO K10 (gset g q1 0 0 0) q1 := by rw [hK11]; exact NoO.new hns0.1 hq2
    refine lv_astore_n (lv' := [(3, .ref q1), (0, .ref (a 3)), (1, .int 28), (2, .int 1)]) hx hb dX8_wordStatement_16 rfl hl (by decide) rfl (fun ls hl => ?_)
    refine lv_aload_n hx hb dX8_wordStatement_17 rfl (lv_at hl 1 rfl) ?_
    refine lv_dup hx hb dX8_wordStatement_18 rfl ?_
    refine c_get (v := .int (nI at9)) (C := RX8) (Tc := TX8) (N := 5) (ci := 5) hx hb hq pin_wsX80 hown hE hP hO 23 (sg_23 G h0 a _ _ _ _ _) rfl 2 (by decide) (hq _ pw_776) (fun _ h9 => h9) rfl dX8_wordStatement_19 ?_
    refine lv_iconst (v := 1) hx hb dX8_wordStatement_22 (by decide) ?_
    refine lv_iadd hx hb dX8_wordStatement_23 ?_
    refine lv_topi (fun x25 e26 => ?_)
    obtain rfl : x25 = nI (at9 + 1) := e26.trans (nI_add (at9) (1))
    refine c_put (v := .int (nI (at9 + 1))) (ty := .int) (C := RX8) (Tc := TX8) (N := 5) (ci := 5) hx hb hq pin_wsX80 tyX8 tyX8_ok nmX8 hown hE hP hD hS hO 23 (sg_23 G h0 a _ _ _ _ _) rfl 2 (by decide) (hq _ pw_776) (fun _ h9 => h9) rfl (by decide +kernel) rfl rfl (Nat.le_of_ble_eq_true rfl) (sf_9 G h0 a _ _ _ _ _ (nI (at9 + 1))) dX8_wordStatement_24 (fun H locs w hP hD hS hO => ?_)
    refine lv_iload_n hx hb dX8_wordStatement_27 rfl (lv_at hl 3 rfl) ?_
    refine lv_if_eq (tgt := 39) hx hb dX8_wordStatement_28 (by decide) (fun c27 => absurd c27 (by decide)) (fun c27 => ?_)
    refine lv_aload_n hx hb dX8_wordStatement_31 rfl (lv_at hl 0 rfl) ?_
    refine lv_aload_n hx hb dX8_wordStatement_32 rfl (lv_at hl 1 rfl) ?_
    have hO : OKP G h0 a (upd (upd (upd (upd (upd (upd (upd (upd (upd F 2 (nI sz)) 9 (nI at9)) 10 (nI dp)) 11 (nI sg)) 9 (nI (at9 + 1))) 2 (nI sz)) 9 (nI (at9 + 1))) 10 (nI dp)) 11 (nI sg)) R Z B J K10 w := hO.to rfl
    obtain ⟨_, qr31, hqr32⟩ := hO.2.1 23 _ (sg_23 G h0 a _ _ _ _ _)
    refine pn_V0 (G := G) (As := []) (rest := [.ref q1]) hx hb hml hown hq hE hX pX0_al hP hD hS hA hl.1 (((PE_all l G n).1) h0 a (upd (upd (upd (upd (upd F 2 (nI sz)) 9 (nI at9)) 10 (nI dp)) 11 (nI sg)) 9 (nI (at9 + 1))) R Z B J K10 w (at9 + 1) sz dp sg 0 (gset g q1 0 0 0) (by omega) (by omega) hdp (by omega) hns21.1 (fun o9 h9 => absurd h9 (by omega)) hO hl0) (gV pw_916 pw_917 pw_918 pw_796 pw_942) hV_X8_expression qr31 5 hqr32 rfl rfl rfl (Nat.le_of_ble_eq_true rfl) dX8_wordStatement_33 ⟨(by show 1 + (2 * (sz - (at9 + 1)) + 20) ≤ (2 * (sz - at9) + 20); omega), (by show 11 + (11 * (2 * (sz - (at9 + 1)) + 20)) ≤ (11 * (2 * (sz - at9) + 20)); omega)⟩ ⟨(by show (40 * n + 40) + 1 ≤ (40 * n + 44); omega), (by show 8 + (3 + 11) + (1300 * n + 1300) ≤ (1300 * n + 1400); omega)⟩ (fun v30 u28 H locs hw29 hP hD hS => ?_) (fun ux ce9 q9 H9 locs9 hux hP9 hD9 hS9 hce hcv hcl => pb_out ux (ThQ.up (Thx.same (Thx.same (Thx.same (Thx.same (Thx.f Thx.rfl (by omega)) rfl) rfl) rfl) rfl) RhX.rfl hux) hnt hlocks hce hcv hcl hP9 hD9 hS9 (by show 1 + (2 * (sz - (at9 + 1)) + 20) ≤ (2 * (sz - at9) + 20); omega) (by show 11 + (11 * (2 * (sz - (at9 + 1)) + 20)) ≤ (11 * (2 * (sz - at9) + 20)); omega))
    obtain ⟨w, r33, K34, g35, at36, sg37, f38, k39⟩ := u28
    obtain ⟨hw29, h40, h41, h42, h43, h44, h45, hO⟩ := hw29
    have h40 : NwR K10 K34 (gset g q1 0 0 0) g35 r33 0 k39 (5 * (20 - dp) + 6 + (sg37 - sg)) := h40
    have h41 : (at9 + 1) ≤ rS k39 ∧ rS k39 + 1 ≤ rE k39 ∧ rE k39 ≤ at36 ∧ 1 ≤ rD k39 ∧ rD k39 ≤ 9 * (20 - dp) + (sg37 - sg) + 1 := h41
    have h42 : (at9 + 1) + 1 ≤ at36 ∧ at36 ≤ sz := h42
    have h43 : sg ≤ sg37 ∧ sg37 ≤ 60 := h43
    have h44 : ¬ tkN ((B 7)) sz 67 (nI (at9 + 1)) = 37 := h44
    have h45 : NwT ((B 7)) sz ((B 10)) f38 K10 K34 (at9 + 1) at36 := h45
    obtain rfl : v30 = some (.ref r33) := hw29
    have hf46 : K34.1 q1 = 1 := (((h40).2.1.1 q1 (by rw [hf13]; decide)).1).trans hf13
    have hf47 : K34.2.1 0 q1 = 28 := (((h40).2.1.1 q1 (by rw [hf13]; decide)).2.1 0).trans hf14
    have hf48 : K34.2.1 2 q1 = (nI at9) := (((h40).2.1.1 q1 (by rw [hf13]; decide)).2.1 2).trans hf15
    have hf49 : K34.2.2.1 0 q1 = none := (((h40).2.1.1 q1 (by rw [hf13]; decide)).2.2.1 0).trans hf16
    have hf50 : K34.2.2.1 1 q1 = none := (((h40).2.1.1 q1 (by rw [hf13]; decide)).2.2.1 1).trans hf17
    have hf51 : K34.2.2.1 2 q1 = none := (((h40).2.1.1 q1 (by rw [hf13]; decide)).2.2.1 2).trans hf18
    have hf52 : K34.2.2.1 3 q1 = none := (((h40).2.1.1 q1 (by rw [hf13]; decide)).2.2.1 3).trans hf19
    have hf53 : K34.2.2.1 4 q1 = none := (((h40).2.1.1 q1 (by rw [hf13]; decide)).2.2.1 4).trans hf20
    have hO : OKP G h0 a (upd (upd (upd (upd F 2 (nI sz)) 9 (nI at36)) 10 (nI dp)) 11 (nI sg37)) R Z (updA B 10 f38) J K34 w := hO.to rfl
    refine W.widen (k := (1 + (2 * (at36 - (at9 + 1)) - 1))) (n := (11 + (11 * (2 * (at36 - (at9 + 1)) - 1)))) (by show 1 + (2 * (at36 - (at9 + 1)) - 1) ≤ (1 + (2 * (at36 - (at9 + 1)) - 1)); omega) (by show 11 + (11 * (2 * (at36 - (at9 + 1)) - 1)) ≤ (11 + (11 * (2 * (at36 - (at9 + 1)) - 1))); omega) ?_
    refine W.eq (g2 := F0 m 36 ls [.ref r33, .ref q1]) rfl ?_
    have htk54 : NwT (B 7) sz (B 10) f38 K K34 at9 at36 := (NwT.call htk12 h45 (by omega))
    have hns55 : NwS K K34 g g35 := NwS.call hns21 h40 (fun o9 h9 => absurd h9 (by omega))
    have hrk56 : g35 2 r33 = k39 := h40.2.2.1.2.2.2.2.2.1
    have hf57 : K34.1 r33 = 1 := h40.2.2.1.2.1
    have hg58 : g35 0 q1 = 0 := (h40.2.1.2 q1 (by rw [hf13]; decide) 0).trans hg23
    have hno59 : NoO K34 g35 q1 := NoO.call hno24 h40 hf13 (by omega)
    have hgy60 := h40.2.2.1
    have hgy60a := hgy60.2.2.1
    have hgy60b := hgy60.2.2.2.1
    refine p_put (v := .ref r33) (ty := (.object "JinjaTongue$Node")) (C := RX7) (Tc := TX7) (N := 11) (ci := 13) (K' := (kC K34 0 q1 (some r33))) hx hb hq pin_wsX70 tyX7 tyX7_ok nmX7 hown hE hP hD hS hO (by rw [hf46]; decide) (rep_1 hf46) rfl 6 (by decide) (hq _ pw_938) (fun _ h9 => h9) rfl (by decide +kernel) rfl rfl (Nat.le_of_ble_eq_true rfl) rfl (by rw [rep_1 (show (kC K34 0 q1 (some r33)).1 q1 = 1 from hf46), pc_0] <;> rfl) (fun p9 hp9 => rep_kC hp9) dX8_wordStatement_36 (fun H locs w hP hD hS hO => ?_)
    obtain ⟨K61, hK62⟩ : ∃ z : PK, z = (kC K34 0 q1 (some r33)) := ⟨_, rfl⟩
    rw [← hK62] at hO
    have hf63 : K61.1 q1 = 1 := (by rw [hK62]; exact hf46)
    have hf64 : K61.2.1 0 q1 = 28 := (by rw [hK62]; exact hf47)
    have hf65 : K61.2.1 2 q1 = (nI at9) := (by rw [hK62]; exact hf48)
    have hf66 : K61.2.2.1 1 q1 = none := (by rw [hK62]; exact (kC_of (by decide)).trans hf50)
    have hf67 : K61.2.2.1 2 q1 = none := (by rw [hK62]; exact (kC_of (by decide)).trans hf51)
    have hf68 : K61.2.2.1 3 q1 = none := (by rw [hK62]; exact (kC_of (by decide)).trans hf52)
    have hf69 : K61.2.2.1 4 q1 = none := (by rw [hK62]; exact (kC_of (by decide)).trans hf53)
    have hf70 : K61.1 r33 = 1 := (by rw [hK62]; exact hf57)
    have hf71 : K61.2.2.1 0 q1 = some r33 := by rw [hK62]; exact kC_eq
    have htk72 : NwT (B 7) sz (B 10) f38 K K61 at9 at36 := by rw [hK62]; exact NwT.put htk54
    have hns73 : NwS K K61 g g35 := by rw [hK62]; exact NwS.put hns55 hq22 hg58
    have hno74 : NoO K61 g35 q1 := by rw [hK62]; exact hno59
    refine lv_aload_n hx hb dX8_wordStatement_39 rfl (lv_at hl 1 rfl) ?_
    refine lv_bipush (v := 38) hx hb dX8_wordStatement_40 (by decide) ?_
    have hO : OKW G h0 a (upd (upd (upd (upd (upd (upd (upd (upd F 2 (nI sz)) 9 (nI at9)) 10 (nI dp)) 11 (nI sg)) 9 (nI at36)) 11 (nI sg37)) 2 (nI sz)) 9 (nI at36)) R Z (updA B 10 f38) J K61.1 (fun q99 x99 => x99 = rep G a K61 q99) w := hO.to rfl
    obtain ⟨_, qr78, hqr79⟩ := hO.2.1 23 _ (sg_23 G h0 a _ _ _ _ _)
    refine pn_V0 (G := G) (As := [.int 38]) (rest := []) hx hb hml hown hq hE hX pX0_al hP hD hS hA hl.1 (P_take l G h0 a (upd (upd (upd (upd (upd (upd F 2 (nI sz)) 9 (nI at9)) 10 (nI dp)) 11 (nI sg)) 9 (nI at36)) 11 (nI sg37)) R Z (updA B 10 f38) J K61.1 (fun q99 x99 => x99 = rep G a K61 q99) w 38 at36 sz (by omega) (by omega) (by decide) hO hl0) (gV pw_793 pw_794 pw_795 pw_796 pw_781) hV_X8_take qr78 5 hqr79 rfl rfl rfl (Nat.le_of_ble_eq_true rfl) dX8_wordStatement_42 ⟨(by show (1 + (2 * (at36 - (at9 + 1)) - 1)) + 1 ≤ (2 * (sz - at9) + 20); omega), (by show (11 + (11 * (2 * (at36 - (at9 + 1)) - 1))) + 6 ≤ (11 * (2 * (sz - at9) + 20)); omega)⟩ ⟨(by show 7 + 1 ≤ (40 * n + 44); omega), (by show 8 + (2 + 11) + 122 ≤ (1300 * n + 1400); omega)⟩ (fun v77 u75 H locs hw76 hP hD hS => ?_) (fun ux ce9 q9 H9 locs9 hux hP9 hD9 hS9 hce hcv hcl => pb_out ux (ThQ.up (Thx.same (Thx.same (Thx.b (Thx.f (Thx.f Thx.rfl (by omega)) (by omega)) (by omega) (by decide)) rfl) rfl) RhX.rfl hux) hnt hlocks hce hcv hcl hP9 hD9 hS9 (by show (1 + (2 * (at36 - (at9 + 1)) - 1)) + 1 ≤ (2 * (sz - at9) + 20); omega) (by show (11 + (11 * (2 * (at36 - (at9 + 1)) - 1))) + 6 ≤ (11 * (2 * (sz - at9) + 20)); omega))
    obtain ⟨w, _⟩ := u75
    obtain ⟨hw76, h80, h81, hO⟩ := hw76
    have h80 : at36 + 1 ≤ sz := h80
    have h81 : tkN ((B 7)) sz 67 (nI at36) = 38 := h81
    obtain rfl : v77 = some (.int (nI at36)) := hw76
    have hO : OKP G h0 a (upd (upd (upd (upd F 2 (nI sz)) 9 (nI (at36 + 1))) 10 (nI dp)) 11 (nI sg37)) R Z (updA B 10 f38) J K61 w := hO.to rfl
    refine W.widen (k := (1 + (2 * (at36 - (at9 + 1)) - 1))) (n := (11 + (11 * (2 * (at36 - (at9 + 1)) - 1)))) (by show (1 + (2 * (at36 - (at9 + 1)) - 1)) + 0 ≤ (1 + (2 * (at36 - (at9 + 1)) - 1)); omega) (by show (11 + (11 * (2 * (at36 - (at9 + 1)) - 1))) + 0 ≤ (11 + (11 * (2 * (at36 - (at9 + 1)) - 1))); omega) ?_
    refine W.eq (g2 := F0 m 45 ls [.int (nI at36)]) rfl ?_
    refine lv_pop hx hb dX8_wordStatement_45 rfl ?_
    refine lv_aload_n hx hb dX8_wordStatement_46 rfl (lv_at hl 0 rfl) ?_
    refine W_size (fun hz1 hz2 => ?_)
    refine vx_ret ?_
    obtain ⟨k9, k9I, hkS, hkE, hkM, hkN, hkX, hkD⟩ := rk_ex (s := at9) (e := (at36 + 1)) (m := at9) (n := at9) (x := at9) (d := (2 * (20 - dp) + 2)) (by omega)
    have hkid : ∀ f9 y9 : Nat, f9 ≤ 3 → K61.2.2.1 f9 q1 = some y9 → K61.1 y9 = 1 ∧ 1 ≤ g35 0 y9 ∧ g35 0 y9 < (173 + 3 * (20 - dp)) := by
      intro f9 y9 hf9 hy9
      rcases (show f9 = 0 ∨ f9 = 1 ∨ f9 = 2 ∨ f9 = 3 by omega) with rfl | rfl | rfl | rfl
      · rw [hf71] at hy9; cases hy9; exact ⟨hf70, (by omega), by omega⟩
      · rw [hf66] at hy9; cases hy9
      · rw [hf67] at hy9; cases hy9
      · rw [hf68] at hy9; cases hy9
    have hkc82 : ∀ f9 y9 : Nat, f9 ≤ 3 → K61.2.2.1 f9 q1 = some y9 → Kch (K61.2.1 0 q1) f9 (K61.2.1 0 y9) k9 (g35 2 y9) := by
      intro f9 y9 hf9 hy9
      rcases (show f9 = 0 ∨ f9 = 1 ∨ f9 = 2 ∨ f9 = 3 by omega) with rfl | rfl | rfl | rfl
      · rw [hf71] at hy9; cases hy9; rw [hrk56]; rw [hf64] <;> exact ⟨(fun z => absurd z (by decide)), (fun z => absurd z (by decide)), (fun z => absurd z (by decide)), (fun z => absurd z (by decide)), (fun z => absurd z (by decide)), (fun z => absurd z (by decide)), (fun z => absurd z (by decide)), (fun z => absurd z (by decide)), (fun z => absurd z (by decide)), (fun z => absurd z (by decide)), (fun _ _ => (by omega)), (fun z => absurd z (by decide)), (fun z => absurd z (by decide)), (fun z => absurd z (by decide)), (fun z => absurd z (by decide)), (fun z => absurd z (by decide)), (fun z => absurd z (by decide)), (fun z => absurd z (by decide)), (fun z => absurd z (by decide)), (fun z => absurd z (by decide)), (fun z => absurd z (by decide)), (fun z => absurd z (by decide)), (fun z => absurd z (by decide)), (fun z => absurd z (by decide))⟩
      · rw [hf66] at hy9; cases hy9
      · rw [hf67] at hy9; cases hy9
      · rw [hf68] at hy9; cases hy9
    have hdn := NwS.done1I (q := q1) (L := (173 + 3 * (20 - dp))) (O := O) (k := k9) hns73 hq22 hf63 hg58 (by omega) ⟨k9I, (by rw [hf64] <;> exact ⟨(fun z => absurd z (by decide)), (fun _ => (by omega)), (fun z => absurd z (by decide))⟩)⟩ (by rw [hf64]; exact ⟨(fun z => absurd z (by decide)), (fun z => absurd z (by decide)), (fun z => absurd z (by decide)), (fun z => absurd z (by decide)), (fun z => absurd z (by decide))⟩) (fun f9 z => by rw [hf64] at z; rcases z with ⟨z, _⟩ | ⟨z | z | z, _⟩ <;> exact absurd z (by decide)) hkid hf69 hno74 hkc82 how
    have hz83 : NwR K K61 g (gset g35 q1 (173 + 3 * (20 - dp)) O k9) q1 O k9 ((173 + 3 * (20 - dp))) := hdn
    have hz84 : rS k9 = at9 ∧ rE k9 ≤ (at36 + 1) ∧ rS k9 ≤ rE k9 ∧ rD k9 ≤ 2 * (20 - dp) + 2 := (by omega)
    have hz85 : at9 + 3 ≤ (at36 + 1) ∧ (at36 + 1) ≤ sz := (by omega)
    have hz86 : sg ≤ sg37 ∧ sg37 ≤ 60 := (by omega)
    have hz87 : ¬ K61.2.1 0 q1 = 22 := (by rw [hf64]; decide)
    have hz88 : NwT (B 7) sz (B 10) f38 K K61 at9 (at36 + 1) := (NwT.le htk72 (by omega))
    have hO : OKP G h0 a (upd (upd (upd (upd F 2 (nI sz)) 9 (nI (at36 + 1))) 10 (nI dp)) 11 (nI sg37)) R Z (updA B 10 f38) J K61 w := hO.to rfl
    refine W.widen (k := (2 * (sz - at9) + 20)) (n := (11 * (2 * (sz - at9) + 20))) (by omega) (by omega) ?_
    have hzz1 : H.size ≤ s.heap.size + ((2 * ((at36 + 1) - at9) - 4)) := (by have z : (1 + (2 * (at36 - (at9 + 1)) - 1)) ≤ (2 * ((at36 + 1) - at9) - 4) := (by omega); omega)
    have hzz2 : hSl H ≤ hSl s.heap + ((11 * (2 * ((at36 + 1) - at9) - 4))) := (by have z : (11 + (11 * (2 * (at36 - (at9 + 1)) - 1))) ≤ (11 * (2 * ((at36 + 1) - at9) - 4)) := (by omega); omega)
    exact W.aret (v := .ref q1) hx hb hr (Or.inl ⟨_, rfl⟩) (Or.inr ⟨_, rfl⟩) (fun t99 ht99 hW99 => ⟨⟨_, (w, (q1, K61, (gset g35 q1 (173 + 3 * (20 - dp)) O k9), (at36 + 1), sg37, f38, k9)), rfl, ⟨rfl, hz83, hz84, hz85, hz86, hz87, hz88, hO⟩, by rw [ht99]; exact hP, hD, by rw [ht99]; exact hzz1, by rw [ht99]; exact hzz2⟩, hS.F ht99⟩) hS.2.2 dX8_wordStatement_47
  · skip
    refine p_new (s9 := 1) (C := RX7) (T := TX7) (N := 11) (ci := 13) (fs := [.int 0, .int 0, .int 0, .int 0, .int 0, .int 0, .null, .null, .null, .null, .null]) hx hb hq pin_wsX70 tyX7 tyX7_ok hown (hq _ pw_870) (hq _ pw_871) (hq _ pw_872) hE hP hD hS hA hO rfl nw_X7 (by decide) (fun q => by rw [rep_1 (show (kN K q 1 0).1 q = 1 from if_pos rfl)]; unfold fsNode kN; simp only [if_true]; rfl) (by show 0 + 1 ≤ (2 * (sz - at9) + 20); omega) (by show 0 + 11 ≤ (11 * (2 * (sz - at9) + 20)); omega) dX8_wordStatement_0 (fun q89 H w hq90 hP hD hS hO => ?_)
    have hf91 : (kN K q89 1 0).1 q89 = 1 := if_pos rfl
    refine W.widen (k := 1) (n := 11) (by show 0 + 1 ≤ 1; omega) (by show 0 + 11 ≤ 11; omega) ?_
    refine lv_dup hx hb dX8_wordStatement_3 rfl ?_
    refine lv_iload_n hx hb dX8_wordStatement_4 rfl (lv_at hl 1 rfl) ?_
    refine lv_aload_n hx hb dX8_wordStatement_5 rfl (lv_at hl 0 rfl) ?_
    refine c_get (v := .int (nI at9)) (C := RX8) (Tc := TX8) (N := 5) (ci := 5) hx hb hq pin_wsX80 hown hE hP hO 23 (sg_23 G h0 a _ _ _ _ _) rfl 2 (by decide) (hq _ pw_776) (fun _ h9 => h9) rfl dX8_wordStatement_6 ?_
    refine lv_aload_n hx hb dX8_wordStatement_9 rfl (lv_at hl 0 rfl) ?_
    refine c_get (v := .int (nI at9)) (C := RX8) (Tc := TX8) (N := 5) (ci := 5) hx hb hq pin_wsX80 hown hE hP hO 23 (sg_23 G h0 a _ _ _ _ _) rfl 2 (by decide) (hq _ pw_776) (fun _ h9 => h9) rfl dX8_wordStatement_10 ?_
    have hO : OKP G h0 a (upd (upd (upd (upd F 2 (nI sz)) 9 (nI at9)) 10 (nI dp)) 11 (nI sg)) R Z B J (kN K q89 1 0) w := hO.to rfl
    obtain ⟨qr95, hqr96⟩ := p_recv hO (by rw [hf91]; decide) (rep_1 hf91)
    refine pc_I0 (G := G) (As := [.int 31, .int (nI at9), .int (nI at9)]) (rest := [.ref q89]) hx hb hml hown hq hE hX pX0_al hP hD hS hA hl.1 (N_init l G h0 a (upd (upd (upd (upd F 2 (nI sz)) 9 (nI at9)) 10 (nI dp)) 11 (nI sg)) R Z B J (kN K q89 1 0) w q89 31 (nI at9) (nI at9) (by omega) hO) pw_874 pw_875 pw_872 pw_765 rfl hS_X7_init rfl (Nat.le_of_ble_eq_true rfl) dX8_wordStatement_13 ⟨(by show 1 + 0 ≤ (2 * (sz - at9) + 20); omega), (by show 11 + 0 ≤ (11 * (2 * (sz - at9) + 20)); omega)⟩ ⟨(by show 2 + 1 ≤ (40 * n + 44); omega), (by show 8 + (4 + 11) + 60 ≤ (1300 * n + 1400); omega)⟩ (fun v94 u92 H locs hw93 hP hD hS => ?_)
    obtain ⟨w, _⟩ := u92
    obtain ⟨hw93, hO⟩ := hw93
    obtain rfl : v94 = none := hw93
    have hf97 : (kI (kI (kI (kN K q89 1 0) 0 q89 31) 1 q89 (nI at9)) 2 q89 (nI at9)).1 q89 = 1 := hf91
    have hO : OKP G h0 a (upd (upd (upd (upd F 2 (nI sz)) 9 (nI at9)) 10 (nI dp)) 11 (nI sg)) R Z B J (kI (kI (kI (kN K q89 1 0) 0 q89 31) 1 q89 (nI at9)) 2 q89 (nI at9)) w := hO.to rfl
    refine W.widen (k := 1) (n := 11) (by show 1 + 0 ≤ 1; omega) (by show 11 + 0 ≤ 11; omega) ?_
    refine W.eq (g2 := F0 m 16 ls [.ref q89]) rfl ?_
    change OKP G h0 a (upd (upd (upd (upd F 2 (nI sz)) 9 (nI at9)) 10 (nI dp)) 11 (nI sg)) R Z B J (mkN K q89 31 (nI at9) (nI at9)) w at hO
    obtain ⟨K98, hK99⟩ : ∃ z : PK, z = (mkN K q89 31 (nI at9) (nI at9)) := ⟨_, rfl⟩
    rw [← hK99] at hO
    have htk100 : NwT (B 7) sz (B 10) (B 10) K K98 at9 at9 := by rw [hK99]; exact NwT.new (NwT.le htk0 (show _ ≤ at9 by omega)) hq90 (TkP.no (by decide))
    have hf101 : K98.1 q89 = 1 := by rw [hK99]; exact mkN_T
    have hf102 : K98.2.1 0 q89 = 31 := by rw [hK99]; exact mkN_0
    have hf103 : K98.2.1 2 q89 = (nI at9) := by rw [hK99]; exact mkN_2
    have hf104 : K98.2.2.1 0 q89 = none := by rw [hK99]; exact mkN_C
    have hf105 : K98.2.2.1 1 q89 = none := by rw [hK99]; exact mkN_C
    have hf106 : K98.2.2.1 2 q89 = none := by rw [hK99]; exact mkN_C
    have hf107 : K98.2.2.1 3 q89 = none := by rw [hK99]; exact mkN_C
    have hf108 : K98.2.2.1 4 q89 = none := by rw [hK99]; exact mkN_C
    have hns109 : NwS K K98 g (gset g q89 0 0 0) := by rw [hK99]; exact NwS.node hns0 hq90
    have hq110 : K.1 q89 = 0 := old_T hns0.2.1 hq90
    have hg111 : (gset g q89 0 0 0) 0 q89 = 0 := gset_0
    have hno112 : NoO K98 (gset g q89 0 0 0) q89 := by rw [hK99]; exact NoO.new hns0.1 hq90
    refine lv_astore_n (lv' := [(3, .ref q89), (0, .ref (a 3)), (1, .int 31), (2, .int 1)]) hx hb dX8_wordStatement_16 rfl hl (by decide) rfl (fun ls hl => ?_)
    refine lv_aload_n hx hb dX8_wordStatement_17 rfl (lv_at hl 1 rfl) ?_
    refine lv_dup hx hb dX8_wordStatement_18 rfl ?_
    refine c_get (v := .int (nI at9)) (C := RX8) (Tc := TX8) (N := 5) (ci := 5) hx hb hq pin_wsX80 hown hE hP hO 23 (sg_23 G h0 a _ _ _ _ _) rfl 2 (by decide) (hq _ pw_776) (fun _ h9 => h9) rfl dX8_wordStatement_19 ?_
    refine lv_iconst (v := 1) hx hb dX8_wordStatement_22 (by decide) ?_
    refine lv_iadd hx hb dX8_wordStatement_23 ?_
    refine lv_topi (fun x113 e114 => ?_)
    obtain rfl : x113 = nI (at9 + 1) := e114.trans (nI_add (at9) (1))
    refine c_put (v := .int (nI (at9 + 1))) (ty := .int) (C := RX8) (Tc := TX8) (N := 5) (ci := 5) hx hb hq pin_wsX80 tyX8 tyX8_ok nmX8 hown hE hP hD hS hO 23 (sg_23 G h0 a _ _ _ _ _) rfl 2 (by decide) (hq _ pw_776) (fun _ h9 => h9) rfl (by decide +kernel) rfl rfl (Nat.le_of_ble_eq_true rfl) (sf_9 G h0 a _ _ _ _ _ (nI (at9 + 1))) dX8_wordStatement_24 (fun H locs w hP hD hS hO => ?_)
    refine lv_iload_n hx hb dX8_wordStatement_27 rfl (lv_at hl 3 rfl) ?_
    refine lv_if_eq (tgt := 39) hx hb dX8_wordStatement_28 (by decide) (fun c115 => absurd c115 (by decide)) (fun c115 => ?_)
    refine lv_aload_n hx hb dX8_wordStatement_31 rfl (lv_at hl 0 rfl) ?_
    refine lv_aload_n hx hb dX8_wordStatement_32 rfl (lv_at hl 1 rfl) ?_
    have hO : OKP G h0 a (upd (upd (upd (upd (upd (upd (upd (upd (upd F 2 (nI sz)) 9 (nI at9)) 10 (nI dp)) 11 (nI sg)) 9 (nI (at9 + 1))) 2 (nI sz)) 9 (nI (at9 + 1))) 10 (nI dp)) 11 (nI sg)) R Z B J K98 w := hO.to rfl
    obtain ⟨_, qr119, hqr120⟩ := hO.2.1 23 _ (sg_23 G h0 a _ _ _ _ _)
    refine pn_V0 (G := G) (As := []) (rest := [.ref q89]) hx hb hml hown hq hE hX pX0_al hP hD hS hA hl.1 (((PE_all l G n).1) h0 a (upd (upd (upd (upd (upd F 2 (nI sz)) 9 (nI at9)) 10 (nI dp)) 11 (nI sg)) 9 (nI (at9 + 1))) R Z B J K98 w (at9 + 1) sz dp sg 0 (gset g q89 0 0 0) (by omega) (by omega) hdp (by omega) hns109.1 (fun o9 h9 => absurd h9 (by omega)) hO hl0) (gV pw_916 pw_917 pw_918 pw_796 pw_942) hV_X8_expression qr119 5 hqr120 rfl rfl rfl (Nat.le_of_ble_eq_true rfl) dX8_wordStatement_33 ⟨(by show 1 + (2 * (sz - (at9 + 1)) + 20) ≤ (2 * (sz - at9) + 20); omega), (by show 11 + (11 * (2 * (sz - (at9 + 1)) + 20)) ≤ (11 * (2 * (sz - at9) + 20)); omega)⟩ ⟨(by show (40 * n + 40) + 1 ≤ (40 * n + 44); omega), (by show 8 + (3 + 11) + (1300 * n + 1300) ≤ (1300 * n + 1400); omega)⟩ (fun v118 u116 H locs hw117 hP hD hS => ?_) (fun ux ce9 q9 H9 locs9 hux hP9 hD9 hS9 hce hcv hcl => pb_out ux (ThQ.up (Thx.same (Thx.same (Thx.same (Thx.same (Thx.f Thx.rfl (by omega)) rfl) rfl) rfl) rfl) RhX.rfl hux) hnt hlocks hce hcv hcl hP9 hD9 hS9 (by show 1 + (2 * (sz - (at9 + 1)) + 20) ≤ (2 * (sz - at9) + 20); omega) (by show 11 + (11 * (2 * (sz - (at9 + 1)) + 20)) ≤ (11 * (2 * (sz - at9) + 20)); omega))
    obtain ⟨w, r121, K122, g123, at124, sg125, f126, k127⟩ := u116
    obtain ⟨hw117, h128, h129, h130, h131, h132, h133, hO⟩ := hw117
    have h128 : NwR K98 K122 (gset g q89 0 0 0) g123 r121 0 k127 (5 * (20 - dp) + 6 + (sg125 - sg)) := h128
    have h129 : (at9 + 1) ≤ rS k127 ∧ rS k127 + 1 ≤ rE k127 ∧ rE k127 ≤ at124 ∧ 1 ≤ rD k127 ∧ rD k127 ≤ 9 * (20 - dp) + (sg125 - sg) + 1 := h129
    have h130 : (at9 + 1) + 1 ≤ at124 ∧ at124 ≤ sz := h130
    have h131 : sg ≤ sg125 ∧ sg125 ≤ 60 := h131
    have h132 : ¬ tkN ((B 7)) sz 67 (nI (at9 + 1)) = 37 := h132
    have h133 : NwT ((B 7)) sz ((B 10)) f126 K98 K122 (at9 + 1) at124 := h133
    obtain rfl : v118 = some (.ref r121) := hw117
    have hf134 : K122.1 q89 = 1 := (((h128).2.1.1 q89 (by rw [hf101]; decide)).1).trans hf101
    have hf135 : K122.2.1 0 q89 = 31 := (((h128).2.1.1 q89 (by rw [hf101]; decide)).2.1 0).trans hf102
    have hf136 : K122.2.1 2 q89 = (nI at9) := (((h128).2.1.1 q89 (by rw [hf101]; decide)).2.1 2).trans hf103
    have hf137 : K122.2.2.1 0 q89 = none := (((h128).2.1.1 q89 (by rw [hf101]; decide)).2.2.1 0).trans hf104
    have hf138 : K122.2.2.1 1 q89 = none := (((h128).2.1.1 q89 (by rw [hf101]; decide)).2.2.1 1).trans hf105
    have hf139 : K122.2.2.1 2 q89 = none := (((h128).2.1.1 q89 (by rw [hf101]; decide)).2.2.1 2).trans hf106
    have hf140 : K122.2.2.1 3 q89 = none := (((h128).2.1.1 q89 (by rw [hf101]; decide)).2.2.1 3).trans hf107
    have hf141 : K122.2.2.1 4 q89 = none := (((h128).2.1.1 q89 (by rw [hf101]; decide)).2.2.1 4).trans hf108
    have hO : OKP G h0 a (upd (upd (upd (upd F 2 (nI sz)) 9 (nI at124)) 10 (nI dp)) 11 (nI sg125)) R Z (updA B 10 f126) J K122 w := hO.to rfl
    refine W.widen (k := (1 + (2 * (at124 - (at9 + 1)) - 1))) (n := (11 + (11 * (2 * (at124 - (at9 + 1)) - 1)))) (by show 1 + (2 * (at124 - (at9 + 1)) - 1) ≤ (1 + (2 * (at124 - (at9 + 1)) - 1)); omega) (by show 11 + (11 * (2 * (at124 - (at9 + 1)) - 1)) ≤ (11 + (11 * (2 * (at124 - (at9 + 1)) - 1))); omega) ?_
    refine W.eq (g2 := F0 m 36 ls [.ref r121, .ref q89]) rfl ?_
    have htk142 : NwT (B 7) sz (B 10) f126 K K122 at9 at124 := (NwT.call htk100 h133 (by omega))
    have hns143 : NwS K K122 g g123 := NwS.call hns109 h128 (fun o9 h9 => absurd h9 (by omega))
    have hrk144 : g123 2 r121 = k127 := h128.2.2.1.2.2.2.2.2.1
    have hf145 : K122.1 r121 = 1 := h128.2.2.1.2.1
    have hg146 : g123 0 q89 = 0 := (h128.2.1.2 q89 (by rw [hf101]; decide) 0).trans hg111
    have hno147 : NoO K122 g123 q89 := NoO.call hno112 h128 hf101 (by omega)
    have hgy148 := h128.2.2.1
    have hgy148a := hgy148.2.2.1
    have hgy148b := hgy148.2.2.2.1
    refine p_put (v := .ref r121) (ty := (.object "JinjaTongue$Node")) (C := RX7) (Tc := TX7) (N := 11) (ci := 13) (K' := (kC K122 0 q89 (some r121))) hx hb hq pin_wsX70 tyX7 tyX7_ok nmX7 hown hE hP hD hS hO (by rw [hf134]; decide) (rep_1 hf134) rfl 6 (by decide) (hq _ pw_938) (fun _ h9 => h9) rfl (by decide +kernel) rfl rfl (Nat.le_of_ble_eq_true rfl) rfl (by rw [rep_1 (show (kC K122 0 q89 (some r121)).1 q89 = 1 from hf134), pc_0] <;> rfl) (fun p9 hp9 => rep_kC hp9) dX8_wordStatement_36 (fun H locs w hP hD hS hO => ?_)
    obtain ⟨K149, hK150⟩ : ∃ z : PK, z = (kC K122 0 q89 (some r121)) := ⟨_, rfl⟩
    rw [← hK150] at hO
    have hf151 : K149.1 q89 = 1 := (by rw [hK150]; exact hf134)
    have hf152 : K149.2.1 0 q89 = 31 := (by rw [hK150]; exact hf135)
    have hf153 : K149.2.1 2 q89 = (nI at9) := (by rw [hK150]; exact hf136)
    have hf154 : K149.2.2.1 1 q89 = none := (by rw [hK150]; exact (kC_of (by decide)).trans hf138)
    have hf155 : K149.2.2.1 2 q89 = none := (by rw [hK150]; exact (kC_of (by decide)).trans hf139)
    have hf156 : K149.2.2.1 3 q89 = none := (by rw [hK150]; exact (kC_of (by decide)).trans hf140)
    have hf157 : K149.2.2.1 4 q89 = none := (by rw [hK150]; exact (kC_of (by decide)).trans hf141)
    have hf158 : K149.1 r121 = 1 := (by rw [hK150]; exact hf145)
    have hf159 : K149.2.2.1 0 q89 = some r121 := by rw [hK150]; exact kC_eq
    have htk160 : NwT (B 7) sz (B 10) f126 K K149 at9 at124 := by rw [hK150]; exact NwT.put htk142
    have hns161 : NwS K K149 g g123 := by rw [hK150]; exact NwS.put hns143 hq110 hg146
    have hno162 : NoO K149 g123 q89 := by rw [hK150]; exact hno147
    refine lv_aload_n hx hb dX8_wordStatement_39 rfl (lv_at hl 1 rfl) ?_
    refine lv_bipush (v := 38) hx hb dX8_wordStatement_40 (by decide) ?_
    have hO : OKW G h0 a (upd (upd (upd (upd (upd (upd (upd (upd F 2 (nI sz)) 9 (nI at9)) 10 (nI dp)) 11 (nI sg)) 9 (nI at124)) 11 (nI sg125)) 2 (nI sz)) 9 (nI at124)) R Z (updA B 10 f126) J K149.1 (fun q99 x99 => x99 = rep G a K149 q99) w := hO.to rfl
    obtain ⟨_, qr166, hqr167⟩ := hO.2.1 23 _ (sg_23 G h0 a _ _ _ _ _)
    refine pn_V0 (G := G) (As := [.int 38]) (rest := []) hx hb hml hown hq hE hX pX0_al hP hD hS hA hl.1 (P_take l G h0 a (upd (upd (upd (upd (upd (upd F 2 (nI sz)) 9 (nI at9)) 10 (nI dp)) 11 (nI sg)) 9 (nI at124)) 11 (nI sg125)) R Z (updA B 10 f126) J K149.1 (fun q99 x99 => x99 = rep G a K149 q99) w 38 at124 sz (by omega) (by omega) (by decide) hO hl0) (gV pw_793 pw_794 pw_795 pw_796 pw_781) hV_X8_take qr166 5 hqr167 rfl rfl rfl (Nat.le_of_ble_eq_true rfl) dX8_wordStatement_42 ⟨(by show (1 + (2 * (at124 - (at9 + 1)) - 1)) + 1 ≤ (2 * (sz - at9) + 20); omega), (by show (11 + (11 * (2 * (at124 - (at9 + 1)) - 1))) + 6 ≤ (11 * (2 * (sz - at9) + 20)); omega)⟩ ⟨(by show 7 + 1 ≤ (40 * n + 44); omega), (by show 8 + (2 + 11) + 122 ≤ (1300 * n + 1400); omega)⟩ (fun v165 u163 H locs hw164 hP hD hS => ?_) (fun ux ce9 q9 H9 locs9 hux hP9 hD9 hS9 hce hcv hcl => pb_out ux (ThQ.up (Thx.same (Thx.same (Thx.b (Thx.f (Thx.f Thx.rfl (by omega)) (by omega)) (by omega) (by decide)) rfl) rfl) RhX.rfl hux) hnt hlocks hce hcv hcl hP9 hD9 hS9 (by show (1 + (2 * (at124 - (at9 + 1)) - 1)) + 1 ≤ (2 * (sz - at9) + 20); omega) (by show (11 + (11 * (2 * (at124 - (at9 + 1)) - 1))) + 6 ≤ (11 * (2 * (sz - at9) + 20)); omega))
    obtain ⟨w, _⟩ := u163
    obtain ⟨hw164, h168, h169, hO⟩ := hw164
    have h168 : at124 + 1 ≤ sz := h168
    have h169 : tkN ((B 7)) sz 67 (nI at124) = 38 := h169
    obtain rfl : v165 = some (.int (nI at124)) := hw164
    have hO : OKP G h0 a (upd (upd (upd (upd F 2 (nI sz)) 9 (nI (at124 + 1))) 10 (nI dp)) 11 (nI sg125)) R Z (updA B 10 f126) J K149 w := hO.to rfl
    refine W.widen (k := (1 + (2 * (at124 - (at9 + 1)) - 1))) (n := (11 + (11 * (2 * (at124 - (at9 + 1)) - 1)))) (by show (1 + (2 * (at124 - (at9 + 1)) - 1)) + 0 ≤ (1 + (2 * (at124 - (at9 + 1)) - 1)); omega) (by show (11 + (11 * (2 * (at124 - (at9 + 1)) - 1))) + 0 ≤ (11 + (11 * (2 * (at124 - (at9 + 1)) - 1))); omega) ?_
    refine W.eq (g2 := F0 m 45 ls [.int (nI at124)]) rfl ?_
    refine lv_pop hx hb dX8_wordStatement_45 rfl ?_
    refine lv_aload_n hx hb dX8_wordStatement_46 rfl (lv_at hl 0 rfl) ?_
    refine W_size (fun hz1 hz2 => ?_)
    refine vx_ret ?_
    obtain ⟨k9, k9I, hkS, hkE, hkM, hkN, hkX, hkD⟩ := rk_ex (s := at9) (e := (at124 + 1)) (m := at9) (n := at9) (x := at9) (d := (2 * (20 - dp) + 2)) (by omega)
    have hkid : ∀ f9 y9 : Nat, f9 ≤ 3 → K149.2.2.1 f9 q89 = some y9 → K149.1 y9 = 1 ∧ 1 ≤ g123 0 y9 ∧ g123 0 y9 < (173 + 3 * (20 - dp)) := by
      intro f9 y9 hf9 hy9
      rcases (show f9 = 0 ∨ f9 = 1 ∨ f9 = 2 ∨ f9 = 3 by omega) with rfl | rfl | rfl | rfl
      · rw [hf159] at hy9; cases hy9; exact ⟨hf158, (by omega), by omega⟩
      · rw [hf154] at hy9; cases hy9
      · rw [hf155] at hy9; cases hy9
      · rw [hf156] at hy9; cases hy9
    have hkc170 : ∀ f9 y9 : Nat, f9 ≤ 3 → K149.2.2.1 f9 q89 = some y9 → Kch (K149.2.1 0 q89) f9 (K149.2.1 0 y9) k9 (g123 2 y9) := by
      intro f9 y9 hf9 hy9
      rcases (show f9 = 0 ∨ f9 = 1 ∨ f9 = 2 ∨ f9 = 3 by omega) with rfl | rfl | rfl | rfl
      · rw [hf159] at hy9; cases hy9; rw [hrk144]; rw [hf152] <;> exact ⟨(fun z => absurd z (by decide)), (fun z => absurd z (by decide)), (fun z => absurd z (by decide)), (fun z => absurd z (by decide)), (fun z => absurd z (by decide)), (fun z => absurd z (by decide)), (fun z => absurd z (by decide)), (fun z => absurd z (by decide)), (fun z => absurd z (by decide)), (fun z => absurd z (by decide)), (fun _ _ => (by omega)), (fun z => absurd z (by decide)), (fun z => absurd z (by decide)), (fun z => absurd z (by decide)), (fun z => absurd z (by decide)), (fun z => absurd z (by decide)), (fun z => absurd z (by decide)), (fun z => absurd z (by decide)), (fun z => absurd z (by decide)), (fun z => absurd z (by decide)), (fun z => absurd z (by decide)), (fun z => absurd z (by decide)), (fun z => absurd z (by decide)), (fun z => absurd z (by decide))⟩
      · rw [hf154] at hy9; cases hy9
      · rw [hf155] at hy9; cases hy9
      · rw [hf156] at hy9; cases hy9
    have hdn := NwS.done1I (q := q89) (L := (173 + 3 * (20 - dp))) (O := O) (k := k9) hns161 hq110 hf151 hg146 (by omega) ⟨k9I, (by rw [hf152] <;> exact ⟨(fun z => absurd z (by decide)), (fun z => absurd z (by decide)), (fun z => absurd z (by decide))⟩)⟩ (by rw [hf152]; exact ⟨(fun _ => (by show ¬ K149.2.2.1 0 q89 = none; rw [hf159]; intro z; cases z)), (fun z => absurd z (by decide)), (fun z => absurd z (by decide)), (fun z => absurd z (by decide)), (fun z => absurd z (by decide))⟩) (fun f9 z => by rw [hf152] at z; rcases z with ⟨z, _⟩ | ⟨z | z | z, _⟩ <;> exact absurd z (by decide)) hkid hf157 hno162 hkc170 how
    have hz171 : NwR K K149 g (gset g123 q89 (173 + 3 * (20 - dp)) O k9) q89 O k9 ((173 + 3 * (20 - dp))) := hdn
    have hz172 : rS k9 = at9 ∧ rE k9 ≤ (at124 + 1) ∧ rS k9 ≤ rE k9 ∧ rD k9 ≤ 2 * (20 - dp) + 2 := (by omega)
    have hz173 : at9 + 3 ≤ (at124 + 1) ∧ (at124 + 1) ≤ sz := (by omega)
    have hz174 : sg ≤ sg125 ∧ sg125 ≤ 60 := (by omega)
    have hz175 : ¬ K149.2.1 0 q89 = 22 := (by rw [hf152]; decide)
    have hz176 : NwT (B 7) sz (B 10) f126 K K149 at9 (at124 + 1) := (NwT.le htk160 (by omega))
    have hO : OKP G h0 a (upd (upd (upd (upd F 2 (nI sz)) 9 (nI (at124 + 1))) 10 (nI dp)) 11 (nI sg125)) R Z (updA B 10 f126) J K149 w := hO.to rfl
    refine W.widen (k := (2 * (sz - at9) + 20)) (n := (11 * (2 * (sz - at9) + 20))) (by omega) (by omega) ?_
    have hzz1 : H.size ≤ s.heap.size + ((2 * ((at124 + 1) - at9) - 4)) := (by have z : (1 + (2 * (at124 - (at9 + 1)) - 1)) ≤ (2 * ((at124 + 1) - at9) - 4) := (by omega); omega)
    have hzz2 : hSl H ≤ hSl s.heap + ((11 * (2 * ((at124 + 1) - at9) - 4))) := (by have z : (11 + (11 * (2 * (at124 - (at9 + 1)) - 1))) ≤ (11 * (2 * ((at124 + 1) - at9) - 4)) := (by omega); omega)
    exact W.aret (v := .ref q89) hx hb hr (Or.inl ⟨_, rfl⟩) (Or.inr ⟨_, rfl⟩) (fun t99 ht99 hW99 => ⟨⟨_, (w, (q89, K149, (gset g123 q89 (173 + 3 * (20 - dp)) O k9), (at124 + 1), sg125, f126, k9)), rfl, ⟨rfl, hz171, hz172, hz173, hz174, hz175, hz176, hO⟩, by rw [ht99]; exact hP, hD, by rw [ht99]; exact hzz1, by rw [ht99]; exact hzz2⟩, hS.F ht99⟩) hS.2.2 dX8_wordStatement_47
theorem dX8_printStatement_0 : decode cX8_printStatement 0 = .ok (.new 143, 3) := by decide +kernel
theorem dX8_printStatement_3 : decode cX8_printStatement 3 = .ok (.dup, 1) := by decide +kernel
theorem dX8_printStatement_4 : decode cX8_printStatement 4 = .ok (.bipush 33, 2) := by decide +kernel
theorem dX8_printStatement_6 : decode cX8_printStatement 6 = .ok (.aload_n 0, 1) := by decide +kernel
theorem dX8_printStatement_7 : decode cX8_printStatement 7 = .ok (.getfield 17, 3) := by decide +kernel
theorem dX8_printStatement_10 : decode cX8_printStatement 10 = .ok (.aload_n 0, 1) := by decide +kernel
theorem dX8_printStatement_11 : decode cX8_printStatement 11 = .ok (.getfield 17, 3) := by decide +kernel
theorem dX8_printStatement_14 : decode cX8_printStatement 14 = .ok (.invokespecial 145, 3) := by decide +kernel
theorem dX8_printStatement_17 : decode cX8_printStatement 17 = .ok (.astore_n 1, 1) := by decide +kernel
theorem dX8_printStatement_18 : decode cX8_printStatement 18 = .ok (.aload_n 0, 1) := by decide +kernel
theorem dX8_printStatement_19 : decode cX8_printStatement 19 = .ok (.dup, 1) := by decide +kernel
theorem dX8_printStatement_20 : decode cX8_printStatement 20 = .ok (.getfield 17, 3) := by decide +kernel
theorem dX8_printStatement_23 : decode cX8_printStatement 23 = .ok (.iconst 1, 1) := by decide +kernel
theorem dX8_printStatement_24 : decode cX8_printStatement 24 = .ok (.iadd, 1) := by decide +kernel
theorem dX8_printStatement_25 : decode cX8_printStatement 25 = .ok (.putfield 17, 3) := by decide +kernel
theorem dX8_printStatement_28 : decode cX8_printStatement 28 = .ok (.aload_n 0, 1) := by decide +kernel
theorem dX8_printStatement_29 : decode cX8_printStatement 29 = .ok (.bipush 34, 2) := by decide +kernel
theorem dX8_printStatement_31 : decode cX8_printStatement 31 = .ok (.invokevirtual 53, 3) := by decide +kernel
theorem dX8_printStatement_34 : decode cX8_printStatement 34 = .ok (.pop, 1) := by decide +kernel
theorem dX8_printStatement_35 : decode cX8_printStatement 35 = .ok (.aload_n 1, 1) := by decide +kernel
theorem dX8_printStatement_36 : decode cX8_printStatement 36 = .ok (.aload_n 0, 1) := by decide +kernel
theorem dX8_printStatement_37 : decode cX8_printStatement 37 = .ok (.invokevirtual 196, 3) := by decide +kernel
theorem dX8_printStatement_40 : decode cX8_printStatement 40 = .ok (.putfield 165, 3) := by decide +kernel
theorem dX8_printStatement_43 : decode cX8_printStatement 43 = .ok (.aload_n 0, 1) := by decide +kernel
theorem dX8_printStatement_44 : decode cX8_printStatement 44 = .ok (.bipush 35, 2) := by decide +kernel
theorem dX8_printStatement_46 : decode cX8_printStatement 46 = .ok (.invokevirtual 53, 3) := by decide +kernel
theorem dX8_printStatement_49 : decode cX8_printStatement 49 = .ok (.pop, 1) := by decide +kernel
theorem dX8_printStatement_50 : decode cX8_printStatement 50 = .ok (.aload_n 0, 1) := by decide +kernel
theorem dX8_printStatement_51 : decode cX8_printStatement 51 = .ok (.bipush 38, 2) := by decide +kernel
theorem dX8_printStatement_53 : decode cX8_printStatement 53 = .ok (.invokevirtual 53, 3) := by decide +kernel
theorem dX8_printStatement_56 : decode cX8_printStatement 56 = .ok (.pop, 1) := by decide +kernel
theorem dX8_printStatement_57 : decode cX8_printStatement 57 = .ok (.aload_n 1, 1) := by decide +kernel
theorem dX8_printStatement_58 : decode cX8_printStatement 58 = .ok (.areturn, 1) := by decide +kernel
set_option maxHeartbeats 20000000 in
set_option maxRecDepth 100000 in
theorem P_print (l : Launch) (G : pT) (h0 : Nat) (a : Nat → Nat) (F : Nat → Int32) (R : Nat → Value) (Z : Int64) (B : Nat → Nat → Int32) (J : Nat → Nat → Int64) (K : PK) (w : va_W) (n : Nat) (at9 : Nat) (sz : Nat) (dp : Nat) (sg : Nat) (O : Nat) (g : Nat → Nat → Nat) (hsz : sz ≤ 5000) (hat : at9 ≤ sz) (hdp : dp + n = 20) (hsg : sg ≤ 60) (hwn : WN K g) (how : ∀ o : Nat, O = o + 1 → K.1 o = 1 ∧ g 0 o = 0 ∧ ¬ K.2.1 0 o = 32) (hle : at9 + 1 ≤ sz) (hO : OKP G h0 a (upd (upd (upd (upd F 2 (nI sz)) 9 (nI at9)) 10 (nI dp)) 11 (nI sg)) R Z B J K w) (hl0 : l.stackTraces = false) : PBn l G pX0 yX8_printStatement cX8_printStatement 2 (some (.object "JinjaTongue$Node")) ({ frames := (40 * n + 44), cells := (2 * (sz - at9) + 20), slots := (11 * (2 * (sz - at9) + 20)), locals := (1300 * n + 1400) }) [.ref (a 3)] w (fun (v : Option Value) (u : va_W × (Nat × PK × (Nat → Nat → Nat) × Nat × Nat × (Nat → Int32) × Nat)) => v = some (.ref u.2.1) ∧ (NwR K u.2.2.1 g u.2.2.2.1 u.2.1 O u.2.2.2.2.2.2.2 ((173 + 3 * (20 - dp)))) ∧ (rS u.2.2.2.2.2.2.2 = at9 ∧ rE u.2.2.2.2.2.2.2 ≤ u.2.2.2.2.1 ∧ rS u.2.2.2.2.2.2.2 ≤ rE u.2.2.2.2.2.2.2 ∧ rD u.2.2.2.2.2.2.2 ≤ 2 * (20 - dp) + 2) ∧ (at9 + 5 ≤ u.2.2.2.2.1 ∧ u.2.2.2.2.1 ≤ sz) ∧ (sg ≤ u.2.2.2.2.2.1 ∧ u.2.2.2.2.2.1 ≤ 60) ∧ (¬ u.2.2.1.2.1 0 u.2.1 = 22) ∧ (NwT (B 7) sz (B 10) u.2.2.2.2.2.2.1 K u.2.2.1 at9 u.2.2.2.2.1) ∧ (OKP G h0 a (upd (upd (upd (upd F 2 (nI sz)) 9 (nI u.2.2.2.2.1)) 10 (nI dp)) 11 (nI u.2.2.2.2.2.1)) R Z (updA B 10 u.2.2.2.2.2.2.1) J u.2.2.1 u.1)) (fun u => u.1) (fun (u : va_W × (Nat × PK × (Nat → Nat → Nat) × Nat × Nat × (Nat → Int32) × Nat)) => (2 * (u.2.2.2.2.1 - at9) - 5)) (fun (u : va_W × (Nat × PK × (Nat → Nat → Nat) × Nat × Nat × (Nat → Int32) × Nat)) => (11 * (2 * (u.2.2.2.2.1 - at9) - 5))) (fun (u : va_W × (Nat → Int32) × (Nat → Value) × (Nat → Nat → Int32)) => ThQ G h0 a (upd (upd (upd (upd F 2 (nI sz)) 9 (nI at9)) 10 (nI dp)) 11 (nI sg)) R Z B J u) (fun u => u.1) := by
  intro sz
  refine vx_ofW (cc := cX8_printStatement) (maxL := 2) (ret := (some (.object "JinjaTongue$Node"))) (by decide) rfl ?_
  intro p e s m args below meth c s₁ B9 hml hnt hv
  obtain ⟨rfl, hsz, hP, hD0, hE, hX⟩ := hv
  have hx := B9.exec
  have hb := B9.bytes
  have hr := B9.returns
  have hts := atoms_spec (ws := Cond.code yX8_printStatement cX8_printStatement 2 (some (.object "JinjaTongue$Node")) :: pw) B9.pre
  have hq : ∀ w ∈ pw, w.before _ s = true := fun w h => hts w (List.mem_cons_of_mem _ h)
  have hown : s.vm.findClass RX8 = some m.cls := findClass_of_methodNamed B9.named
  have hlocks := B9.notSynchronized
  subst hsz
  have hD := hD0.self (sz := s.heap.size)
  have hA : ∀ q : Nat, s.heap.size ≤ q → va_A w s.heap.size q := fun q h => Or.inr h
  generalize va_A w s.heap.size = A at hD hE hA ⊢
  have hS : va_S A s.heap s.heap [] := va_S.rf
  have hl := lv_entry ([.ref (a 3)]) (n := 2) (Nat.le_of_ble_eq_true rfl)
  rw [lg_entry_eq]
  generalize (lg_sl ([.ref (a 3)]) ++ List.replicate (2 - (lg_sl ([.ref (a 3)])).length) Slot.unset).toArray = ls at hl ⊢
  have hl : lv_has ls 2 [(0, .ref (a 3))] := hl
  have htk0 : NwT (B 7) sz (B 10) (B 10) K K at9 at9 := NwT.nil
  have hns0 : NwS K K g g := NwS.nil hwn
  refine p_new (s9 := 1) (C := RX7) (T := TX7) (N := 11) (ci := 13) (fs := [.int 0, .int 0, .int 0, .int 0, .int 0, .int 0, .null, .null, .null, .null, .null]) hx hb hq pin_wsX70 tyX7 tyX7_ok hown (hq _ pw_870) (hq _ pw_871) (hq _ pw_872) hE hP hD hS hA hO rfl nw_X7 (by decide) (fun q => by rw [rep_1 (show (kN K q 1 0).1 q = 1 from if_pos rfl)]; unfold fsNode kN; simp only [if_true]; rfl) (by show 0 + 1 ≤ (2 * (sz - at9) + 20); omega) (by show 0 + 11 ≤ (11 * (2 * (sz - at9) + 20)); omega) dX8_printStatement_0 (fun q1 H w hq2 hP hD hS hO => ?_)
  have hf3 : (kN K q1 1 0).1 q1 = 1 := if_pos rfl
  refine W.widen (k := 1) (n := 11) (by show 0 + 1 ≤ 1; omega) (by show 0 + 11 ≤ 11; omega) ?_
  refine lv_dup hx hb dX8_printStatement_3 rfl ?_
  refine lv_bipush (v := 33) hx hb dX8_printStatement_4 (by decide) ?_
  refine lv_aload_n hx hb dX8_printStatement_6 rfl (lv_at hl 0 rfl) ?_
  refine c_get (v := .int (nI at9)) (C := RX8) (Tc := TX8) (N := 5) (ci := 5) hx hb hq pin_wsX80 hown hE hP hO 23 (sg_23 G h0 a _ _ _ _ _) rfl 2 (by decide) (hq _ pw_776) (fun _ h9 => h9) rfl dX8_printStatement_7 ?_
  refine lv_aload_n hx hb dX8_printStatement_10 rfl (lv_at hl 0 rfl) ?_
  refine c_get (v := .int (nI at9)) (C := RX8) (Tc := TX8) (N := 5) (ci := 5) hx hb hq pin_wsX80 hown hE hP hO 23 (sg_23 G h0 a _ _ _ _ _) rfl 2 (by decide) (hq _ pw_776) (fun _ h9 => h9) rfl dX8_printStatement_11 ?_
  have hO : OKP G h0 a (upd (upd (upd (upd F 2 (nI sz)) 9 (nI at9)) 10 (nI dp)) 11 (nI sg)) R Z B J (kN K q1 1 0) w := hO.to rfl
  obtain ⟨qr7, hqr8⟩ := p_recv hO (by rw [hf3]; decide) (rep_1 hf3)
  refine pc_I0 (G := G) (As := [.int 33, .int (nI at9), .int (nI at9)]) (rest := [.ref q1]) hx hb hml hown hq hE hX pX0_al hP hD hS hA hl.1 (N_init l G h0 a (upd (upd (upd (upd F 2 (nI sz)) 9 (nI at9)) 10 (nI dp)) 11 (nI sg)) R Z B J (kN K q1 1 0) w q1 33 (nI at9) (nI at9) (by omega) hO) pw_874 pw_875 pw_872 pw_765 rfl hS_X7_init rfl (Nat.le_of_ble_eq_true rfl) dX8_printStatement_14 ⟨(by show 1 + 0 ≤ (2 * (sz - at9) + 20); omega), (by show 11 + 0 ≤ (11 * (2 * (sz - at9) + 20)); omega)⟩ ⟨(by show 2 + 1 ≤ (40 * n + 44); omega), (by show 8 + (4 + 11) + 60 ≤ (1300 * n + 1400); omega)⟩ (fun v6 u4 H locs hw5 hP hD hS => ?_)
  obtain ⟨w, _⟩ := u4
  obtain ⟨hw5, hO⟩ := hw5
  obtain rfl : v6 = none := hw5
  have hf9 : (kI (kI (kI (kN K q1 1 0) 0 q1 33) 1 q1 (nI at9)) 2 q1 (nI at9)).1 q1 = 1 := hf3
  have hO : OKP G h0 a (upd (upd (upd (upd F 2 (nI sz)) 9 (nI at9)) 10 (nI dp)) 11 (nI sg)) R Z B J (kI (kI (kI (kN K q1 1 0) 0 q1 33) 1 q1 (nI at9)) 2 q1 (nI at9)) w := hO.to rfl
  refine W.widen (k := 1) (n := 11) (by show 1 + 0 ≤ 1; omega) (by show 11 + 0 ≤ 11; omega) ?_
  refine W.eq (g2 := F0 m 17 ls [.ref q1]) rfl ?_
  change OKP G h0 a (upd (upd (upd (upd F 2 (nI sz)) 9 (nI at9)) 10 (nI dp)) 11 (nI sg)) R Z B J (mkN K q1 33 (nI at9) (nI at9)) w at hO
  obtain ⟨K10, hK11⟩ : ∃ z : PK, z = (mkN K q1 33 (nI at9) (nI at9)) := ⟨_, rfl⟩
  rw [← hK11] at hO
  have htk12 : NwT (B 7) sz (B 10) (B 10) K K10 at9 at9 := by rw [hK11]; exact NwT.new (NwT.le htk0 (show _ ≤ at9 by omega)) hq2 (TkP.no (by decide))
  have hf13 : K10.1 q1 = 1 := by rw [hK11]; exact mkN_T
  have hf14 : K10.2.1 0 q1 = 33 := by rw [hK11]; exact mkN_0
  have hf15 : K10.2.1 2 q1 = (nI at9) := by rw [hK11]; exact mkN_2
  have hf16 : K10.2.2.1 0 q1 = none := by rw [hK11]; exact mkN_C
  have hf17 : K10.2.2.1 1 q1 = none := by rw [hK11]; exact mkN_C
  have hf18 : K10.2.2.1 2 q1 = none := by rw [hK11]; exact mkN_C
  have hf19 : K10.2.2.1 3 q1 = none := by rw [hK11]; exact mkN_C
  have hf20 : K10.2.2.1 4 q1 = none := by rw [hK11]; exact mkN_C
  have hns21 : NwS K K10 g (gset g q1 0 0 0) := by rw [hK11]; exact NwS.node hns0 hq2
  have hq22 : K.1 q1 = 0 := old_T hns0.2.1 hq2
  have hg23 : (gset g q1 0 0 0) 0 q1 = 0 := gset_0
  have hno24 : NoO K10 (gset g q1 0 0 0) q1 := by rw [hK11]; exact NoO.new hns0.1 hq2
  refine lv_astore_n (lv' := [(1, .ref q1), (0, .ref (a 3))]) hx hb dX8_printStatement_17 rfl hl (by decide) rfl (fun ls hl => ?_)
  refine lv_aload_n hx hb dX8_printStatement_18 rfl (lv_at hl 1 rfl) ?_
  refine lv_dup hx hb dX8_printStatement_19 rfl ?_
  refine c_get (v := .int (nI at9)) (C := RX8) (Tc := TX8) (N := 5) (ci := 5) hx hb hq pin_wsX80 hown hE hP hO 23 (sg_23 G h0 a _ _ _ _ _) rfl 2 (by decide) (hq _ pw_776) (fun _ h9 => h9) rfl dX8_printStatement_20 ?_
  refine lv_iconst (v := 1) hx hb dX8_printStatement_23 (by decide) ?_
  refine lv_iadd hx hb dX8_printStatement_24 ?_
  refine lv_topi (fun x25 e26 => ?_)
  obtain rfl : x25 = nI (at9 + 1) := e26.trans (nI_add (at9) (1))
  refine c_put (v := .int (nI (at9 + 1))) (ty := .int) (C := RX8) (Tc := TX8) (N := 5) (ci := 5) hx hb hq pin_wsX80 tyX8 tyX8_ok nmX8 hown hE hP hD hS hO 23 (sg_23 G h0 a _ _ _ _ _) rfl 2 (by decide) (hq _ pw_776) (fun _ h9 => h9) rfl (by decide +kernel) rfl rfl (Nat.le_of_ble_eq_true rfl) (sf_9 G h0 a _ _ _ _ _ (nI (at9 + 1))) dX8_printStatement_25 (fun H locs w hP hD hS hO => ?_)
  refine lv_aload_n hx hb dX8_printStatement_28 rfl (lv_at hl 1 rfl) ?_
  refine lv_bipush (v := 34) hx hb dX8_printStatement_29 (by decide) ?_
  have hO : OKW G h0 a (upd (upd (upd (upd (upd (upd (upd F 2 (nI sz)) 9 (nI at9)) 10 (nI dp)) 11 (nI sg)) 9 (nI (at9 + 1))) 2 (nI sz)) 9 (nI (at9 + 1))) R Z B J K10.1 (fun q99 x99 => x99 = rep G a K10 q99) w := hO.to rfl
  obtain ⟨_, qr30, hqr31⟩ := hO.2.1 23 _ (sg_23 G h0 a _ _ _ _ _)
  refine pn_V0 (G := G) (As := [.int 34]) (rest := []) hx hb hml hown hq hE hX pX0_al hP hD hS hA hl.1 (P_take l G h0 a (upd (upd (upd (upd (upd F 2 (nI sz)) 9 (nI at9)) 10 (nI dp)) 11 (nI sg)) 9 (nI (at9 + 1))) R Z B J K10.1 (fun q99 x99 => x99 = rep G a K10 q99) w 34 (at9 + 1) sz (by omega) (by omega) (by decide) hO hl0) (gV pw_793 pw_794 pw_795 pw_796 pw_781) hV_X8_take qr30 5 hqr31 rfl rfl rfl (Nat.le_of_ble_eq_true rfl) dX8_printStatement_31 ⟨(by show 1 + 1 ≤ (2 * (sz - at9) + 20); omega), (by show 11 + 6 ≤ (11 * (2 * (sz - at9) + 20)); omega)⟩ ⟨(by show 7 + 1 ≤ (40 * n + 44); omega), (by show 8 + (2 + 11) + 122 ≤ (1300 * n + 1400); omega)⟩ (fun v29 u27 H locs hw28 hP hD hS => ?_) (fun ux ce9 q9 H9 locs9 hux hP9 hD9 hS9 hce hcv hcl => pb_out ux (ThQ.up (Thx.same (Thx.same (Thx.f Thx.rfl (by omega)) rfl) rfl) RhX.rfl hux) hnt hlocks hce hcv hcl hP9 hD9 hS9 (by show 1 + 1 ≤ (2 * (sz - at9) + 20); omega) (by show 11 + 6 ≤ (11 * (2 * (sz - at9) + 20)); omega))
  obtain ⟨w, _⟩ := u27
  obtain ⟨hw28, h32, h33, hO⟩ := hw28
  have h32 : (at9 + 1) + 1 ≤ sz := h32
  have h33 : tkN ((B 7)) sz 67 (nI (at9 + 1)) = 34 := h33
  obtain rfl : v29 = some (.int (nI (at9 + 1))) := hw28
  have hO : OKP G h0 a (upd (upd (upd (upd F 2 (nI sz)) 9 (nI ((at9 + 1) + 1))) 10 (nI dp)) 11 (nI sg)) R Z B J K10 w := hO.to rfl
  refine W.widen (k := 1) (n := 11) (by show 1 + 0 ≤ 1; omega) (by show 11 + 0 ≤ 11; omega) ?_
  refine W.eq (g2 := F0 m 34 ls [.int (nI (at9 + 1))]) rfl ?_
  refine lv_pop hx hb dX8_printStatement_34 rfl ?_
  refine lv_aload_n hx hb dX8_printStatement_35 rfl (lv_at hl 0 rfl) ?_
  refine lv_aload_n hx hb dX8_printStatement_36 rfl (lv_at hl 1 rfl) ?_
  have hO : OKP G h0 a (upd (upd (upd (upd (upd (upd (upd (upd (upd F 2 (nI sz)) 9 (nI at9)) 10 (nI dp)) 11 (nI sg)) 9 (nI ((at9 + 1) + 1))) 2 (nI sz)) 9 (nI ((at9 + 1) + 1))) 10 (nI dp)) 11 (nI sg)) R Z B J K10 w := hO.to rfl
  obtain ⟨_, qr37, hqr38⟩ := hO.2.1 23 _ (sg_23 G h0 a _ _ _ _ _)
  refine pn_V0 (G := G) (As := []) (rest := [.ref q1]) hx hb hml hown hq hE hX pX0_al hP hD hS hA hl.1 (((PE_all l G n).1) h0 a (upd (upd (upd (upd (upd F 2 (nI sz)) 9 (nI at9)) 10 (nI dp)) 11 (nI sg)) 9 (nI ((at9 + 1) + 1))) R Z B J K10 w ((at9 + 1) + 1) sz dp sg 0 (gset g q1 0 0 0) (by omega) (by omega) hdp (by omega) hns21.1 (fun o9 h9 => absurd h9 (by omega)) hO hl0) (gV pw_916 pw_917 pw_918 pw_796 pw_942) hV_X8_expression qr37 5 hqr38 rfl rfl rfl (Nat.le_of_ble_eq_true rfl) dX8_printStatement_37 ⟨(by show 1 + (2 * (sz - ((at9 + 1) + 1)) + 20) ≤ (2 * (sz - at9) + 20); omega), (by show 11 + (11 * (2 * (sz - ((at9 + 1) + 1)) + 20)) ≤ (11 * (2 * (sz - at9) + 20)); omega)⟩ ⟨(by show (40 * n + 40) + 1 ≤ (40 * n + 44); omega), (by show 8 + (3 + 11) + (1300 * n + 1300) ≤ (1300 * n + 1400); omega)⟩ (fun v36 u34 H locs hw35 hP hD hS => ?_) (fun ux ce9 q9 H9 locs9 hux hP9 hD9 hS9 hce hcv hcl => pb_out ux (ThQ.up (Thx.same (Thx.same (Thx.same (Thx.same (Thx.f Thx.rfl (by omega)) rfl) rfl) rfl) rfl) RhX.rfl hux) hnt hlocks hce hcv hcl hP9 hD9 hS9 (by show 1 + (2 * (sz - ((at9 + 1) + 1)) + 20) ≤ (2 * (sz - at9) + 20); omega) (by show 11 + (11 * (2 * (sz - ((at9 + 1) + 1)) + 20)) ≤ (11 * (2 * (sz - at9) + 20)); omega))
  obtain ⟨w, r39, K40, g41, at42, sg43, f44, k45⟩ := u34
  obtain ⟨hw35, h46, h47, h48, h49, h50, h51, hO⟩ := hw35
  have h46 : NwR K10 K40 (gset g q1 0 0 0) g41 r39 0 k45 (5 * (20 - dp) + 6 + (sg43 - sg)) := h46
  have h47 : ((at9 + 1) + 1) ≤ rS k45 ∧ rS k45 + 1 ≤ rE k45 ∧ rE k45 ≤ at42 ∧ 1 ≤ rD k45 ∧ rD k45 ≤ 9 * (20 - dp) + (sg43 - sg) + 1 := h47
  have h48 : ((at9 + 1) + 1) + 1 ≤ at42 ∧ at42 ≤ sz := h48
  have h49 : sg ≤ sg43 ∧ sg43 ≤ 60 := h49
  have h50 : ¬ tkN ((B 7)) sz 67 (nI ((at9 + 1) + 1)) = 37 := h50
  have h51 : NwT ((B 7)) sz ((B 10)) f44 K10 K40 ((at9 + 1) + 1) at42 := h51
  obtain rfl : v36 = some (.ref r39) := hw35
  have hf52 : K40.1 q1 = 1 := (((h46).2.1.1 q1 (by rw [hf13]; decide)).1).trans hf13
  have hf53 : K40.2.1 0 q1 = 33 := (((h46).2.1.1 q1 (by rw [hf13]; decide)).2.1 0).trans hf14
  have hf54 : K40.2.1 2 q1 = (nI at9) := (((h46).2.1.1 q1 (by rw [hf13]; decide)).2.1 2).trans hf15
  have hf55 : K40.2.2.1 0 q1 = none := (((h46).2.1.1 q1 (by rw [hf13]; decide)).2.2.1 0).trans hf16
  have hf56 : K40.2.2.1 1 q1 = none := (((h46).2.1.1 q1 (by rw [hf13]; decide)).2.2.1 1).trans hf17
  have hf57 : K40.2.2.1 2 q1 = none := (((h46).2.1.1 q1 (by rw [hf13]; decide)).2.2.1 2).trans hf18
  have hf58 : K40.2.2.1 3 q1 = none := (((h46).2.1.1 q1 (by rw [hf13]; decide)).2.2.1 3).trans hf19
  have hf59 : K40.2.2.1 4 q1 = none := (((h46).2.1.1 q1 (by rw [hf13]; decide)).2.2.1 4).trans hf20
  have hO : OKP G h0 a (upd (upd (upd (upd F 2 (nI sz)) 9 (nI at42)) 10 (nI dp)) 11 (nI sg43)) R Z (updA B 10 f44) J K40 w := hO.to rfl
  refine W.widen (k := (1 + (2 * (at42 - ((at9 + 1) + 1)) - 1))) (n := (11 + (11 * (2 * (at42 - ((at9 + 1) + 1)) - 1)))) (by show 1 + (2 * (at42 - ((at9 + 1) + 1)) - 1) ≤ (1 + (2 * (at42 - ((at9 + 1) + 1)) - 1)); omega) (by show 11 + (11 * (2 * (at42 - ((at9 + 1) + 1)) - 1)) ≤ (11 + (11 * (2 * (at42 - ((at9 + 1) + 1)) - 1))); omega) ?_
  refine W.eq (g2 := F0 m 40 ls [.ref r39, .ref q1]) rfl ?_
  have htk60 : NwT (B 7) sz (B 10) f44 K K40 at9 at42 := (NwT.call htk12 h51 (by omega))
  have hns61 : NwS K K40 g g41 := NwS.call hns21 h46 (fun o9 h9 => absurd h9 (by omega))
  have hrk62 : g41 2 r39 = k45 := h46.2.2.1.2.2.2.2.2.1
  have hf63 : K40.1 r39 = 1 := h46.2.2.1.2.1
  have hg64 : g41 0 q1 = 0 := (h46.2.1.2 q1 (by rw [hf13]; decide) 0).trans hg23
  have hno65 : NoO K40 g41 q1 := NoO.call hno24 h46 hf13 (by omega)
  have hgy66 := h46.2.2.1
  have hgy66a := hgy66.2.2.1
  have hgy66b := hgy66.2.2.2.1
  refine p_put (v := .ref r39) (ty := (.object "JinjaTongue$Node")) (C := RX7) (Tc := TX7) (N := 11) (ci := 13) (K' := (kC K40 0 q1 (some r39))) hx hb hq pin_wsX70 tyX7 tyX7_ok nmX7 hown hE hP hD hS hO (by rw [hf52]; decide) (rep_1 hf52) rfl 6 (by decide) (hq _ pw_938) (fun _ h9 => h9) rfl (by decide +kernel) rfl rfl (Nat.le_of_ble_eq_true rfl) rfl (by rw [rep_1 (show (kC K40 0 q1 (some r39)).1 q1 = 1 from hf52), pc_0] <;> rfl) (fun p9 hp9 => rep_kC hp9) dX8_printStatement_40 (fun H locs w hP hD hS hO => ?_)
  obtain ⟨K67, hK68⟩ : ∃ z : PK, z = (kC K40 0 q1 (some r39)) := ⟨_, rfl⟩
  rw [← hK68] at hO
  have hf69 : K67.1 q1 = 1 := (by rw [hK68]; exact hf52)
  have hf70 : K67.2.1 0 q1 = 33 := (by rw [hK68]; exact hf53)
  have hf71 : K67.2.1 2 q1 = (nI at9) := (by rw [hK68]; exact hf54)
  have hf72 : K67.2.2.1 1 q1 = none := (by rw [hK68]; exact (kC_of (by decide)).trans hf56)
  have hf73 : K67.2.2.1 2 q1 = none := (by rw [hK68]; exact (kC_of (by decide)).trans hf57)
  have hf74 : K67.2.2.1 3 q1 = none := (by rw [hK68]; exact (kC_of (by decide)).trans hf58)
  have hf75 : K67.2.2.1 4 q1 = none := (by rw [hK68]; exact (kC_of (by decide)).trans hf59)
  have hf76 : K67.1 r39 = 1 := (by rw [hK68]; exact hf63)
  have hf77 : K67.2.2.1 0 q1 = some r39 := by rw [hK68]; exact kC_eq
  have htk78 : NwT (B 7) sz (B 10) f44 K K67 at9 at42 := by rw [hK68]; exact NwT.put htk60
  have hns79 : NwS K K67 g g41 := by rw [hK68]; exact NwS.put hns61 hq22 hg64
  have hno80 : NoO K67 g41 q1 := by rw [hK68]; exact hno65
  refine lv_aload_n hx hb dX8_printStatement_43 rfl (lv_at hl 1 rfl) ?_
  refine lv_bipush (v := 35) hx hb dX8_printStatement_44 (by decide) ?_
  have hO : OKW G h0 a (upd (upd (upd (upd (upd (upd (upd (upd F 2 (nI sz)) 9 (nI at9)) 10 (nI dp)) 11 (nI sg)) 9 (nI at42)) 11 (nI sg43)) 2 (nI sz)) 9 (nI at42)) R Z (updA B 10 f44) J K67.1 (fun q99 x99 => x99 = rep G a K67 q99) w := hO.to rfl
  obtain ⟨_, qr84, hqr85⟩ := hO.2.1 23 _ (sg_23 G h0 a _ _ _ _ _)
  refine pn_V0 (G := G) (As := [.int 35]) (rest := []) hx hb hml hown hq hE hX pX0_al hP hD hS hA hl.1 (P_take l G h0 a (upd (upd (upd (upd (upd (upd F 2 (nI sz)) 9 (nI at9)) 10 (nI dp)) 11 (nI sg)) 9 (nI at42)) 11 (nI sg43)) R Z (updA B 10 f44) J K67.1 (fun q99 x99 => x99 = rep G a K67 q99) w 35 at42 sz (by omega) (by omega) (by decide) hO hl0) (gV pw_793 pw_794 pw_795 pw_796 pw_781) hV_X8_take qr84 5 hqr85 rfl rfl rfl (Nat.le_of_ble_eq_true rfl) dX8_printStatement_46 ⟨(by show (1 + (2 * (at42 - ((at9 + 1) + 1)) - 1)) + 1 ≤ (2 * (sz - at9) + 20); omega), (by show (11 + (11 * (2 * (at42 - ((at9 + 1) + 1)) - 1))) + 6 ≤ (11 * (2 * (sz - at9) + 20)); omega)⟩ ⟨(by show 7 + 1 ≤ (40 * n + 44); omega), (by show 8 + (2 + 11) + 122 ≤ (1300 * n + 1400); omega)⟩ (fun v83 u81 H locs hw82 hP hD hS => ?_) (fun ux ce9 q9 H9 locs9 hux hP9 hD9 hS9 hce hcv hcl => pb_out ux (ThQ.up (Thx.same (Thx.same (Thx.b (Thx.f (Thx.f Thx.rfl (by omega)) (by omega)) (by omega) (by decide)) rfl) rfl) RhX.rfl hux) hnt hlocks hce hcv hcl hP9 hD9 hS9 (by show (1 + (2 * (at42 - ((at9 + 1) + 1)) - 1)) + 1 ≤ (2 * (sz - at9) + 20); omega) (by show (11 + (11 * (2 * (at42 - ((at9 + 1) + 1)) - 1))) + 6 ≤ (11 * (2 * (sz - at9) + 20)); omega))
  obtain ⟨w, _⟩ := u81
  obtain ⟨hw82, h86, h87, hO⟩ := hw82
  have h86 : at42 + 1 ≤ sz := h86
  have h87 : tkN ((B 7)) sz 67 (nI at42) = 35 := h87
  obtain rfl : v83 = some (.int (nI at42)) := hw82
  have hO : OKP G h0 a (upd (upd (upd (upd F 2 (nI sz)) 9 (nI (at42 + 1))) 10 (nI dp)) 11 (nI sg43)) R Z (updA B 10 f44) J K67 w := hO.to rfl
  refine W.widen (k := (1 + (2 * (at42 - ((at9 + 1) + 1)) - 1))) (n := (11 + (11 * (2 * (at42 - ((at9 + 1) + 1)) - 1)))) (by show (1 + (2 * (at42 - ((at9 + 1) + 1)) - 1)) + 0 ≤ (1 + (2 * (at42 - ((at9 + 1) + 1)) - 1)); omega) (by show (11 + (11 * (2 * (at42 - ((at9 + 1) + 1)) - 1))) + 0 ≤ (11 + (11 * (2 * (at42 - ((at9 + 1) + 1)) - 1))); omega) ?_
  refine W.eq (g2 := F0 m 49 ls [.int (nI at42)]) rfl ?_
  refine lv_pop hx hb dX8_printStatement_49 rfl ?_
  refine lv_aload_n hx hb dX8_printStatement_50 rfl (lv_at hl 1 rfl) ?_
  refine lv_bipush (v := 38) hx hb dX8_printStatement_51 (by decide) ?_
  have hO : OKW G h0 a (upd (upd (upd (upd (upd (upd (upd (upd F 2 (nI sz)) 9 (nI at9)) 10 (nI dp)) 11 (nI sg)) 9 (nI (at42 + 1))) 11 (nI sg43)) 2 (nI sz)) 9 (nI (at42 + 1))) R Z (updA B 10 f44) J K67.1 (fun q99 x99 => x99 = rep G a K67 q99) w := hO.to rfl
  obtain ⟨_, qr91, hqr92⟩ := hO.2.1 23 _ (sg_23 G h0 a _ _ _ _ _)
  refine pn_V0 (G := G) (As := [.int 38]) (rest := []) hx hb hml hown hq hE hX pX0_al hP hD hS hA hl.1 (P_take l G h0 a (upd (upd (upd (upd (upd (upd F 2 (nI sz)) 9 (nI at9)) 10 (nI dp)) 11 (nI sg)) 9 (nI (at42 + 1))) 11 (nI sg43)) R Z (updA B 10 f44) J K67.1 (fun q99 x99 => x99 = rep G a K67 q99) w 38 (at42 + 1) sz (by omega) (by omega) (by decide) hO hl0) (gV pw_793 pw_794 pw_795 pw_796 pw_781) hV_X8_take qr91 5 hqr92 rfl rfl rfl (Nat.le_of_ble_eq_true rfl) dX8_printStatement_53 ⟨(by show (1 + (2 * (at42 - ((at9 + 1) + 1)) - 1)) + 1 ≤ (2 * (sz - at9) + 20); omega), (by show (11 + (11 * (2 * (at42 - ((at9 + 1) + 1)) - 1))) + 6 ≤ (11 * (2 * (sz - at9) + 20)); omega)⟩ ⟨(by show 7 + 1 ≤ (40 * n + 44); omega), (by show 8 + (2 + 11) + 122 ≤ (1300 * n + 1400); omega)⟩ (fun v90 u88 H locs hw89 hP hD hS => ?_) (fun ux ce9 q9 H9 locs9 hux hP9 hD9 hS9 hce hcv hcl => pb_out ux (ThQ.up (Thx.same (Thx.same (Thx.b (Thx.f (Thx.f Thx.rfl (by omega)) (by omega)) (by omega) (by decide)) rfl) rfl) RhX.rfl hux) hnt hlocks hce hcv hcl hP9 hD9 hS9 (by show (1 + (2 * (at42 - ((at9 + 1) + 1)) - 1)) + 1 ≤ (2 * (sz - at9) + 20); omega) (by show (11 + (11 * (2 * (at42 - ((at9 + 1) + 1)) - 1))) + 6 ≤ (11 * (2 * (sz - at9) + 20)); omega))
  obtain ⟨w, _⟩ := u88
  obtain ⟨hw89, h93, h94, hO⟩ := hw89
  have h93 : (at42 + 1) + 1 ≤ sz := h93
  have h94 : tkN ((B 7)) sz 67 (nI (at42 + 1)) = 38 := h94
  obtain rfl : v90 = some (.int (nI (at42 + 1))) := hw89
  have hO : OKP G h0 a (upd (upd (upd (upd F 2 (nI sz)) 9 (nI ((at42 + 1) + 1))) 10 (nI dp)) 11 (nI sg43)) R Z (updA B 10 f44) J K67 w := hO.to rfl
  refine W.widen (k := (1 + (2 * (at42 - ((at9 + 1) + 1)) - 1))) (n := (11 + (11 * (2 * (at42 - ((at9 + 1) + 1)) - 1)))) (by show (1 + (2 * (at42 - ((at9 + 1) + 1)) - 1)) + 0 ≤ (1 + (2 * (at42 - ((at9 + 1) + 1)) - 1)); omega) (by show (11 + (11 * (2 * (at42 - ((at9 + 1) + 1)) - 1))) + 0 ≤ (11 + (11 * (2 * (at42 - ((at9 + 1) + 1)) - 1))); omega) ?_
  refine W.eq (g2 := F0 m 56 ls [.int (nI (at42 + 1))]) rfl ?_
  refine lv_pop hx hb dX8_printStatement_56 rfl ?_
  refine lv_aload_n hx hb dX8_printStatement_57 rfl (lv_at hl 0 rfl) ?_
  refine W_size (fun hz1 hz2 => ?_)
  refine vx_ret ?_
  obtain ⟨k9, k9I, hkS, hkE, hkM, hkN, hkX, hkD⟩ := rk_ex (s := at9) (e := ((at42 + 1) + 1)) (m := at9) (n := at9) (x := at9) (d := (2 * (20 - dp) + 2)) (by omega)
  have hkid : ∀ f9 y9 : Nat, f9 ≤ 3 → K67.2.2.1 f9 q1 = some y9 → K67.1 y9 = 1 ∧ 1 ≤ g41 0 y9 ∧ g41 0 y9 < (173 + 3 * (20 - dp)) := by
    intro f9 y9 hf9 hy9
    rcases (show f9 = 0 ∨ f9 = 1 ∨ f9 = 2 ∨ f9 = 3 by omega) with rfl | rfl | rfl | rfl
    · rw [hf77] at hy9; cases hy9; exact ⟨hf76, (by omega), by omega⟩
    · rw [hf72] at hy9; cases hy9
    · rw [hf73] at hy9; cases hy9
    · rw [hf74] at hy9; cases hy9
  have hkc95 : ∀ f9 y9 : Nat, f9 ≤ 3 → K67.2.2.1 f9 q1 = some y9 → Kch (K67.2.1 0 q1) f9 (K67.2.1 0 y9) k9 (g41 2 y9) := by
    intro f9 y9 hf9 hy9
    rcases (show f9 = 0 ∨ f9 = 1 ∨ f9 = 2 ∨ f9 = 3 by omega) with rfl | rfl | rfl | rfl
    · rw [hf77] at hy9; cases hy9; rw [hrk62]; rw [hf70] <;> exact ⟨(fun z => absurd z (by decide)), (fun z => absurd z (by decide)), (fun z => absurd z (by decide)), (fun z => absurd z (by decide)), (fun z => absurd z (by decide)), (fun z => absurd z (by decide)), (fun z => absurd z (by decide)), (fun z => absurd z (by decide)), (fun z => absurd z (by decide)), (fun z => absurd z (by decide)), (fun _ _ => (by omega)), (fun z => absurd z (by decide)), (fun z => absurd z (by decide)), (fun z => absurd z (by decide)), (fun z => absurd z (by decide)), (fun z => absurd z (by decide)), (fun z => absurd z (by decide)), (fun z => absurd z (by decide)), (fun z => absurd z (by decide)), (fun z => absurd z (by decide)), (fun z => absurd z (by decide)), (fun z => absurd z (by decide)), (fun z => absurd z (by decide)), (fun z => absurd z (by decide))⟩
    · rw [hf72] at hy9; cases hy9
    · rw [hf73] at hy9; cases hy9
    · rw [hf74] at hy9; cases hy9
  have hdn := NwS.done1I (q := q1) (L := (173 + 3 * (20 - dp))) (O := O) (k := k9) hns79 hq22 hf69 hg64 (by omega) ⟨k9I, (by rw [hf70] <;> exact ⟨(fun z => absurd z (by decide)), (fun z => absurd z (by decide)), (fun z => absurd z (by decide))⟩)⟩ (by rw [hf70]; exact ⟨(fun _ => (by show ¬ K67.2.2.1 0 q1 = none; rw [hf77]; intro z; cases z)), (fun z => absurd z (by decide)), (fun z => absurd z (by decide)), (fun z => absurd z (by decide)), (fun z => absurd z (by decide))⟩) (fun f9 z => by rw [hf70] at z; rcases z with ⟨z, _⟩ | ⟨z | z | z, _⟩ <;> exact absurd z (by decide)) hkid hf75 hno80 hkc95 how
  have hz96 : NwR K K67 g (gset g41 q1 (173 + 3 * (20 - dp)) O k9) q1 O k9 ((173 + 3 * (20 - dp))) := hdn
  have hz97 : rS k9 = at9 ∧ rE k9 ≤ ((at42 + 1) + 1) ∧ rS k9 ≤ rE k9 ∧ rD k9 ≤ 2 * (20 - dp) + 2 := (by omega)
  have hz98 : at9 + 5 ≤ ((at42 + 1) + 1) ∧ ((at42 + 1) + 1) ≤ sz := (by omega)
  have hz99 : sg ≤ sg43 ∧ sg43 ≤ 60 := (by omega)
  have hz100 : ¬ K67.2.1 0 q1 = 22 := (by rw [hf70]; decide)
  have hz101 : NwT (B 7) sz (B 10) f44 K K67 at9 ((at42 + 1) + 1) := (NwT.le htk78 (by omega))
  have hO : OKP G h0 a (upd (upd (upd (upd F 2 (nI sz)) 9 (nI ((at42 + 1) + 1))) 10 (nI dp)) 11 (nI sg43)) R Z (updA B 10 f44) J K67 w := hO.to rfl
  refine W.widen (k := (2 * (sz - at9) + 20)) (n := (11 * (2 * (sz - at9) + 20))) (by omega) (by omega) ?_
  have hzz1 : H.size ≤ s.heap.size + ((2 * (((at42 + 1) + 1) - at9) - 5)) := (by have z : (1 + (2 * (at42 - ((at9 + 1) + 1)) - 1)) ≤ (2 * (((at42 + 1) + 1) - at9) - 5) := (by omega); omega)
  have hzz2 : hSl H ≤ hSl s.heap + ((11 * (2 * (((at42 + 1) + 1) - at9) - 5))) := (by have z : (11 + (11 * (2 * (at42 - ((at9 + 1) + 1)) - 1))) ≤ (11 * (2 * (((at42 + 1) + 1) - at9) - 5)) := (by omega); omega)
  exact W.aret (v := .ref q1) hx hb hr (Or.inl ⟨_, rfl⟩) (Or.inr ⟨_, rfl⟩) (fun t99 ht99 hW99 => ⟨⟨_, (w, (q1, K67, (gset g41 q1 (173 + 3 * (20 - dp)) O k9), ((at42 + 1) + 1), sg43, f44, k9)), rfl, ⟨rfl, hz96, hz97, hz98, hz99, hz100, hz101, hO⟩, by rw [ht99]; exact hP, hD, by rw [ht99]; exact hzz1, by rw [ht99]; exact hzz2⟩, hS.F ht99⟩) hS.2.2 dX8_printStatement_58
theorem dX8_simple_0 : decode cX8_simple 0 = .ok (.aload_n 0, 1) := by decide +kernel
theorem dX8_simple_1 : decode cX8_simple 1 = .ok (.getfield 17, 3) := by decide +kernel
theorem dX8_simple_4 : decode cX8_simple 4 = .ok (.istore_n 2, 1) := by decide +kernel
theorem dX8_simple_5 : decode cX8_simple 5 = .ok (.aload_n 0, 1) := by decide +kernel
theorem dX8_simple_6 : decode cX8_simple 6 = .ok (.invokevirtual 221, 3) := by decide +kernel
theorem dX8_simple_9 : decode cX8_simple 9 = .ok (.astore_n 3, 1) := by decide +kernel
theorem dX8_simple_10 : decode cX8_simple 10 = .ok (.iload_n 1, 1) := by decide +kernel
theorem dX8_simple_11 : decode cX8_simple 11 = .ok (.ifCond .eq 32, 3) := by decide +kernel
theorem dX8_simple_43 : decode cX8_simple 43 = .ok (.aload_n 3, 1) := by decide +kernel
theorem dX8_simple_44 : decode cX8_simple 44 = .ok (.invokevirtual 227, 3) := by decide +kernel
theorem dX8_simple_47 : decode cX8_simple 47 = .ok (.ifCond .ne 7, 3) := by decide +kernel
theorem dX8_simple_54 : decode cX8_simple 54 = .ok (.new 143, 3) := by decide +kernel
theorem dX8_simple_57 : decode cX8_simple 57 = .ok (.dup, 1) := by decide +kernel
theorem dX8_simple_58 : decode cX8_simple 58 = .ok (.bipush 23, 2) := by decide +kernel
theorem dX8_simple_60 : decode cX8_simple 60 = .ok (.aload_n 0, 1) := by decide +kernel
theorem dX8_simple_61 : decode cX8_simple 61 = .ok (.bipush 43, 2) := by decide +kernel
theorem dX8_simple_63 : decode cX8_simple 63 = .ok (.invokevirtual 53, 3) := by decide +kernel
theorem dX8_simple_66 : decode cX8_simple 66 = .ok (.iload_n 2, 1) := by decide +kernel
theorem dX8_simple_67 : decode cX8_simple 67 = .ok (.invokespecial 145, 3) := by decide +kernel
theorem dX8_simple_70 : decode cX8_simple 70 = .ok (.astore 4, 2) := by decide +kernel
theorem dX8_simple_72 : decode cX8_simple 72 = .ok (.aload 4, 2) := by decide +kernel
theorem dX8_simple_74 : decode cX8_simple 74 = .ok (.aload_n 3, 1) := by decide +kernel
theorem dX8_simple_75 : decode cX8_simple 75 = .ok (.putfield 165, 3) := by decide +kernel
theorem dX8_simple_78 : decode cX8_simple 78 = .ok (.aload 4, 2) := by decide +kernel
theorem dX8_simple_80 : decode cX8_simple 80 = .ok (.aload_n 0, 1) := by decide +kernel
theorem dX8_simple_81 : decode cX8_simple 81 = .ok (.invokevirtual 196, 3) := by decide +kernel
theorem dX8_simple_84 : decode cX8_simple 84 = .ok (.putfield 230, 3) := by decide +kernel
theorem dX8_simple_87 : decode cX8_simple 87 = .ok (.aload 4, 2) := by decide +kernel
theorem dX8_simple_89 : decode cX8_simple 89 = .ok (.areturn, 1) := by decide +kernel
theorem dX8_simple_50 : decode cX8_simple 50 = .ok (.aload_n 0, 1) := by decide +kernel
theorem dX8_simple_51 : decode cX8_simple 51 = .ok (.invokevirtual 67, 3) := by decide +kernel
theorem dX8_simple_14 : decode cX8_simple 14 = .ok (.aload_n 3, 1) := by decide +kernel
theorem dX8_simple_15 : decode cX8_simple 15 = .ok (.invokevirtual 224, 3) := by decide +kernel
theorem dX8_simple_18 : decode cX8_simple 18 = .ok (.ifCond .eq 25, 3) := by decide +kernel
theorem dX8_simple_21 : decode cX8_simple 21 = .ok (.new 143, 3) := by decide +kernel
theorem dX8_simple_24 : decode cX8_simple 24 = .ok (.dup, 1) := by decide +kernel
theorem dX8_simple_25 : decode cX8_simple 25 = .ok (.bipush 24, 2) := by decide +kernel
theorem dX8_simple_27 : decode cX8_simple 27 = .ok (.iload_n 2, 1) := by decide +kernel
theorem dX8_simple_28 : decode cX8_simple 28 = .ok (.iload_n 2, 1) := by decide +kernel
theorem dX8_simple_29 : decode cX8_simple 29 = .ok (.invokespecial 145, 3) := by decide +kernel
theorem dX8_simple_32 : decode cX8_simple 32 = .ok (.astore 4, 2) := by decide +kernel
theorem dX8_simple_34 : decode cX8_simple 34 = .ok (.aload 4, 2) := by decide +kernel
theorem dX8_simple_36 : decode cX8_simple 36 = .ok (.aload_n 3, 1) := by decide +kernel
theorem dX8_simple_37 : decode cX8_simple 37 = .ok (.putfield 165, 3) := by decide +kernel
theorem dX8_simple_40 : decode cX8_simple 40 = .ok (.aload 4, 2) := by decide +kernel
theorem dX8_simple_42 : decode cX8_simple 42 = .ok (.areturn, 1) := by decide +kernel
theorem hV_X7_isPlace : yX7_isPlace.cls = RX7 ∧ yX7_isPlace.cls ≠ "java/lang/invoke/MethodHandle" ∧ yX7_isPlace.cls ≠ "java/lang/invoke/VarHandle" ∧ (parseMethodDescriptor yX7_isPlace.desc).map (fun d => d.parameters.length) = some 0 := by decide +kernel
theorem hV_X7_isCall : yX7_isCall.cls = RX7 ∧ yX7_isCall.cls ≠ "java/lang/invoke/MethodHandle" ∧ yX7_isCall.cls ≠ "java/lang/invoke/VarHandle" ∧ (parseMethodDescriptor yX7_isCall.desc).map (fun d => d.parameters.length) = some 0 := by decide +kernel
set_option maxHeartbeats 20000000 in
set_option maxRecDepth 100000 in
theorem P_simple (l : Launch) (G : pT) (h0 : Nat) (a : Nat → Nat) (F : Nat → Int32) (R : Nat → Value) (Z : Int64) (B : Nat → Nat → Int32) (J : Nat → Nat → Int64) (K : PK) (w : va_W) (x : Nat) (n : Nat) (at9 : Nat) (sz : Nat) (dp : Nat) (sg : Nat) (O : Nat) (g : Nat → Nat → Nat) (hsz : sz ≤ 5000) (hat : at9 ≤ sz) (hdp : dp + n = 20) (hsg : sg ≤ 60) (hwn : WN K g) (how : ∀ o : Nat, O = o + 1 → K.1 o = 1 ∧ g 0 o = 0 ∧ ¬ K.2.1 0 o = 32) (hx1x : x ≤ 1) (hO : OKP G h0 a (upd (upd (upd (upd F 2 (nI sz)) 9 (nI at9)) 10 (nI dp)) 11 (nI sg)) R Z B J K w) (hl0 : l.stackTraces = false) : PBn l G pX0 yX8_simple cX8_simple 5 (some (.object "JinjaTongue$Node")) ({ frames := (40 * n + 44), cells := (2 * (sz - at9) + 20), slots := (11 * (2 * (sz - at9) + 20)), locals := (1300 * n + 1400) }) [.ref (a 3), .int (nI x)] w (fun (v : Option Value) (u : va_W × (Nat × PK × (Nat → Nat → Nat) × Nat × Nat × (Nat → Int32) × Nat)) => v = some (.ref u.2.1) ∧ (NwR K u.2.2.1 g u.2.2.2.1 u.2.1 O u.2.2.2.2.2.2.2 (168)) ∧ (rS u.2.2.2.2.2.2.2 = at9 ∧ rE u.2.2.2.2.2.2.2 ≤ u.2.2.2.2.1 ∧ rS u.2.2.2.2.2.2.2 ≤ rE u.2.2.2.2.2.2.2 ∧ rD u.2.2.2.2.2.2.2 ≤ 2 * (20 - dp) + 2) ∧ (at9 + 1 ≤ u.2.2.2.2.1 ∧ u.2.2.2.2.1 ≤ sz) ∧ (sg ≤ u.2.2.2.2.2.1 ∧ u.2.2.2.2.2.1 ≤ 60) ∧ ((u.2.2.1.2.1 0 u.2.1 = 23 ∨ u.2.2.1.2.1 0 u.2.1 = 24) ∧ (x = 0 → u.2.2.1.2.1 0 u.2.1 = 23)) ∧ (NwT (B 7) sz (B 10) u.2.2.2.2.2.2.1 K u.2.2.1 at9 u.2.2.2.2.1) ∧ (OKP G h0 a (upd (upd (upd (upd F 2 (nI sz)) 9 (nI u.2.2.2.2.1)) 10 (nI dp)) 11 (nI u.2.2.2.2.2.1)) R Z (updA B 10 u.2.2.2.2.2.2.1) J u.2.2.1 u.1)) (fun u => u.1) (fun (u : va_W × (Nat × PK × (Nat → Nat → Nat) × Nat × Nat × (Nat → Int32) × Nat)) => (2 * (u.2.2.2.2.1 - at9) - 0)) (fun (u : va_W × (Nat × PK × (Nat → Nat → Nat) × Nat × Nat × (Nat → Int32) × Nat)) => (11 * (2 * (u.2.2.2.2.1 - at9) - 0))) (fun (u : va_W × (Nat → Int32) × (Nat → Value) × (Nat → Nat → Int32)) => ThQ G h0 a (upd (upd (upd (upd F 2 (nI sz)) 9 (nI at9)) 10 (nI dp)) 11 (nI sg)) R Z B J u) (fun u => u.1) := by
  intro sz
  refine vx_ofW (cc := cX8_simple) (maxL := 5) (ret := (some (.object "JinjaTongue$Node"))) (by decide) rfl ?_
  intro p e s m args below meth c s₁ B9 hml hnt hv
  obtain ⟨rfl, hsz, hP, hD0, hE, hX⟩ := hv
  have hx := B9.exec
  have hb := B9.bytes
  have hr := B9.returns
  have hts := atoms_spec (ws := Cond.code yX8_simple cX8_simple 5 (some (.object "JinjaTongue$Node")) :: pw) B9.pre
  have hq : ∀ w ∈ pw, w.before _ s = true := fun w h => hts w (List.mem_cons_of_mem _ h)
  have hown : s.vm.findClass RX8 = some m.cls := findClass_of_methodNamed B9.named
  have hlocks := B9.notSynchronized
  subst hsz
  have hD := hD0.self (sz := s.heap.size)
  have hA : ∀ q : Nat, s.heap.size ≤ q → va_A w s.heap.size q := fun q h => Or.inr h
  generalize va_A w s.heap.size = A at hD hE hA ⊢
  have hS : va_S A s.heap s.heap [] := va_S.rf
  have hl := lv_entry ([.ref (a 3), .int (nI x)]) (n := 5) (Nat.le_of_ble_eq_true rfl)
  rw [lg_entry_eq]
  generalize (lg_sl ([.ref (a 3), .int (nI x)]) ++ List.replicate (5 - (lg_sl ([.ref (a 3), .int (nI x)])).length) Slot.unset).toArray = ls at hl ⊢
  have hl : lv_has ls 5 [(0, .ref (a 3)), (1, .int (nI x))] := hl
  have htk0 : NwT (B 7) sz (B 10) (B 10) K K at9 at9 := NwT.nil
  have hns0 : NwS K K g g := NwS.nil hwn
  refine lv_aload_n hx hb dX8_simple_0 rfl (lv_at hl 0 rfl) ?_
  refine c_get (v := .int (nI at9)) (C := RX8) (Tc := TX8) (N := 5) (ci := 5) hx hb hq pin_wsX80 hown hE hP hO 23 (sg_23 G h0 a _ _ _ _ _) rfl 2 (by decide) (hq _ pw_776) (fun _ h9 => h9) rfl dX8_simple_1 ?_
  refine lv_istore_n (lv' := [(2, .int (nI at9)), (0, .ref (a 3)), (1, .int (nI x))]) hx hb dX8_simple_4 rfl hl (by decide) rfl (fun ls hl => ?_)
  refine lv_aload_n hx hb dX8_simple_5 rfl (lv_at hl 1 rfl) ?_
  have hO : OKP G h0 a (upd (upd (upd (upd (upd (upd (upd (upd F 2 (nI sz)) 9 (nI at9)) 10 (nI dp)) 11 (nI sg)) 2 (nI sz)) 9 (nI at9)) 10 (nI dp)) 11 (nI sg)) R Z B J K w := hO.to rfl
  obtain ⟨_, qr4, hqr5⟩ := hO.2.1 23 _ (sg_23 G h0 a _ _ _ _ _)
  refine pn_V0 (G := G) (As := []) (rest := []) hx hb hml hown hq hE hX pX0_al hP hD hS hA hl.1 (P_chain l G h0 a (upd (upd (upd (upd F 2 (nI sz)) 9 (nI at9)) 10 (nI dp)) 11 (nI sg)) R Z B J K w n at9 sz dp sg 0 g (by omega) (by omega) hdp (by omega) hns0.1 (fun o9 h9 => absurd h9 (by omega)) (IhE.all l G n) hO hl0) (gV pw_973 pw_974 pw_975 pw_796 pw_923) hV_X8_chain qr4 5 hqr5 rfl rfl rfl (Nat.le_of_ble_eq_true rfl) dX8_simple_6 ⟨(by show 0 + (2 * (sz - at9) + 19) ≤ (2 * (sz - at9) + 20); omega), (by show 0 + (11 * (2 * (sz - at9) + 19)) ≤ (11 * (2 * (sz - at9) + 20)); omega)⟩ ⟨(by show (40 * n + 20) + 1 ≤ (40 * n + 44); omega), (by show 8 + (3 + 11) + (1300 * n + 520) ≤ (1300 * n + 1400); omega)⟩ (fun v3 u1 H locs hw2 hP hD hS => ?_) (fun ux ce9 q9 H9 locs9 hux hP9 hD9 hS9 hce hcv hcl => pb_out ux (ThQ.up (Thx.same (Thx.same (Thx.same (Thx.same Thx.rfl rfl) rfl) rfl) rfl) RhX.rfl hux) hnt hlocks hce hcv hcl hP9 hD9 hS9 (by show 0 + (2 * (sz - at9) + 19) ≤ (2 * (sz - at9) + 20); omega) (by show 0 + (11 * (2 * (sz - at9) + 19)) ≤ (11 * (2 * (sz - at9) + 20)); omega))
  obtain ⟨w, r6, K7, g8, at10, sg11, f12, k13⟩ := u1
  obtain ⟨hw2, h14, h15, h16, h17, h18, h19, hO⟩ := hw2
  have h14 : NwR K K7 g g8 r6 0 k13 ((5 * (20 - dp) + 3 + (sg11 - sg))) := h14
  have h15 : at9 ≤ rS k13 ∧ rS k13 + 1 ≤ rE k13 ∧ rE k13 ≤ at10 ∧ 1 ≤ rD k13 ∧ rD k13 ≤ 9 * (20 - dp) + (sg11 - sg) + 1 := h15
  have h16 : at9 + 1 ≤ at10 ∧ at10 ≤ sz := h16
  have h17 : sg ≤ sg11 ∧ sg11 ≤ 60 := h17
  have h18 : ¬ tkN ((B 7)) sz 67 (nI at9) = 37 := h18
  have h19 : NwT ((B 7)) sz ((B 10)) f12 K K7 at9 at10 := h19
  obtain rfl : v3 = some (.ref r6) := hw2
  have hO : OKP G h0 a (upd (upd (upd (upd F 2 (nI sz)) 9 (nI at10)) 10 (nI dp)) 11 (nI sg11)) R Z (updA B 10 f12) J K7 w := hO.to rfl
  refine W.widen (k := (2 * (at10 - at9) - 1)) (n := (11 * (2 * (at10 - at9) - 1))) (by show 0 + (2 * (at10 - at9) - 1) ≤ (2 * (at10 - at9) - 1); omega) (by show 0 + (11 * (2 * (at10 - at9) - 1)) ≤ (11 * (2 * (at10 - at9) - 1)); omega) ?_
  refine W.eq (g2 := F0 m 9 ls [.ref r6]) rfl ?_
  have htk20 : NwT (B 7) sz (B 10) f12 K K7 at9 at10 := (NwT.call htk0 h19 (by omega))
  have hns21 : NwS K K7 g g8 := NwS.call hns0 h14 (fun o9 h9 => absurd h9 (by omega))
  have hrk22 : g8 2 r6 = k13 := h14.2.2.1.2.2.2.2.2.1
  have hf23 : K7.1 r6 = 1 := h14.2.2.1.2.1
  have hgy24 := h14.2.2.1
  have hgy24a := hgy24.2.2.1
  have hgy24b := hgy24.2.2.2.1
  obtain ⟨kd9, hkd9⟩ : ∃ z : Int32, K7.2.1 0 r6 = z := ⟨_, rfl⟩
  refine lv_astore_n (lv' := [(3, .ref r6), (2, .int (nI at9)), (0, .ref (a 3)), (1, .int (nI x))]) hx hb dX8_simple_9 rfl hl (by decide) rfl (fun ls hl => ?_)
  refine lv_iload_n hx hb dX8_simple_10 rfl (lv_at hl 3 rfl) ?_
  refine lv_if_eq (tgt := 43) hx hb dX8_simple_11 (by decide) (fun c25 => ?_) (fun c25 => ?_)
  · have n26 : x = 0 := (nI_eq (a := x) (b := 0) (by omega) (by omega)).mp c25
    refine lv_aload_n hx hb dX8_simple_43 rfl (lv_at hl 0 rfl) ?_
    have hO : OKP G h0 a (upd (upd (upd (upd F 2 (nI sz)) 9 (nI at10)) 10 (nI dp)) 11 (nI sg11)) R Z (updA B 10 f12) J K7 w := hO.to rfl
    obtain ⟨qr30, hqr31⟩ := p_recv hO (by rw [hf23]; decide) (rep_1 hf23)
    refine pc_V0 (G := G) (As := []) (rest := []) hx hb hml hown hq hE hX pX0_al hP hD hS hA hl.1 (N_isPlace l G h0 a (upd (upd (upd (upd F 2 (nI sz)) 9 (nI at10)) 10 (nI dp)) 11 (nI sg11)) R Z (updA B 10 f12) J K7 w r6 hf23 hO) (gV pw_991 pw_992 pw_993 pw_872 pw_770) hV_X7_isPlace qr30 13 hqr31 rfl rfl rfl (Nat.le_of_ble_eq_true rfl) dX8_simple_44 ⟨(by show (2 * (at10 - at9) - 1) + 0 ≤ (2 * (sz - at9) + 20); omega), (by show (11 * (2 * (at10 - at9) - 1)) + 0 ≤ (11 * (2 * (sz - at9) + 20)); omega)⟩ ⟨(by show 2 + 1 ≤ (40 * n + 44); omega), (by show 8 + (1 + 11) + 60 ≤ (1300 * n + 1400); omega)⟩ (fun v29 u27 H locs hw28 hP hD hS => ?_)
    obtain ⟨w, r32⟩ := u27
    obtain ⟨hw28, h33, h34, hO⟩ := hw28
    have h33 : r32 ≤ 1 := h33
    have h34 : If (r32 = 1) (K7.2.1 0 r6 = 5 ∨ K7.2.1 0 r6 = 12 ∨ K7.2.1 0 r6 = 14) := h34
    obtain rfl : v29 = some (.int (nI r32)) := hw28
    have hO : OKP G h0 a (upd (upd (upd (upd F 2 (nI sz)) 9 (nI at10)) 10 (nI dp)) 11 (nI sg11)) R Z (updA B 10 f12) J K7 w := hO.to rfl
    refine W.widen (k := (2 * (at10 - at9) - 1)) (n := (11 * (2 * (at10 - at9) - 1))) (by show (2 * (at10 - at9) - 1) + 0 ≤ (2 * (at10 - at9) - 1); omega) (by show (11 * (2 * (at10 - at9) - 1)) + 0 ≤ (11 * (2 * (at10 - at9) - 1)); omega) ?_
    refine W.eq (g2 := F0 m 47 ls [.int (nI r32)]) rfl ?_
    have hpl0 := h34
    rw [hkd9] at hpl0
    refine lv_if_ne (tgt := 54) hx hb dX8_simple_47 (by decide) (fun c35 => ?_) (fun c35 => ?_)
    · have n36 : ¬ (r32 = 0) := fun h9 => c35 ((nI_eq (a := r32) (b := 0) (by omega) (by omega)).mpr h9)
      refine p_new (s9 := 1) (C := RX7) (T := TX7) (N := 11) (ci := 13) (fs := [.int 0, .int 0, .int 0, .int 0, .int 0, .int 0, .null, .null, .null, .null, .null]) hx hb hq pin_wsX70 tyX7 tyX7_ok hown (hq _ pw_870) (hq _ pw_871) (hq _ pw_872) hE hP hD hS hA hO rfl nw_X7 (by decide) (fun q => by rw [rep_1 (show (kN K7 q 1 0).1 q = 1 from if_pos rfl)]; unfold fsNode kN; simp only [if_true]; rfl) (by show (2 * (at10 - at9) - 1) + 1 ≤ (2 * (sz - at9) + 20); omega) (by show (11 * (2 * (at10 - at9) - 1)) + 11 ≤ (11 * (2 * (sz - at9) + 20)); omega) dX8_simple_54 (fun q37 H w hq38 hP hD hS hO => ?_)
      have hf39 : (kN K7 q37 1 0).1 r6 = 1 := (if_neg (fun z => by have z2 := hf23; rw [z, hq38] at z2; exact absurd z2 (by decide))).trans hf23
      have hf40 : (kN K7 q37 1 0).2.1 0 r6 = kd9 := (if_neg (fun z => by have z2 := hf23; rw [z, hq38] at z2; exact absurd z2 (by decide))).trans hkd9
      have hf41 : (kN K7 q37 1 0).1 q37 = 1 := if_pos rfl
      refine W.widen (k := ((2 * (at10 - at9) - 1) + 1)) (n := ((11 * (2 * (at10 - at9) - 1)) + 11)) (by show (2 * (at10 - at9) - 1) + 1 ≤ ((2 * (at10 - at9) - 1) + 1); omega) (by show (11 * (2 * (at10 - at9) - 1)) + 11 ≤ ((11 * (2 * (at10 - at9) - 1)) + 11); omega) ?_
      refine lv_dup hx hb dX8_simple_57 rfl ?_
      refine lv_bipush (v := 23) hx hb dX8_simple_58 (by decide) ?_
      refine lv_aload_n hx hb dX8_simple_60 rfl (lv_at hl 2 rfl) ?_
      refine lv_bipush (v := 43) hx hb dX8_simple_61 (by decide) ?_
      have hO : OKW G h0 a (upd (upd (upd (upd (upd (upd (upd (upd F 2 (nI sz)) 9 (nI at9)) 10 (nI dp)) 11 (nI sg)) 9 (nI at10)) 11 (nI sg11)) 2 (nI sz)) 9 (nI at10)) R Z (updA B 10 f12) J ((kN K7 q37 1 0).1) (fun q99 x99 => x99 = rep G a (kN K7 q37 1 0) q99) w := hO.to rfl
      obtain ⟨_, qr45, hqr46⟩ := hO.2.1 23 _ (sg_23 G h0 a _ _ _ _ _)
      refine pn_V0 (G := G) (As := [.int 43]) (rest := [.int 23, .ref q37, .ref q37]) hx hb hml hown hq hE hX pX0_al hP hD hS hA hl.1 (P_take l G h0 a (upd (upd (upd (upd (upd (upd F 2 (nI sz)) 9 (nI at9)) 10 (nI dp)) 11 (nI sg)) 9 (nI at10)) 11 (nI sg11)) R Z (updA B 10 f12) J ((kN K7 q37 1 0).1) (fun q99 x99 => x99 = rep G a (kN K7 q37 1 0) q99) w 43 at10 sz (by omega) (by omega) (by decide) hO hl0) (gV pw_793 pw_794 pw_795 pw_796 pw_781) hV_X8_take qr45 5 hqr46 rfl rfl rfl (Nat.le_of_ble_eq_true rfl) dX8_simple_63 ⟨(by show ((2 * (at10 - at9) - 1) + 1) + 1 ≤ (2 * (sz - at9) + 20); omega), (by show ((11 * (2 * (at10 - at9) - 1)) + 11) + 6 ≤ (11 * (2 * (sz - at9) + 20)); omega)⟩ ⟨(by show 7 + 1 ≤ (40 * n + 44); omega), (by show 8 + (2 + 11) + 122 ≤ (1300 * n + 1400); omega)⟩ (fun v44 u42 H locs hw43 hP hD hS => ?_) (fun ux ce9 q9 H9 locs9 hux hP9 hD9 hS9 hce hcv hcl => pb_out ux (ThQ.up (Thx.same (Thx.same (Thx.b (Thx.f (Thx.f Thx.rfl (by omega)) (by omega)) (by omega) (by decide)) rfl) rfl) RhX.rfl hux) hnt hlocks hce hcv hcl hP9 hD9 hS9 (by show ((2 * (at10 - at9) - 1) + 1) + 1 ≤ (2 * (sz - at9) + 20); omega) (by show ((11 * (2 * (at10 - at9) - 1)) + 11) + 6 ≤ (11 * (2 * (sz - at9) + 20)); omega))
      obtain ⟨w, _⟩ := u42
      obtain ⟨hw43, h47, h48, hO⟩ := hw43
      have h47 : at10 + 1 ≤ sz := h47
      have h48 : tkN ((B 7)) sz 67 (nI at10) = 43 := h48
      obtain rfl : v44 = some (.int (nI at10)) := hw43
      have hO : OKP G h0 a (upd (upd (upd (upd F 2 (nI sz)) 9 (nI (at10 + 1))) 10 (nI dp)) 11 (nI sg11)) R Z (updA B 10 f12) J (kN K7 q37 1 0) w := hO.to rfl
      refine W.widen (k := ((2 * (at10 - at9) - 1) + 1)) (n := ((11 * (2 * (at10 - at9) - 1)) + 11)) (by show ((2 * (at10 - at9) - 1) + 1) + 0 ≤ ((2 * (at10 - at9) - 1) + 1); omega) (by show ((11 * (2 * (at10 - at9) - 1)) + 11) + 0 ≤ ((11 * (2 * (at10 - at9) - 1)) + 11); omega) ?_
      refine W.eq (g2 := F0 m 66 ls [.int (nI at10), .int 23, .ref q37, .ref q37]) rfl ?_
      refine lv_iload_n hx hb dX8_simple_66 rfl (lv_at hl 1 rfl) ?_
      have hO : OKP G h0 a (upd (upd (upd (upd F 2 (nI sz)) 9 (nI (at10 + 1))) 10 (nI dp)) 11 (nI sg11)) R Z (updA B 10 f12) J (kN K7 q37 1 0) w := hO.to rfl
      obtain ⟨qr52, hqr53⟩ := p_recv hO (by rw [hf41]; decide) (rep_1 hf41)
      refine pc_I0 (G := G) (As := [.int 23, .int (nI at10), .int (nI at9)]) (rest := [.ref q37]) hx hb hml hown hq hE hX pX0_al hP hD hS hA hl.1 (N_init l G h0 a (upd (upd (upd (upd F 2 (nI sz)) 9 (nI (at10 + 1))) 10 (nI dp)) 11 (nI sg11)) R Z (updA B 10 f12) J (kN K7 q37 1 0) w q37 23 (nI at10) (nI at9) (by omega) hO) pw_874 pw_875 pw_872 pw_765 rfl hS_X7_init rfl (Nat.le_of_ble_eq_true rfl) dX8_simple_67 ⟨(by show ((2 * (at10 - at9) - 1) + 1) + 0 ≤ (2 * (sz - at9) + 20); omega), (by show ((11 * (2 * (at10 - at9) - 1)) + 11) + 0 ≤ (11 * (2 * (sz - at9) + 20)); omega)⟩ ⟨(by show 2 + 1 ≤ (40 * n + 44); omega), (by show 8 + (4 + 11) + 60 ≤ (1300 * n + 1400); omega)⟩ (fun v51 u49 H locs hw50 hP hD hS => ?_)
      obtain ⟨w, _⟩ := u49
      obtain ⟨hw50, hO⟩ := hw50
      obtain rfl : v51 = none := hw50
      have hf54 : (kI (kI (kI (kN K7 q37 1 0) 0 q37 23) 1 q37 (nI at10)) 2 q37 (nI at9)).1 r6 = 1 := hf39
      have hf55 : (kI (kI (kI (kN K7 q37 1 0) 0 q37 23) 1 q37 (nI at10)) 2 q37 (nI at9)).1 q37 = 1 := hf41
      have hO : OKP G h0 a (upd (upd (upd (upd F 2 (nI sz)) 9 (nI (at10 + 1))) 10 (nI dp)) 11 (nI sg11)) R Z (updA B 10 f12) J (kI (kI (kI (kN K7 q37 1 0) 0 q37 23) 1 q37 (nI at10)) 2 q37 (nI at9)) w := hO.to rfl
      refine W.widen (k := ((2 * (at10 - at9) - 1) + 1)) (n := ((11 * (2 * (at10 - at9) - 1)) + 11)) (by show ((2 * (at10 - at9) - 1) + 1) + 0 ≤ ((2 * (at10 - at9) - 1) + 1); omega) (by show ((11 * (2 * (at10 - at9) - 1)) + 11) + 0 ≤ ((11 * (2 * (at10 - at9) - 1)) + 11); omega) ?_
      refine W.eq (g2 := F0 m 70 ls [.ref q37]) rfl ?_
      change OKP G h0 a (upd (upd (upd (upd F 2 (nI sz)) 9 (nI (at10 + 1))) 10 (nI dp)) 11 (nI sg11)) R Z (updA B 10 f12) J (mkN K7 q37 23 (nI at10) (nI at9)) w at hO
      obtain ⟨K56, hK57⟩ : ∃ z : PK, z = (mkN K7 q37 23 (nI at10) (nI at9)) := ⟨_, rfl⟩
      rw [← hK57] at hO
      have htk58 : NwT (B 7) sz (B 10) f12 K K56 at9 (at10 + 1) := by rw [hK57]; exact NwT.new (NwT.le htk20 (show _ ≤ (at10 + 1) by omega)) hq38 (TkP.no (by decide))
      have hf59 : K56.1 q37 = 1 := by rw [hK57]; exact mkN_T
      have hf60 : K56.2.1 0 q37 = 23 := by rw [hK57]; exact mkN_0
      have hf61 : K56.2.1 2 q37 = (nI at9) := by rw [hK57]; exact mkN_2
      have hf62 : K56.2.2.1 0 q37 = none := by rw [hK57]; exact mkN_C
      have hf63 : K56.2.2.1 1 q37 = none := by rw [hK57]; exact mkN_C
      have hf64 : K56.2.2.1 2 q37 = none := by rw [hK57]; exact mkN_C
      have hf65 : K56.2.2.1 3 q37 = none := by rw [hK57]; exact mkN_C
      have hf66 : K56.2.2.1 4 q37 = none := by rw [hK57]; exact mkN_C
      have hf67 : K56.1 r6 = 1 := by rw [hK57]; exact ((mkN_ext hq38 r6 (by rw [hf23]; decide)).1).trans hf23
      have hf68 : K56.2.1 0 r6 = kd9 := by rw [hK57]; exact ((mkN_ext hq38 r6 (by rw [hf23]; decide)).2.1 0).trans hkd9
      have hns69 : NwS K K56 g (gset g8 q37 0 0 0) := by rw [hK57]; exact NwS.node hns21 hq38
      have hq70 : K.1 q37 = 0 := old_T hns21.2.1 hq38
      have hg71 : (gset g8 q37 0 0 0) 0 q37 = 0 := gset_0
      have hno72 : NoO K56 (gset g8 q37 0 0 0) q37 := by rw [hK57]; exact NoO.new hns21.1 hq38
      have hxq73 : ¬ r6 = q37 := fun z => by have z2 := hf23; rw [z, hq38] at z2; exact absurd z2 (by decide)
      have hrk74 : (gset g8 q37 0 0 0) 2 r6 = k13 := (gset_ne hxq73).trans hrk22
      have hxq75 : ¬ r6 = q37 := fun z => by have z2 := hf23; rw [z, hq38] at z2; exact absurd z2 (by decide)
      have hgz76 : (gset g8 q37 0 0 0) 0 r6 = g8 0 r6 := gset_ne hxq75
      refine lv_astore (lv' := [(4, .ref q37), (3, .ref r6), (2, .int (nI at9)), (0, .ref (a 3)), (1, .int (nI x))]) hx hb dX8_simple_70 hl (by decide) rfl (fun ls hl => ?_)
      refine lv_aload hx hb dX8_simple_72 (lv_at hl 0 rfl) ?_
      refine lv_aload_n hx hb dX8_simple_74 rfl (lv_at hl 1 rfl) ?_
      refine p_put (v := .ref r6) (ty := (.object "JinjaTongue$Node")) (C := RX7) (Tc := TX7) (N := 11) (ci := 13) (K' := (kC K56 0 q37 (some r6))) hx hb hq pin_wsX70 tyX7 tyX7_ok nmX7 hown hE hP hD hS hO (by rw [hf59]; decide) (rep_1 hf59) rfl 6 (by decide) (hq _ pw_938) (fun _ h9 => h9) rfl (by decide +kernel) rfl rfl (Nat.le_of_ble_eq_true rfl) rfl (by rw [rep_1 (show (kC K56 0 q37 (some r6)).1 q37 = 1 from hf59), pc_0] <;> rfl) (fun p9 hp9 => rep_kC hp9) dX8_simple_75 (fun H locs w hP hD hS hO => ?_)
      obtain ⟨K77, hK78⟩ : ∃ z : PK, z = (kC K56 0 q37 (some r6)) := ⟨_, rfl⟩
      rw [← hK78] at hO
      have hf79 : K77.1 q37 = 1 := (by rw [hK78]; exact hf59)
      have hf80 : K77.2.1 0 q37 = 23 := (by rw [hK78]; exact hf60)
      have hf81 : K77.2.1 2 q37 = (nI at9) := (by rw [hK78]; exact hf61)
      have hf82 : K77.2.2.1 1 q37 = none := (by rw [hK78]; exact (kC_of (by decide)).trans hf63)
      have hf83 : K77.2.2.1 2 q37 = none := (by rw [hK78]; exact (kC_of (by decide)).trans hf64)
      have hf84 : K77.2.2.1 3 q37 = none := (by rw [hK78]; exact (kC_of (by decide)).trans hf65)
      have hf85 : K77.2.2.1 4 q37 = none := (by rw [hK78]; exact (kC_of (by decide)).trans hf66)
      have hf86 : K77.1 r6 = 1 := (by rw [hK78]; exact hf67)
      have hf87 : K77.2.1 0 r6 = kd9 := (by rw [hK78]; exact hf68)
      have hf88 : K77.2.2.1 0 q37 = some r6 := by rw [hK78]; exact kC_eq
      have htk89 : NwT (B 7) sz (B 10) f12 K K77 at9 (at10 + 1) := by rw [hK78]; exact NwT.put htk58
      have hns90 : NwS K K77 g (gset g8 q37 0 0 0) := by rw [hK78]; exact NwS.put hns69 hq70 hg71
      have hno91 : NoO K77 (gset g8 q37 0 0 0) q37 := by rw [hK78]; exact hno72
      refine lv_aload hx hb dX8_simple_78 (lv_at hl 0 rfl) ?_
      refine lv_aload_n hx hb dX8_simple_80 rfl (lv_at hl 3 rfl) ?_
      have hO : OKP G h0 a (upd (upd (upd (upd (upd (upd (upd (upd (upd (upd F 2 (nI sz)) 9 (nI at9)) 10 (nI dp)) 11 (nI sg)) 9 (nI (at10 + 1))) 11 (nI sg11)) 2 (nI sz)) 9 (nI (at10 + 1))) 10 (nI dp)) 11 (nI sg11)) R Z (updA B 10 f12) J K77 w := hO.to rfl
      obtain ⟨_, qr95, hqr96⟩ := hO.2.1 23 _ (sg_23 G h0 a _ _ _ _ _)
      refine pn_V0 (G := G) (As := []) (rest := [.ref q37]) hx hb hml hown hq hE hX pX0_al hP hD hS hA hl.1 (((PE_all l G n).1) h0 a (upd (upd (upd (upd (upd (upd F 2 (nI sz)) 9 (nI at9)) 10 (nI dp)) 11 (nI sg)) 9 (nI (at10 + 1))) 11 (nI sg11)) R Z (updA B 10 f12) J K77 w (at10 + 1) sz dp sg11 0 (gset g8 q37 0 0 0) (by omega) (by omega) hdp (by omega) hns90.1 (fun o9 h9 => absurd h9 (by omega)) hO hl0) (gV pw_916 pw_917 pw_918 pw_796 pw_942) hV_X8_expression qr95 5 hqr96 rfl rfl rfl (Nat.le_of_ble_eq_true rfl) dX8_simple_81 ⟨(by show ((2 * (at10 - at9) - 1) + 1) + (2 * (sz - (at10 + 1)) + 20) ≤ (2 * (sz - at9) + 20); omega), (by show ((11 * (2 * (at10 - at9) - 1)) + 11) + (11 * (2 * (sz - (at10 + 1)) + 20)) ≤ (11 * (2 * (sz - at9) + 20)); omega)⟩ ⟨(by show (40 * n + 40) + 1 ≤ (40 * n + 44); omega), (by show 8 + (3 + 11) + (1300 * n + 1300) ≤ (1300 * n + 1400); omega)⟩ (fun v94 u92 H locs hw93 hP hD hS => ?_) (fun ux ce9 q9 H9 locs9 hux hP9 hD9 hS9 hce hcv hcl => pb_out ux (ThQ.up (Thx.same (Thx.same (Thx.same (Thx.same (Thx.b (Thx.f (Thx.f Thx.rfl (by omega)) (by omega)) (by omega) (by decide)) rfl) rfl) rfl) rfl) RhX.rfl hux) hnt hlocks hce hcv hcl hP9 hD9 hS9 (by show ((2 * (at10 - at9) - 1) + 1) + (2 * (sz - (at10 + 1)) + 20) ≤ (2 * (sz - at9) + 20); omega) (by show ((11 * (2 * (at10 - at9) - 1)) + 11) + (11 * (2 * (sz - (at10 + 1)) + 20)) ≤ (11 * (2 * (sz - at9) + 20)); omega))
      obtain ⟨w, r97, K98, g99, at100, sg101, f102, k103⟩ := u92
      obtain ⟨hw93, h104, h105, h106, h107, h108, h109, hO⟩ := hw93
      have h104 : NwR K77 K98 (gset g8 q37 0 0 0) g99 r97 0 k103 (5 * (20 - dp) + 6 + (sg101 - sg11)) := h104
      have h105 : (at10 + 1) ≤ rS k103 ∧ rS k103 + 1 ≤ rE k103 ∧ rE k103 ≤ at100 ∧ 1 ≤ rD k103 ∧ rD k103 ≤ 9 * (20 - dp) + (sg101 - sg11) + 1 := h105
      have h106 : (at10 + 1) + 1 ≤ at100 ∧ at100 ≤ sz := h106
      have h107 : sg11 ≤ sg101 ∧ sg101 ≤ 60 := h107
      have h108 : ¬ tkN ((B 7)) sz 67 (nI (at10 + 1)) = 37 := h108
      have h109 : NwT ((B 7)) sz (f12) f102 K77 K98 (at10 + 1) at100 := h109
      obtain rfl : v94 = some (.ref r97) := hw93
      have hf110 : K98.1 q37 = 1 := (((h104).2.1.1 q37 (by rw [hf79]; decide)).1).trans hf79
      have hf111 : K98.2.1 0 q37 = 23 := (((h104).2.1.1 q37 (by rw [hf79]; decide)).2.1 0).trans hf80
      have hf112 : K98.2.1 2 q37 = (nI at9) := (((h104).2.1.1 q37 (by rw [hf79]; decide)).2.1 2).trans hf81
      have hf113 : K98.2.2.1 1 q37 = none := (((h104).2.1.1 q37 (by rw [hf79]; decide)).2.2.1 1).trans hf82
      have hf114 : K98.2.2.1 2 q37 = none := (((h104).2.1.1 q37 (by rw [hf79]; decide)).2.2.1 2).trans hf83
      have hf115 : K98.2.2.1 3 q37 = none := (((h104).2.1.1 q37 (by rw [hf79]; decide)).2.2.1 3).trans hf84
      have hf116 : K98.2.2.1 4 q37 = none := (((h104).2.1.1 q37 (by rw [hf79]; decide)).2.2.1 4).trans hf85
      have hf117 : K98.1 r6 = 1 := (((h104).2.1.1 r6 (by rw [hf86]; decide)).1).trans hf86
      have hf118 : K98.2.1 0 r6 = kd9 := (((h104).2.1.1 r6 (by rw [hf86]; decide)).2.1 0).trans hf87
      have hf119 : K98.2.2.1 0 q37 = some r6 := (((h104).2.1.1 q37 (by rw [hf79]; decide)).2.2.1 0).trans hf88
      have hO : OKP G h0 a (upd (upd (upd (upd F 2 (nI sz)) 9 (nI at100)) 10 (nI dp)) 11 (nI sg101)) R Z (updA B 10 f102) J K98 w := hO.to rfl
      refine W.widen (k := (((2 * (at10 - at9) - 1) + 1) + (2 * (at100 - (at10 + 1)) - 1))) (n := (((11 * (2 * (at10 - at9) - 1)) + 11) + (11 * (2 * (at100 - (at10 + 1)) - 1)))) (by show ((2 * (at10 - at9) - 1) + 1) + (2 * (at100 - (at10 + 1)) - 1) ≤ (((2 * (at10 - at9) - 1) + 1) + (2 * (at100 - (at10 + 1)) - 1)); omega) (by show ((11 * (2 * (at10 - at9) - 1)) + 11) + (11 * (2 * (at100 - (at10 + 1)) - 1)) ≤ (((11 * (2 * (at10 - at9) - 1)) + 11) + (11 * (2 * (at100 - (at10 + 1)) - 1))); omega) ?_
      refine W.eq (g2 := F0 m 84 ls [.ref r97, .ref q37]) rfl ?_
      have htk120 : NwT (B 7) sz (B 10) f102 K K98 at9 at100 := (NwT.call htk89 h109 (by omega))
      have hns121 : NwS K K98 g g99 := NwS.call hns90 h104 (fun o9 h9 => absurd h9 (by omega))
      have hrk122 : g99 2 r6 = k13 := (h104.2.1.2 r6 (by rw [hf86]; decide) 2).trans hrk74
      have hrk123 : g99 2 r97 = k103 := h104.2.2.1.2.2.2.2.2.1
      have hf124 : K98.1 r97 = 1 := h104.2.2.1.2.1
      have hg125 : g99 0 q37 = 0 := (h104.2.1.2 q37 (by rw [hf79]; decide) 0).trans hg71
      have hno126 : NoO K98 g99 q37 := NoO.call hno91 h104 hf79 (by omega)
      have hgz127 : g99 0 r6 = (gset g8 q37 0 0 0) 0 r6 := h104.2.1.2 r6 (by rw [hf86]; decide) 0
      have hgy128 := h104.2.2.1
      have hgy128a := hgy128.2.2.1
      have hgy128b := hgy128.2.2.2.1
      refine p_put (v := .ref r97) (ty := (.object "JinjaTongue$Node")) (C := RX7) (Tc := TX7) (N := 11) (ci := 13) (K' := (kC K98 1 q37 (some r97))) hx hb hq pin_wsX70 tyX7 tyX7_ok nmX7 hown hE hP hD hS hO (by rw [hf110]; decide) (rep_1 hf110) rfl 7 (by decide) (hq _ pw_910) (fun _ h9 => h9) rfl (by decide +kernel) rfl rfl (Nat.le_of_ble_eq_true rfl) rfl (by rw [rep_1 (show (kC K98 1 q37 (some r97)).1 q37 = 1 from hf110), pc_1] <;> rfl) (fun p9 hp9 => rep_kC hp9) dX8_simple_84 (fun H locs w hP hD hS hO => ?_)
      obtain ⟨K129, hK130⟩ : ∃ z : PK, z = (kC K98 1 q37 (some r97)) := ⟨_, rfl⟩
      rw [← hK130] at hO
      have hf131 : K129.1 q37 = 1 := (by rw [hK130]; exact hf110)
      have hf132 : K129.2.1 0 q37 = 23 := (by rw [hK130]; exact hf111)
      have hf133 : K129.2.1 2 q37 = (nI at9) := (by rw [hK130]; exact hf112)
      have hf134 : K129.2.2.1 2 q37 = none := (by rw [hK130]; exact (kC_of (by decide)).trans hf114)
      have hf135 : K129.2.2.1 3 q37 = none := (by rw [hK130]; exact (kC_of (by decide)).trans hf115)
      have hf136 : K129.2.2.1 4 q37 = none := (by rw [hK130]; exact (kC_of (by decide)).trans hf116)
      have hf137 : K129.1 r6 = 1 := (by rw [hK130]; exact hf117)
      have hf138 : K129.2.1 0 r6 = kd9 := (by rw [hK130]; exact hf118)
      have hf139 : K129.2.2.1 0 q37 = some r6 := (by rw [hK130]; exact (kC_of (by decide)).trans hf119)
      have hf140 : K129.1 r97 = 1 := (by rw [hK130]; exact hf124)
      have hf141 : K129.2.2.1 1 q37 = some r97 := by rw [hK130]; exact kC_eq
      have htk142 : NwT (B 7) sz (B 10) f102 K K129 at9 at100 := by rw [hK130]; exact NwT.put htk120
      have hns143 : NwS K K129 g g99 := by rw [hK130]; exact NwS.put hns121 hq70 hg125
      have hno144 : NoO K129 g99 q37 := by rw [hK130]; exact hno126
      refine lv_aload hx hb dX8_simple_87 (lv_at hl 0 rfl) ?_
      refine W_size (fun hz1 hz2 => ?_)
      refine vx_ret ?_
      have hkd8 := hf138
      have hpl : K129.2.1 0 r6 = 5 ∨ K129.2.1 0 r6 = 12 ∨ K129.2.1 0 r6 = 14 := by rw [hf138]; exact hpl0 (show r32 = 1 by omega)
      obtain ⟨k9, k9I, hkS, hkE, hkM, hkN, hkX, hkD⟩ := rk_ex (s := at9) (e := at100) (m := (rE k13)) (n := (rE k13)) (x := (rE k13)) (d := (2 * (20 - dp) + 2)) (by omega)
      have hkid : ∀ f9 y9 : Nat, f9 ≤ 3 → K129.2.2.1 f9 q37 = some y9 → K129.1 y9 = 1 ∧ 1 ≤ g99 0 y9 ∧ g99 0 y9 < 168 := by
        intro f9 y9 hf9 hy9
        rcases (show f9 = 0 ∨ f9 = 1 ∨ f9 = 2 ∨ f9 = 3 by omega) with rfl | rfl | rfl | rfl
        · rw [hf139] at hy9; cases hy9; exact ⟨hf137, (by omega), by omega⟩
        · rw [hf141] at hy9; cases hy9; exact ⟨hf140, (by omega), by omega⟩
        · rw [hf134] at hy9; cases hy9
        · rw [hf135] at hy9; cases hy9
      have hkc145 : ∀ f9 y9 : Nat, f9 ≤ 3 → K129.2.2.1 f9 q37 = some y9 → Kch (K129.2.1 0 q37) f9 (K129.2.1 0 y9) k9 (g99 2 y9) := by
        intro f9 y9 hf9 hy9
        rcases (show f9 = 0 ∨ f9 = 1 ∨ f9 = 2 ∨ f9 = 3 by omega) with rfl | rfl | rfl | rfl
        · rw [hf139] at hy9; cases hy9; rw [hrk122]; rw [hf132] <;> exact ⟨(fun z => absurd z (by decide)), (fun z => absurd z (by decide)), (fun _ _ => hpl), (fun z => absurd z (by decide)), (fun z => absurd z (by decide)), (fun z => absurd z (by decide)), (fun z => absurd z (by decide)), (fun z => absurd z (by decide)), (fun z => absurd z (by decide)), (fun z => absurd z (by decide)), (fun z => absurd z (by decide)), (fun _ _ => (by omega)), (fun _ z => absurd z (by decide)), (fun z => absurd z (by decide)), (fun z => absurd z (by decide)), (fun z => absurd z (by decide)), (fun z => absurd z (by decide)), (fun z => absurd z (by decide)), (fun z => absurd z (by decide)), (fun z => absurd z (by decide)), (fun z => absurd z (by decide)), (fun z => absurd z (by decide)), (fun z => absurd z (by decide)), (fun z => absurd z (by decide))⟩
        · rw [hf141] at hy9; cases hy9; rw [hrk123]; rw [hf132] <;> exact ⟨(fun z => absurd z (by decide)), (fun z => absurd z (by decide)), (fun _ z => absurd z (by decide)), (fun z => absurd z (by decide)), (fun z => absurd z (by decide)), (fun z => absurd z (by decide)), (fun z => absurd z (by decide)), (fun z => absurd z (by decide)), (fun z => absurd z (by decide)), (fun z => absurd z (by decide)), (fun z => absurd z (by decide)), (fun _ z => absurd z (by decide)), (fun _ _ => (by omega)), (fun z => absurd z (by decide)), (fun z => absurd z (by decide)), (fun z => absurd z (by decide)), (fun z => absurd z (by decide)), (fun z => absurd z (by decide)), (fun z => absurd z (by decide)), (fun z => absurd z (by decide)), (fun z => absurd z (by decide)), (fun z => absurd z (by decide)), (fun z => absurd z (by decide)), (fun z => absurd z (by decide))⟩
        · rw [hf134] at hy9; cases hy9
        · rw [hf135] at hy9; cases hy9
      have hdn := NwS.done1I (q := q37) (L := 168) (O := O) (k := k9) hns143 hq70 hf131 hg125 (by omega) ⟨k9I, (by rw [hf132] <;> exact ⟨(fun z => absurd z (by decide)), (fun z => absurd z (by decide)), (fun z => absurd z (by decide))⟩)⟩ (by rw [hf132]; exact ⟨(fun z => absurd z (by decide)), (fun _ => ⟨(by show ¬ K129.2.2.1 0 q37 = none; rw [hf139]; intro z; cases z), (by show ¬ K129.2.2.1 1 q37 = none; rw [hf141]; intro z; cases z)⟩), (fun z => absurd z (by decide)), (fun z => absurd z (by decide)), (fun z => absurd z (by decide))⟩) (fun f9 z => by rw [hf132] at z; rcases z with ⟨z, _⟩ | ⟨z | z | z, _⟩ <;> exact absurd z (by decide)) hkid hf136 hno144 hkc145 how
      have hz146 : NwR K K129 g (gset g99 q37 168 O k9) q37 O k9 (168) := hdn
      have hz147 : rS k9 = at9 ∧ rE k9 ≤ at100 ∧ rS k9 ≤ rE k9 ∧ rD k9 ≤ 2 * (20 - dp) + 2 := (by omega)
      have hz148 : at9 + 1 ≤ at100 ∧ at100 ≤ sz := (by omega)
      have hz149 : sg ≤ sg101 ∧ sg101 ≤ 60 := (by omega)
      have hz150 : (K129.2.1 0 q37 = 23 ∨ K129.2.1 0 q37 = 24) ∧ (x = 0 → K129.2.1 0 q37 = 23) := ⟨Or.inl hf132, fun _ => hf132⟩
      have hz151 : NwT (B 7) sz (B 10) f102 K K129 at9 at100 := (NwT.le htk142 (by omega))
      have hO : OKP G h0 a (upd (upd (upd (upd F 2 (nI sz)) 9 (nI at100)) 10 (nI dp)) 11 (nI sg101)) R Z (updA B 10 f102) J K129 w := hO.to rfl
      refine W.widen (k := (2 * (sz - at9) + 20)) (n := (11 * (2 * (sz - at9) + 20))) (by omega) (by omega) ?_
      have hzz1 : H.size ≤ s.heap.size + ((2 * (at100 - at9) - 0)) := (by have z : (((2 * (at10 - at9) - 1) + 1) + (2 * (at100 - (at10 + 1)) - 1)) ≤ (2 * (at100 - at9) - 0) := (by omega); omega)
      have hzz2 : hSl H ≤ hSl s.heap + ((11 * (2 * (at100 - at9) - 0))) := (by have z : (((11 * (2 * (at10 - at9) - 1)) + 11) + (11 * (2 * (at100 - (at10 + 1)) - 1))) ≤ (11 * (2 * (at100 - at9) - 0)) := (by omega); omega)
      exact W.aret (v := .ref q37) hx hb hr (Or.inl ⟨_, rfl⟩) (Or.inr ⟨_, rfl⟩) (fun t99 ht99 hW99 => ⟨⟨_, (w, (q37, K129, (gset g99 q37 168 O k9), at100, sg101, f102, k9)), rfl, ⟨rfl, hz146, hz147, hz148, hz149, hz150, hz151, hO⟩, by rw [ht99]; exact hP, hD, by rw [ht99]; exact hzz1, by rw [ht99]; exact hzz2⟩, hS.F ht99⟩) hS.2.2 dX8_simple_89
    · have n152 : r32 = 0 := (nI_eq (a := r32) (b := 0) (by omega) (by omega)).mp c35
      refine lv_aload_n hx hb dX8_simple_50 rfl (lv_at hl 2 rfl) ?_
      have hO : OKW G h0 a (upd (upd (upd (upd (upd (upd (upd (upd F 2 (nI sz)) 9 (nI at9)) 10 (nI dp)) 11 (nI sg)) 9 (nI at10)) 11 (nI sg11)) 2 (nI sz)) 9 (nI at10)) R Z (updA B 10 f12) J K7.1 (fun q99 x99 => x99 = rep G a K7 q99) w := hO.to rfl
      obtain ⟨_, qr156, hqr157⟩ := hO.2.1 23 _ (sg_23 G h0 a _ _ _ _ _)
      refine pn_V0 (G := G) (As := []) (rest := []) hx hb hml hown hq hE hX pX0_al hP hD hS hA hl.1 (P_refuse l G h0 a (upd (upd (upd (upd (upd (upd F 2 (nI sz)) 9 (nI at9)) 10 (nI dp)) 11 (nI sg)) 9 (nI at10)) 11 (nI sg11)) R Z (updA B 10 f12) J K7.1 (fun q99 x99 => x99 = rep G a K7 q99) w at10 sz (by omega) (by omega) hO hl0) (gV pw_806 pw_807 pw_808 pw_796 pw_778) hV_X8_refuse qr156 5 hqr157 rfl rfl rfl (Nat.le_of_ble_eq_true rfl) dX8_simple_51 ⟨(by show (2 * (at10 - at9) - 1) + 1 ≤ (2 * (sz - at9) + 20); omega), (by show (11 * (2 * (at10 - at9) - 1)) + 6 ≤ (11 * (2 * (sz - at9) + 20)); omega)⟩ ⟨(by show 7 + 1 ≤ (40 * n + 44); omega), (by show 8 + (1 + 11) + 122 ≤ (1300 * n + 1400); omega)⟩ (fun v155 u153 H locs hw154 hP hD hS => hw154.elim) (fun ux ce9 q9 H9 locs9 hux hP9 hD9 hS9 hce hcv hcl => pb_out ux (ThQ.up (Thx.same (Thx.same (Thx.b (Thx.f (Thx.f Thx.rfl (by omega)) (by omega)) (by omega) (by decide)) rfl) rfl) RhX.rfl hux) hnt hlocks hce hcv hcl hP9 hD9 hS9 (by show (2 * (at10 - at9) - 1) + 1 ≤ (2 * (sz - at9) + 20); omega) (by show (11 * (2 * (at10 - at9) - 1)) + 6 ≤ (11 * (2 * (sz - at9) + 20)); omega))
  · have n158 : ¬ (x = 0) := fun h9 => c25 ((nI_eq (a := x) (b := 0) (by omega) (by omega)).mpr h9)
    refine lv_aload_n hx hb dX8_simple_14 rfl (lv_at hl 0 rfl) ?_
    have hO : OKP G h0 a (upd (upd (upd (upd F 2 (nI sz)) 9 (nI at10)) 10 (nI dp)) 11 (nI sg11)) R Z (updA B 10 f12) J K7 w := hO.to rfl
    obtain ⟨qr162, hqr163⟩ := p_recv hO (by rw [hf23]; decide) (rep_1 hf23)
    refine pc_V0 (G := G) (As := []) (rest := []) hx hb hml hown hq hE hX pX0_al hP hD hS hA hl.1 (N_isCall l G h0 a (upd (upd (upd (upd F 2 (nI sz)) 9 (nI at10)) 10 (nI dp)) 11 (nI sg11)) R Z (updA B 10 f12) J K7 w r6 hf23 hO) (gV pw_988 pw_989 pw_990 pw_872 pw_771) hV_X7_isCall qr162 13 hqr163 rfl rfl rfl (Nat.le_of_ble_eq_true rfl) dX8_simple_15 ⟨(by show (2 * (at10 - at9) - 1) + 0 ≤ (2 * (sz - at9) + 20); omega), (by show (11 * (2 * (at10 - at9) - 1)) + 0 ≤ (11 * (2 * (sz - at9) + 20)); omega)⟩ ⟨(by show 2 + 1 ≤ (40 * n + 44); omega), (by show 8 + (1 + 11) + 60 ≤ (1300 * n + 1400); omega)⟩ (fun v161 u159 H locs hw160 hP hD hS => ?_)
    obtain ⟨w, r164⟩ := u159
    obtain ⟨hw160, h165, h166, hO⟩ := hw160
    have h165 : r164 ≤ 1 := h165
    have h166 : If (r164 = 1) (K7.2.1 0 r6 = 10 ∨ K7.2.1 0 r6 = 11) := h166
    obtain rfl : v161 = some (.int (nI r164)) := hw160
    have hO : OKP G h0 a (upd (upd (upd (upd F 2 (nI sz)) 9 (nI at10)) 10 (nI dp)) 11 (nI sg11)) R Z (updA B 10 f12) J K7 w := hO.to rfl
    refine W.widen (k := (2 * (at10 - at9) - 1)) (n := (11 * (2 * (at10 - at9) - 1))) (by show (2 * (at10 - at9) - 1) + 0 ≤ (2 * (at10 - at9) - 1); omega) (by show (11 * (2 * (at10 - at9) - 1)) + 0 ≤ (11 * (2 * (at10 - at9) - 1)); omega) ?_
    refine W.eq (g2 := F0 m 18 ls [.int (nI r164)]) rfl ?_
    have hcl0 := h166
    rw [hkd9] at hcl0
    refine lv_if_eq (tgt := 43) hx hb dX8_simple_18 (by decide) (fun c167 => ?_) (fun c167 => ?_)
    · have n168 : r164 = 0 := (nI_eq (a := r164) (b := 0) (by omega) (by omega)).mp c167
      refine lv_aload_n hx hb dX8_simple_43 rfl (lv_at hl 0 rfl) ?_
      have hO : OKP G h0 a (upd (upd (upd (upd F 2 (nI sz)) 9 (nI at10)) 10 (nI dp)) 11 (nI sg11)) R Z (updA B 10 f12) J K7 w := hO.to rfl
      obtain ⟨qr172, hqr173⟩ := p_recv hO (by rw [hf23]; decide) (rep_1 hf23)
      refine pc_V0 (G := G) (As := []) (rest := []) hx hb hml hown hq hE hX pX0_al hP hD hS hA hl.1 (N_isPlace l G h0 a (upd (upd (upd (upd F 2 (nI sz)) 9 (nI at10)) 10 (nI dp)) 11 (nI sg11)) R Z (updA B 10 f12) J K7 w r6 hf23 hO) (gV pw_991 pw_992 pw_993 pw_872 pw_770) hV_X7_isPlace qr172 13 hqr173 rfl rfl rfl (Nat.le_of_ble_eq_true rfl) dX8_simple_44 ⟨(by show (2 * (at10 - at9) - 1) + 0 ≤ (2 * (sz - at9) + 20); omega), (by show (11 * (2 * (at10 - at9) - 1)) + 0 ≤ (11 * (2 * (sz - at9) + 20)); omega)⟩ ⟨(by show 2 + 1 ≤ (40 * n + 44); omega), (by show 8 + (1 + 11) + 60 ≤ (1300 * n + 1400); omega)⟩ (fun v171 u169 H locs hw170 hP hD hS => ?_)
      obtain ⟨w, r174⟩ := u169
      obtain ⟨hw170, h175, h176, hO⟩ := hw170
      have h175 : r174 ≤ 1 := h175
      have h176 : If (r174 = 1) (K7.2.1 0 r6 = 5 ∨ K7.2.1 0 r6 = 12 ∨ K7.2.1 0 r6 = 14) := h176
      obtain rfl : v171 = some (.int (nI r174)) := hw170
      have hO : OKP G h0 a (upd (upd (upd (upd F 2 (nI sz)) 9 (nI at10)) 10 (nI dp)) 11 (nI sg11)) R Z (updA B 10 f12) J K7 w := hO.to rfl
      refine W.widen (k := (2 * (at10 - at9) - 1)) (n := (11 * (2 * (at10 - at9) - 1))) (by show (2 * (at10 - at9) - 1) + 0 ≤ (2 * (at10 - at9) - 1); omega) (by show (11 * (2 * (at10 - at9) - 1)) + 0 ≤ (11 * (2 * (at10 - at9) - 1)); omega) ?_
      refine W.eq (g2 := F0 m 47 ls [.int (nI r174)]) rfl ?_
      have hpl0 := h176
      rw [hkd9] at hpl0
      refine lv_if_ne (tgt := 54) hx hb dX8_simple_47 (by decide) (fun c177 => ?_) (fun c177 => ?_)
      · have n178 : ¬ (r174 = 0) := fun h9 => c177 ((nI_eq (a := r174) (b := 0) (by omega) (by omega)).mpr h9)
        refine p_new (s9 := 1) (C := RX7) (T := TX7) (N := 11) (ci := 13) (fs := [.int 0, .int 0, .int 0, .int 0, .int 0, .int 0, .null, .null, .null, .null, .null]) hx hb hq pin_wsX70 tyX7 tyX7_ok hown (hq _ pw_870) (hq _ pw_871) (hq _ pw_872) hE hP hD hS hA hO rfl nw_X7 (by decide) (fun q => by rw [rep_1 (show (kN K7 q 1 0).1 q = 1 from if_pos rfl)]; unfold fsNode kN; simp only [if_true]; rfl) (by show (2 * (at10 - at9) - 1) + 1 ≤ (2 * (sz - at9) + 20); omega) (by show (11 * (2 * (at10 - at9) - 1)) + 11 ≤ (11 * (2 * (sz - at9) + 20)); omega) dX8_simple_54 (fun q179 H w hq180 hP hD hS hO => ?_)
        have hf181 : (kN K7 q179 1 0).1 r6 = 1 := (if_neg (fun z => by have z2 := hf23; rw [z, hq180] at z2; exact absurd z2 (by decide))).trans hf23
        have hf182 : (kN K7 q179 1 0).2.1 0 r6 = kd9 := (if_neg (fun z => by have z2 := hf23; rw [z, hq180] at z2; exact absurd z2 (by decide))).trans hkd9
        have hf183 : (kN K7 q179 1 0).1 q179 = 1 := if_pos rfl
        refine W.widen (k := ((2 * (at10 - at9) - 1) + 1)) (n := ((11 * (2 * (at10 - at9) - 1)) + 11)) (by show (2 * (at10 - at9) - 1) + 1 ≤ ((2 * (at10 - at9) - 1) + 1); omega) (by show (11 * (2 * (at10 - at9) - 1)) + 11 ≤ ((11 * (2 * (at10 - at9) - 1)) + 11); omega) ?_
        refine lv_dup hx hb dX8_simple_57 rfl ?_
        refine lv_bipush (v := 23) hx hb dX8_simple_58 (by decide) ?_
        refine lv_aload_n hx hb dX8_simple_60 rfl (lv_at hl 2 rfl) ?_
        refine lv_bipush (v := 43) hx hb dX8_simple_61 (by decide) ?_
        have hO : OKW G h0 a (upd (upd (upd (upd (upd (upd (upd (upd F 2 (nI sz)) 9 (nI at9)) 10 (nI dp)) 11 (nI sg)) 9 (nI at10)) 11 (nI sg11)) 2 (nI sz)) 9 (nI at10)) R Z (updA B 10 f12) J ((kN K7 q179 1 0).1) (fun q99 x99 => x99 = rep G a (kN K7 q179 1 0) q99) w := hO.to rfl
        obtain ⟨_, qr187, hqr188⟩ := hO.2.1 23 _ (sg_23 G h0 a _ _ _ _ _)
        refine pn_V0 (G := G) (As := [.int 43]) (rest := [.int 23, .ref q179, .ref q179]) hx hb hml hown hq hE hX pX0_al hP hD hS hA hl.1 (P_take l G h0 a (upd (upd (upd (upd (upd (upd F 2 (nI sz)) 9 (nI at9)) 10 (nI dp)) 11 (nI sg)) 9 (nI at10)) 11 (nI sg11)) R Z (updA B 10 f12) J ((kN K7 q179 1 0).1) (fun q99 x99 => x99 = rep G a (kN K7 q179 1 0) q99) w 43 at10 sz (by omega) (by omega) (by decide) hO hl0) (gV pw_793 pw_794 pw_795 pw_796 pw_781) hV_X8_take qr187 5 hqr188 rfl rfl rfl (Nat.le_of_ble_eq_true rfl) dX8_simple_63 ⟨(by show ((2 * (at10 - at9) - 1) + 1) + 1 ≤ (2 * (sz - at9) + 20); omega), (by show ((11 * (2 * (at10 - at9) - 1)) + 11) + 6 ≤ (11 * (2 * (sz - at9) + 20)); omega)⟩ ⟨(by show 7 + 1 ≤ (40 * n + 44); omega), (by show 8 + (2 + 11) + 122 ≤ (1300 * n + 1400); omega)⟩ (fun v186 u184 H locs hw185 hP hD hS => ?_) (fun ux ce9 q9 H9 locs9 hux hP9 hD9 hS9 hce hcv hcl => pb_out ux (ThQ.up (Thx.same (Thx.same (Thx.b (Thx.f (Thx.f Thx.rfl (by omega)) (by omega)) (by omega) (by decide)) rfl) rfl) RhX.rfl hux) hnt hlocks hce hcv hcl hP9 hD9 hS9 (by show ((2 * (at10 - at9) - 1) + 1) + 1 ≤ (2 * (sz - at9) + 20); omega) (by show ((11 * (2 * (at10 - at9) - 1)) + 11) + 6 ≤ (11 * (2 * (sz - at9) + 20)); omega))
        obtain ⟨w, _⟩ := u184
        obtain ⟨hw185, h189, h190, hO⟩ := hw185
        have h189 : at10 + 1 ≤ sz := h189
        have h190 : tkN ((B 7)) sz 67 (nI at10) = 43 := h190
        obtain rfl : v186 = some (.int (nI at10)) := hw185
        have hO : OKP G h0 a (upd (upd (upd (upd F 2 (nI sz)) 9 (nI (at10 + 1))) 10 (nI dp)) 11 (nI sg11)) R Z (updA B 10 f12) J (kN K7 q179 1 0) w := hO.to rfl
        refine W.widen (k := ((2 * (at10 - at9) - 1) + 1)) (n := ((11 * (2 * (at10 - at9) - 1)) + 11)) (by show ((2 * (at10 - at9) - 1) + 1) + 0 ≤ ((2 * (at10 - at9) - 1) + 1); omega) (by show ((11 * (2 * (at10 - at9) - 1)) + 11) + 0 ≤ ((11 * (2 * (at10 - at9) - 1)) + 11); omega) ?_
        refine W.eq (g2 := F0 m 66 ls [.int (nI at10), .int 23, .ref q179, .ref q179]) rfl ?_
        refine lv_iload_n hx hb dX8_simple_66 rfl (lv_at hl 1 rfl) ?_
        have hO : OKP G h0 a (upd (upd (upd (upd F 2 (nI sz)) 9 (nI (at10 + 1))) 10 (nI dp)) 11 (nI sg11)) R Z (updA B 10 f12) J (kN K7 q179 1 0) w := hO.to rfl
        obtain ⟨qr194, hqr195⟩ := p_recv hO (by rw [hf183]; decide) (rep_1 hf183)
        refine pc_I0 (G := G) (As := [.int 23, .int (nI at10), .int (nI at9)]) (rest := [.ref q179]) hx hb hml hown hq hE hX pX0_al hP hD hS hA hl.1 (N_init l G h0 a (upd (upd (upd (upd F 2 (nI sz)) 9 (nI (at10 + 1))) 10 (nI dp)) 11 (nI sg11)) R Z (updA B 10 f12) J (kN K7 q179 1 0) w q179 23 (nI at10) (nI at9) (by omega) hO) pw_874 pw_875 pw_872 pw_765 rfl hS_X7_init rfl (Nat.le_of_ble_eq_true rfl) dX8_simple_67 ⟨(by show ((2 * (at10 - at9) - 1) + 1) + 0 ≤ (2 * (sz - at9) + 20); omega), (by show ((11 * (2 * (at10 - at9) - 1)) + 11) + 0 ≤ (11 * (2 * (sz - at9) + 20)); omega)⟩ ⟨(by show 2 + 1 ≤ (40 * n + 44); omega), (by show 8 + (4 + 11) + 60 ≤ (1300 * n + 1400); omega)⟩ (fun v193 u191 H locs hw192 hP hD hS => ?_)
        obtain ⟨w, _⟩ := u191
        obtain ⟨hw192, hO⟩ := hw192
        obtain rfl : v193 = none := hw192
        have hf196 : (kI (kI (kI (kN K7 q179 1 0) 0 q179 23) 1 q179 (nI at10)) 2 q179 (nI at9)).1 r6 = 1 := hf181
        have hf197 : (kI (kI (kI (kN K7 q179 1 0) 0 q179 23) 1 q179 (nI at10)) 2 q179 (nI at9)).1 q179 = 1 := hf183
        have hO : OKP G h0 a (upd (upd (upd (upd F 2 (nI sz)) 9 (nI (at10 + 1))) 10 (nI dp)) 11 (nI sg11)) R Z (updA B 10 f12) J (kI (kI (kI (kN K7 q179 1 0) 0 q179 23) 1 q179 (nI at10)) 2 q179 (nI at9)) w := hO.to rfl
        refine W.widen (k := ((2 * (at10 - at9) - 1) + 1)) (n := ((11 * (2 * (at10 - at9) - 1)) + 11)) (by show ((2 * (at10 - at9) - 1) + 1) + 0 ≤ ((2 * (at10 - at9) - 1) + 1); omega) (by show ((11 * (2 * (at10 - at9) - 1)) + 11) + 0 ≤ ((11 * (2 * (at10 - at9) - 1)) + 11); omega) ?_
        refine W.eq (g2 := F0 m 70 ls [.ref q179]) rfl ?_
        change OKP G h0 a (upd (upd (upd (upd F 2 (nI sz)) 9 (nI (at10 + 1))) 10 (nI dp)) 11 (nI sg11)) R Z (updA B 10 f12) J (mkN K7 q179 23 (nI at10) (nI at9)) w at hO
        obtain ⟨K198, hK199⟩ : ∃ z : PK, z = (mkN K7 q179 23 (nI at10) (nI at9)) := ⟨_, rfl⟩
        rw [← hK199] at hO
        have htk200 : NwT (B 7) sz (B 10) f12 K K198 at9 (at10 + 1) := by rw [hK199]; exact NwT.new (NwT.le htk20 (show _ ≤ (at10 + 1) by omega)) hq180 (TkP.no (by decide))
        have hf201 : K198.1 q179 = 1 := by rw [hK199]; exact mkN_T
        have hf202 : K198.2.1 0 q179 = 23 := by rw [hK199]; exact mkN_0
        have hf203 : K198.2.1 2 q179 = (nI at9) := by rw [hK199]; exact mkN_2
        have hf204 : K198.2.2.1 0 q179 = none := by rw [hK199]; exact mkN_C
        have hf205 : K198.2.2.1 1 q179 = none := by rw [hK199]; exact mkN_C
        have hf206 : K198.2.2.1 2 q179 = none := by rw [hK199]; exact mkN_C
        have hf207 : K198.2.2.1 3 q179 = none := by rw [hK199]; exact mkN_C
        have hf208 : K198.2.2.1 4 q179 = none := by rw [hK199]; exact mkN_C
        have hf209 : K198.1 r6 = 1 := by rw [hK199]; exact ((mkN_ext hq180 r6 (by rw [hf23]; decide)).1).trans hf23
        have hf210 : K198.2.1 0 r6 = kd9 := by rw [hK199]; exact ((mkN_ext hq180 r6 (by rw [hf23]; decide)).2.1 0).trans hkd9
        have hns211 : NwS K K198 g (gset g8 q179 0 0 0) := by rw [hK199]; exact NwS.node hns21 hq180
        have hq212 : K.1 q179 = 0 := old_T hns21.2.1 hq180
        have hg213 : (gset g8 q179 0 0 0) 0 q179 = 0 := gset_0
        have hno214 : NoO K198 (gset g8 q179 0 0 0) q179 := by rw [hK199]; exact NoO.new hns21.1 hq180
        have hxq215 : ¬ r6 = q179 := fun z => by have z2 := hf23; rw [z, hq180] at z2; exact absurd z2 (by decide)
        have hrk216 : (gset g8 q179 0 0 0) 2 r6 = k13 := (gset_ne hxq215).trans hrk22
        have hxq217 : ¬ r6 = q179 := fun z => by have z2 := hf23; rw [z, hq180] at z2; exact absurd z2 (by decide)
        have hgz218 : (gset g8 q179 0 0 0) 0 r6 = g8 0 r6 := gset_ne hxq217
        refine lv_astore (lv' := [(4, .ref q179), (3, .ref r6), (2, .int (nI at9)), (0, .ref (a 3)), (1, .int (nI x))]) hx hb dX8_simple_70 hl (by decide) rfl (fun ls hl => ?_)
        refine lv_aload hx hb dX8_simple_72 (lv_at hl 0 rfl) ?_
        refine lv_aload_n hx hb dX8_simple_74 rfl (lv_at hl 1 rfl) ?_
        refine p_put (v := .ref r6) (ty := (.object "JinjaTongue$Node")) (C := RX7) (Tc := TX7) (N := 11) (ci := 13) (K' := (kC K198 0 q179 (some r6))) hx hb hq pin_wsX70 tyX7 tyX7_ok nmX7 hown hE hP hD hS hO (by rw [hf201]; decide) (rep_1 hf201) rfl 6 (by decide) (hq _ pw_938) (fun _ h9 => h9) rfl (by decide +kernel) rfl rfl (Nat.le_of_ble_eq_true rfl) rfl (by rw [rep_1 (show (kC K198 0 q179 (some r6)).1 q179 = 1 from hf201), pc_0] <;> rfl) (fun p9 hp9 => rep_kC hp9) dX8_simple_75 (fun H locs w hP hD hS hO => ?_)
        obtain ⟨K219, hK220⟩ : ∃ z : PK, z = (kC K198 0 q179 (some r6)) := ⟨_, rfl⟩
        rw [← hK220] at hO
        have hf221 : K219.1 q179 = 1 := (by rw [hK220]; exact hf201)
        have hf222 : K219.2.1 0 q179 = 23 := (by rw [hK220]; exact hf202)
        have hf223 : K219.2.1 2 q179 = (nI at9) := (by rw [hK220]; exact hf203)
        have hf224 : K219.2.2.1 1 q179 = none := (by rw [hK220]; exact (kC_of (by decide)).trans hf205)
        have hf225 : K219.2.2.1 2 q179 = none := (by rw [hK220]; exact (kC_of (by decide)).trans hf206)
        have hf226 : K219.2.2.1 3 q179 = none := (by rw [hK220]; exact (kC_of (by decide)).trans hf207)
        have hf227 : K219.2.2.1 4 q179 = none := (by rw [hK220]; exact (kC_of (by decide)).trans hf208)
        have hf228 : K219.1 r6 = 1 := (by rw [hK220]; exact hf209)
        have hf229 : K219.2.1 0 r6 = kd9 := (by rw [hK220]; exact hf210)
        have hf230 : K219.2.2.1 0 q179 = some r6 := by rw [hK220]; exact kC_eq
        have htk231 : NwT (B 7) sz (B 10) f12 K K219 at9 (at10 + 1) := by rw [hK220]; exact NwT.put htk200
        have hns232 : NwS K K219 g (gset g8 q179 0 0 0) := by rw [hK220]; exact NwS.put hns211 hq212 hg213
        have hno233 : NoO K219 (gset g8 q179 0 0 0) q179 := by rw [hK220]; exact hno214
        refine lv_aload hx hb dX8_simple_78 (lv_at hl 0 rfl) ?_
        refine lv_aload_n hx hb dX8_simple_80 rfl (lv_at hl 3 rfl) ?_
        have hO : OKP G h0 a (upd (upd (upd (upd (upd (upd (upd (upd (upd (upd F 2 (nI sz)) 9 (nI at9)) 10 (nI dp)) 11 (nI sg)) 9 (nI (at10 + 1))) 11 (nI sg11)) 2 (nI sz)) 9 (nI (at10 + 1))) 10 (nI dp)) 11 (nI sg11)) R Z (updA B 10 f12) J K219 w := hO.to rfl
        obtain ⟨_, qr237, hqr238⟩ := hO.2.1 23 _ (sg_23 G h0 a _ _ _ _ _)
        refine pn_V0 (G := G) (As := []) (rest := [.ref q179]) hx hb hml hown hq hE hX pX0_al hP hD hS hA hl.1 (((PE_all l G n).1) h0 a (upd (upd (upd (upd (upd (upd F 2 (nI sz)) 9 (nI at9)) 10 (nI dp)) 11 (nI sg)) 9 (nI (at10 + 1))) 11 (nI sg11)) R Z (updA B 10 f12) J K219 w (at10 + 1) sz dp sg11 0 (gset g8 q179 0 0 0) (by omega) (by omega) hdp (by omega) hns232.1 (fun o9 h9 => absurd h9 (by omega)) hO hl0) (gV pw_916 pw_917 pw_918 pw_796 pw_942) hV_X8_expression qr237 5 hqr238 rfl rfl rfl (Nat.le_of_ble_eq_true rfl) dX8_simple_81 ⟨(by show ((2 * (at10 - at9) - 1) + 1) + (2 * (sz - (at10 + 1)) + 20) ≤ (2 * (sz - at9) + 20); omega), (by show ((11 * (2 * (at10 - at9) - 1)) + 11) + (11 * (2 * (sz - (at10 + 1)) + 20)) ≤ (11 * (2 * (sz - at9) + 20)); omega)⟩ ⟨(by show (40 * n + 40) + 1 ≤ (40 * n + 44); omega), (by show 8 + (3 + 11) + (1300 * n + 1300) ≤ (1300 * n + 1400); omega)⟩ (fun v236 u234 H locs hw235 hP hD hS => ?_) (fun ux ce9 q9 H9 locs9 hux hP9 hD9 hS9 hce hcv hcl => pb_out ux (ThQ.up (Thx.same (Thx.same (Thx.same (Thx.same (Thx.b (Thx.f (Thx.f Thx.rfl (by omega)) (by omega)) (by omega) (by decide)) rfl) rfl) rfl) rfl) RhX.rfl hux) hnt hlocks hce hcv hcl hP9 hD9 hS9 (by show ((2 * (at10 - at9) - 1) + 1) + (2 * (sz - (at10 + 1)) + 20) ≤ (2 * (sz - at9) + 20); omega) (by show ((11 * (2 * (at10 - at9) - 1)) + 11) + (11 * (2 * (sz - (at10 + 1)) + 20)) ≤ (11 * (2 * (sz - at9) + 20)); omega))
        obtain ⟨w, r239, K240, g241, at242, sg243, f244, k245⟩ := u234
        obtain ⟨hw235, h246, h247, h248, h249, h250, h251, hO⟩ := hw235
        have h246 : NwR K219 K240 (gset g8 q179 0 0 0) g241 r239 0 k245 (5 * (20 - dp) + 6 + (sg243 - sg11)) := h246
        have h247 : (at10 + 1) ≤ rS k245 ∧ rS k245 + 1 ≤ rE k245 ∧ rE k245 ≤ at242 ∧ 1 ≤ rD k245 ∧ rD k245 ≤ 9 * (20 - dp) + (sg243 - sg11) + 1 := h247
        have h248 : (at10 + 1) + 1 ≤ at242 ∧ at242 ≤ sz := h248
        have h249 : sg11 ≤ sg243 ∧ sg243 ≤ 60 := h249
        have h250 : ¬ tkN ((B 7)) sz 67 (nI (at10 + 1)) = 37 := h250
        have h251 : NwT ((B 7)) sz (f12) f244 K219 K240 (at10 + 1) at242 := h251
        obtain rfl : v236 = some (.ref r239) := hw235
        have hf252 : K240.1 q179 = 1 := (((h246).2.1.1 q179 (by rw [hf221]; decide)).1).trans hf221
        have hf253 : K240.2.1 0 q179 = 23 := (((h246).2.1.1 q179 (by rw [hf221]; decide)).2.1 0).trans hf222
        have hf254 : K240.2.1 2 q179 = (nI at9) := (((h246).2.1.1 q179 (by rw [hf221]; decide)).2.1 2).trans hf223
        have hf255 : K240.2.2.1 1 q179 = none := (((h246).2.1.1 q179 (by rw [hf221]; decide)).2.2.1 1).trans hf224
        have hf256 : K240.2.2.1 2 q179 = none := (((h246).2.1.1 q179 (by rw [hf221]; decide)).2.2.1 2).trans hf225
        have hf257 : K240.2.2.1 3 q179 = none := (((h246).2.1.1 q179 (by rw [hf221]; decide)).2.2.1 3).trans hf226
        have hf258 : K240.2.2.1 4 q179 = none := (((h246).2.1.1 q179 (by rw [hf221]; decide)).2.2.1 4).trans hf227
        have hf259 : K240.1 r6 = 1 := (((h246).2.1.1 r6 (by rw [hf228]; decide)).1).trans hf228
        have hf260 : K240.2.1 0 r6 = kd9 := (((h246).2.1.1 r6 (by rw [hf228]; decide)).2.1 0).trans hf229
        have hf261 : K240.2.2.1 0 q179 = some r6 := (((h246).2.1.1 q179 (by rw [hf221]; decide)).2.2.1 0).trans hf230
        have hO : OKP G h0 a (upd (upd (upd (upd F 2 (nI sz)) 9 (nI at242)) 10 (nI dp)) 11 (nI sg243)) R Z (updA B 10 f244) J K240 w := hO.to rfl
        refine W.widen (k := (((2 * (at10 - at9) - 1) + 1) + (2 * (at242 - (at10 + 1)) - 1))) (n := (((11 * (2 * (at10 - at9) - 1)) + 11) + (11 * (2 * (at242 - (at10 + 1)) - 1)))) (by show ((2 * (at10 - at9) - 1) + 1) + (2 * (at242 - (at10 + 1)) - 1) ≤ (((2 * (at10 - at9) - 1) + 1) + (2 * (at242 - (at10 + 1)) - 1)); omega) (by show ((11 * (2 * (at10 - at9) - 1)) + 11) + (11 * (2 * (at242 - (at10 + 1)) - 1)) ≤ (((11 * (2 * (at10 - at9) - 1)) + 11) + (11 * (2 * (at242 - (at10 + 1)) - 1))); omega) ?_
        refine W.eq (g2 := F0 m 84 ls [.ref r239, .ref q179]) rfl ?_
        have htk262 : NwT (B 7) sz (B 10) f244 K K240 at9 at242 := (NwT.call htk231 h251 (by omega))
        have hns263 : NwS K K240 g g241 := NwS.call hns232 h246 (fun o9 h9 => absurd h9 (by omega))
        have hrk264 : g241 2 r6 = k13 := (h246.2.1.2 r6 (by rw [hf228]; decide) 2).trans hrk216
        have hrk265 : g241 2 r239 = k245 := h246.2.2.1.2.2.2.2.2.1
        have hf266 : K240.1 r239 = 1 := h246.2.2.1.2.1
        have hg267 : g241 0 q179 = 0 := (h246.2.1.2 q179 (by rw [hf221]; decide) 0).trans hg213
        have hno268 : NoO K240 g241 q179 := NoO.call hno233 h246 hf221 (by omega)
        have hgz269 : g241 0 r6 = (gset g8 q179 0 0 0) 0 r6 := h246.2.1.2 r6 (by rw [hf228]; decide) 0
        have hgy270 := h246.2.2.1
        have hgy270a := hgy270.2.2.1
        have hgy270b := hgy270.2.2.2.1
        refine p_put (v := .ref r239) (ty := (.object "JinjaTongue$Node")) (C := RX7) (Tc := TX7) (N := 11) (ci := 13) (K' := (kC K240 1 q179 (some r239))) hx hb hq pin_wsX70 tyX7 tyX7_ok nmX7 hown hE hP hD hS hO (by rw [hf252]; decide) (rep_1 hf252) rfl 7 (by decide) (hq _ pw_910) (fun _ h9 => h9) rfl (by decide +kernel) rfl rfl (Nat.le_of_ble_eq_true rfl) rfl (by rw [rep_1 (show (kC K240 1 q179 (some r239)).1 q179 = 1 from hf252), pc_1] <;> rfl) (fun p9 hp9 => rep_kC hp9) dX8_simple_84 (fun H locs w hP hD hS hO => ?_)
        obtain ⟨K271, hK272⟩ : ∃ z : PK, z = (kC K240 1 q179 (some r239)) := ⟨_, rfl⟩
        rw [← hK272] at hO
        have hf273 : K271.1 q179 = 1 := (by rw [hK272]; exact hf252)
        have hf274 : K271.2.1 0 q179 = 23 := (by rw [hK272]; exact hf253)
        have hf275 : K271.2.1 2 q179 = (nI at9) := (by rw [hK272]; exact hf254)
        have hf276 : K271.2.2.1 2 q179 = none := (by rw [hK272]; exact (kC_of (by decide)).trans hf256)
        have hf277 : K271.2.2.1 3 q179 = none := (by rw [hK272]; exact (kC_of (by decide)).trans hf257)
        have hf278 : K271.2.2.1 4 q179 = none := (by rw [hK272]; exact (kC_of (by decide)).trans hf258)
        have hf279 : K271.1 r6 = 1 := (by rw [hK272]; exact hf259)
        have hf280 : K271.2.1 0 r6 = kd9 := (by rw [hK272]; exact hf260)
        have hf281 : K271.2.2.1 0 q179 = some r6 := (by rw [hK272]; exact (kC_of (by decide)).trans hf261)
        have hf282 : K271.1 r239 = 1 := (by rw [hK272]; exact hf266)
        have hf283 : K271.2.2.1 1 q179 = some r239 := by rw [hK272]; exact kC_eq
        have htk284 : NwT (B 7) sz (B 10) f244 K K271 at9 at242 := by rw [hK272]; exact NwT.put htk262
        have hns285 : NwS K K271 g g241 := by rw [hK272]; exact NwS.put hns263 hq212 hg267
        have hno286 : NoO K271 g241 q179 := by rw [hK272]; exact hno268
        refine lv_aload hx hb dX8_simple_87 (lv_at hl 0 rfl) ?_
        refine W_size (fun hz1 hz2 => ?_)
        refine vx_ret ?_
        have hkd8 := hf280
        have hpl : K271.2.1 0 r6 = 5 ∨ K271.2.1 0 r6 = 12 ∨ K271.2.1 0 r6 = 14 := by rw [hf280]; exact hpl0 (show r174 = 1 by omega)
        obtain ⟨k9, k9I, hkS, hkE, hkM, hkN, hkX, hkD⟩ := rk_ex (s := at9) (e := at242) (m := (rE k13)) (n := (rE k13)) (x := (rE k13)) (d := (2 * (20 - dp) + 2)) (by omega)
        have hkid : ∀ f9 y9 : Nat, f9 ≤ 3 → K271.2.2.1 f9 q179 = some y9 → K271.1 y9 = 1 ∧ 1 ≤ g241 0 y9 ∧ g241 0 y9 < 168 := by
          intro f9 y9 hf9 hy9
          rcases (show f9 = 0 ∨ f9 = 1 ∨ f9 = 2 ∨ f9 = 3 by omega) with rfl | rfl | rfl | rfl
          · rw [hf281] at hy9; cases hy9; exact ⟨hf279, (by omega), by omega⟩
          · rw [hf283] at hy9; cases hy9; exact ⟨hf282, (by omega), by omega⟩
          · rw [hf276] at hy9; cases hy9
          · rw [hf277] at hy9; cases hy9
        have hkc287 : ∀ f9 y9 : Nat, f9 ≤ 3 → K271.2.2.1 f9 q179 = some y9 → Kch (K271.2.1 0 q179) f9 (K271.2.1 0 y9) k9 (g241 2 y9) := by
          intro f9 y9 hf9 hy9
          rcases (show f9 = 0 ∨ f9 = 1 ∨ f9 = 2 ∨ f9 = 3 by omega) with rfl | rfl | rfl | rfl
          · rw [hf281] at hy9; cases hy9; rw [hrk264]; rw [hf274] <;> exact ⟨(fun z => absurd z (by decide)), (fun z => absurd z (by decide)), (fun _ _ => hpl), (fun z => absurd z (by decide)), (fun z => absurd z (by decide)), (fun z => absurd z (by decide)), (fun z => absurd z (by decide)), (fun z => absurd z (by decide)), (fun z => absurd z (by decide)), (fun z => absurd z (by decide)), (fun z => absurd z (by decide)), (fun _ _ => (by omega)), (fun _ z => absurd z (by decide)), (fun z => absurd z (by decide)), (fun z => absurd z (by decide)), (fun z => absurd z (by decide)), (fun z => absurd z (by decide)), (fun z => absurd z (by decide)), (fun z => absurd z (by decide)), (fun z => absurd z (by decide)), (fun z => absurd z (by decide)), (fun z => absurd z (by decide)), (fun z => absurd z (by decide)), (fun z => absurd z (by decide))⟩
          · rw [hf283] at hy9; cases hy9; rw [hrk265]; rw [hf274] <;> exact ⟨(fun z => absurd z (by decide)), (fun z => absurd z (by decide)), (fun _ z => absurd z (by decide)), (fun z => absurd z (by decide)), (fun z => absurd z (by decide)), (fun z => absurd z (by decide)), (fun z => absurd z (by decide)), (fun z => absurd z (by decide)), (fun z => absurd z (by decide)), (fun z => absurd z (by decide)), (fun z => absurd z (by decide)), (fun _ z => absurd z (by decide)), (fun _ _ => (by omega)), (fun z => absurd z (by decide)), (fun z => absurd z (by decide)), (fun z => absurd z (by decide)), (fun z => absurd z (by decide)), (fun z => absurd z (by decide)), (fun z => absurd z (by decide)), (fun z => absurd z (by decide)), (fun z => absurd z (by decide)), (fun z => absurd z (by decide)), (fun z => absurd z (by decide)), (fun z => absurd z (by decide))⟩
          · rw [hf276] at hy9; cases hy9
          · rw [hf277] at hy9; cases hy9
        have hdn := NwS.done1I (q := q179) (L := 168) (O := O) (k := k9) hns285 hq212 hf273 hg267 (by omega) ⟨k9I, (by rw [hf274] <;> exact ⟨(fun z => absurd z (by decide)), (fun z => absurd z (by decide)), (fun z => absurd z (by decide))⟩)⟩ (by rw [hf274]; exact ⟨(fun z => absurd z (by decide)), (fun _ => ⟨(by show ¬ K271.2.2.1 0 q179 = none; rw [hf281]; intro z; cases z), (by show ¬ K271.2.2.1 1 q179 = none; rw [hf283]; intro z; cases z)⟩), (fun z => absurd z (by decide)), (fun z => absurd z (by decide)), (fun z => absurd z (by decide))⟩) (fun f9 z => by rw [hf274] at z; rcases z with ⟨z, _⟩ | ⟨z | z | z, _⟩ <;> exact absurd z (by decide)) hkid hf278 hno286 hkc287 how
        have hz288 : NwR K K271 g (gset g241 q179 168 O k9) q179 O k9 (168) := hdn
        have hz289 : rS k9 = at9 ∧ rE k9 ≤ at242 ∧ rS k9 ≤ rE k9 ∧ rD k9 ≤ 2 * (20 - dp) + 2 := (by omega)
        have hz290 : at9 + 1 ≤ at242 ∧ at242 ≤ sz := (by omega)
        have hz291 : sg ≤ sg243 ∧ sg243 ≤ 60 := (by omega)
        have hz292 : (K271.2.1 0 q179 = 23 ∨ K271.2.1 0 q179 = 24) ∧ (x = 0 → K271.2.1 0 q179 = 23) := ⟨Or.inl hf274, fun _ => hf274⟩
        have hz293 : NwT (B 7) sz (B 10) f244 K K271 at9 at242 := (NwT.le htk284 (by omega))
        have hO : OKP G h0 a (upd (upd (upd (upd F 2 (nI sz)) 9 (nI at242)) 10 (nI dp)) 11 (nI sg243)) R Z (updA B 10 f244) J K271 w := hO.to rfl
        refine W.widen (k := (2 * (sz - at9) + 20)) (n := (11 * (2 * (sz - at9) + 20))) (by omega) (by omega) ?_
        have hzz1 : H.size ≤ s.heap.size + ((2 * (at242 - at9) - 0)) := (by have z : (((2 * (at10 - at9) - 1) + 1) + (2 * (at242 - (at10 + 1)) - 1)) ≤ (2 * (at242 - at9) - 0) := (by omega); omega)
        have hzz2 : hSl H ≤ hSl s.heap + ((11 * (2 * (at242 - at9) - 0))) := (by have z : (((11 * (2 * (at10 - at9) - 1)) + 11) + (11 * (2 * (at242 - (at10 + 1)) - 1))) ≤ (11 * (2 * (at242 - at9) - 0)) := (by omega); omega)
        exact W.aret (v := .ref q179) hx hb hr (Or.inl ⟨_, rfl⟩) (Or.inr ⟨_, rfl⟩) (fun t99 ht99 hW99 => ⟨⟨_, (w, (q179, K271, (gset g241 q179 168 O k9), at242, sg243, f244, k9)), rfl, ⟨rfl, hz288, hz289, hz290, hz291, hz292, hz293, hO⟩, by rw [ht99]; exact hP, hD, by rw [ht99]; exact hzz1, by rw [ht99]; exact hzz2⟩, hS.F ht99⟩) hS.2.2 dX8_simple_89
      · have n294 : r174 = 0 := (nI_eq (a := r174) (b := 0) (by omega) (by omega)).mp c177
        refine lv_aload_n hx hb dX8_simple_50 rfl (lv_at hl 2 rfl) ?_
        have hO : OKW G h0 a (upd (upd (upd (upd (upd (upd (upd (upd F 2 (nI sz)) 9 (nI at9)) 10 (nI dp)) 11 (nI sg)) 9 (nI at10)) 11 (nI sg11)) 2 (nI sz)) 9 (nI at10)) R Z (updA B 10 f12) J K7.1 (fun q99 x99 => x99 = rep G a K7 q99) w := hO.to rfl
        obtain ⟨_, qr298, hqr299⟩ := hO.2.1 23 _ (sg_23 G h0 a _ _ _ _ _)
        refine pn_V0 (G := G) (As := []) (rest := []) hx hb hml hown hq hE hX pX0_al hP hD hS hA hl.1 (P_refuse l G h0 a (upd (upd (upd (upd (upd (upd F 2 (nI sz)) 9 (nI at9)) 10 (nI dp)) 11 (nI sg)) 9 (nI at10)) 11 (nI sg11)) R Z (updA B 10 f12) J K7.1 (fun q99 x99 => x99 = rep G a K7 q99) w at10 sz (by omega) (by omega) hO hl0) (gV pw_806 pw_807 pw_808 pw_796 pw_778) hV_X8_refuse qr298 5 hqr299 rfl rfl rfl (Nat.le_of_ble_eq_true rfl) dX8_simple_51 ⟨(by show (2 * (at10 - at9) - 1) + 1 ≤ (2 * (sz - at9) + 20); omega), (by show (11 * (2 * (at10 - at9) - 1)) + 6 ≤ (11 * (2 * (sz - at9) + 20)); omega)⟩ ⟨(by show 7 + 1 ≤ (40 * n + 44); omega), (by show 8 + (1 + 11) + 122 ≤ (1300 * n + 1400); omega)⟩ (fun v297 u295 H locs hw296 hP hD hS => hw296.elim) (fun ux ce9 q9 H9 locs9 hux hP9 hD9 hS9 hce hcv hcl => pb_out ux (ThQ.up (Thx.same (Thx.same (Thx.b (Thx.f (Thx.f Thx.rfl (by omega)) (by omega)) (by omega) (by decide)) rfl) rfl) RhX.rfl hux) hnt hlocks hce hcv hcl hP9 hD9 hS9 (by show (2 * (at10 - at9) - 1) + 1 ≤ (2 * (sz - at9) + 20); omega) (by show (11 * (2 * (at10 - at9) - 1)) + 6 ≤ (11 * (2 * (sz - at9) + 20)); omega))
    · have n300 : ¬ (r164 = 0) := fun h9 => c167 ((nI_eq (a := r164) (b := 0) (by omega) (by omega)).mpr h9)
      refine p_new (s9 := 1) (C := RX7) (T := TX7) (N := 11) (ci := 13) (fs := [.int 0, .int 0, .int 0, .int 0, .int 0, .int 0, .null, .null, .null, .null, .null]) hx hb hq pin_wsX70 tyX7 tyX7_ok hown (hq _ pw_870) (hq _ pw_871) (hq _ pw_872) hE hP hD hS hA hO rfl nw_X7 (by decide) (fun q => by rw [rep_1 (show (kN K7 q 1 0).1 q = 1 from if_pos rfl)]; unfold fsNode kN; simp only [if_true]; rfl) (by show (2 * (at10 - at9) - 1) + 1 ≤ (2 * (sz - at9) + 20); omega) (by show (11 * (2 * (at10 - at9) - 1)) + 11 ≤ (11 * (2 * (sz - at9) + 20)); omega) dX8_simple_21 (fun q301 H w hq302 hP hD hS hO => ?_)
      have hf303 : (kN K7 q301 1 0).1 r6 = 1 := (if_neg (fun z => by have z2 := hf23; rw [z, hq302] at z2; exact absurd z2 (by decide))).trans hf23
      have hf304 : (kN K7 q301 1 0).2.1 0 r6 = kd9 := (if_neg (fun z => by have z2 := hf23; rw [z, hq302] at z2; exact absurd z2 (by decide))).trans hkd9
      have hf305 : (kN K7 q301 1 0).1 q301 = 1 := if_pos rfl
      refine W.widen (k := ((2 * (at10 - at9) - 1) + 1)) (n := ((11 * (2 * (at10 - at9) - 1)) + 11)) (by show (2 * (at10 - at9) - 1) + 1 ≤ ((2 * (at10 - at9) - 1) + 1); omega) (by show (11 * (2 * (at10 - at9) - 1)) + 11 ≤ ((11 * (2 * (at10 - at9) - 1)) + 11); omega) ?_
      refine lv_dup hx hb dX8_simple_24 rfl ?_
      refine lv_bipush (v := 24) hx hb dX8_simple_25 (by decide) ?_
      refine lv_iload_n hx hb dX8_simple_27 rfl (lv_at hl 1 rfl) ?_
      refine lv_iload_n hx hb dX8_simple_28 rfl (lv_at hl 1 rfl) ?_
      have hO : OKP G h0 a (upd (upd (upd (upd F 2 (nI sz)) 9 (nI at10)) 10 (nI dp)) 11 (nI sg11)) R Z (updA B 10 f12) J (kN K7 q301 1 0) w := hO.to rfl
      obtain ⟨qr309, hqr310⟩ := p_recv hO (by rw [hf305]; decide) (rep_1 hf305)
      refine pc_I0 (G := G) (As := [.int 24, .int (nI at9), .int (nI at9)]) (rest := [.ref q301]) hx hb hml hown hq hE hX pX0_al hP hD hS hA hl.1 (N_init l G h0 a (upd (upd (upd (upd F 2 (nI sz)) 9 (nI at10)) 10 (nI dp)) 11 (nI sg11)) R Z (updA B 10 f12) J (kN K7 q301 1 0) w q301 24 (nI at9) (nI at9) (by omega) hO) pw_874 pw_875 pw_872 pw_765 rfl hS_X7_init rfl (Nat.le_of_ble_eq_true rfl) dX8_simple_29 ⟨(by show ((2 * (at10 - at9) - 1) + 1) + 0 ≤ (2 * (sz - at9) + 20); omega), (by show ((11 * (2 * (at10 - at9) - 1)) + 11) + 0 ≤ (11 * (2 * (sz - at9) + 20)); omega)⟩ ⟨(by show 2 + 1 ≤ (40 * n + 44); omega), (by show 8 + (4 + 11) + 60 ≤ (1300 * n + 1400); omega)⟩ (fun v308 u306 H locs hw307 hP hD hS => ?_)
      obtain ⟨w, _⟩ := u306
      obtain ⟨hw307, hO⟩ := hw307
      obtain rfl : v308 = none := hw307
      have hf311 : (kI (kI (kI (kN K7 q301 1 0) 0 q301 24) 1 q301 (nI at9)) 2 q301 (nI at9)).1 r6 = 1 := hf303
      have hf312 : (kI (kI (kI (kN K7 q301 1 0) 0 q301 24) 1 q301 (nI at9)) 2 q301 (nI at9)).1 q301 = 1 := hf305
      have hO : OKP G h0 a (upd (upd (upd (upd F 2 (nI sz)) 9 (nI at10)) 10 (nI dp)) 11 (nI sg11)) R Z (updA B 10 f12) J (kI (kI (kI (kN K7 q301 1 0) 0 q301 24) 1 q301 (nI at9)) 2 q301 (nI at9)) w := hO.to rfl
      refine W.widen (k := ((2 * (at10 - at9) - 1) + 1)) (n := ((11 * (2 * (at10 - at9) - 1)) + 11)) (by show ((2 * (at10 - at9) - 1) + 1) + 0 ≤ ((2 * (at10 - at9) - 1) + 1); omega) (by show ((11 * (2 * (at10 - at9) - 1)) + 11) + 0 ≤ ((11 * (2 * (at10 - at9) - 1)) + 11); omega) ?_
      refine W.eq (g2 := F0 m 32 ls [.ref q301]) rfl ?_
      change OKP G h0 a (upd (upd (upd (upd F 2 (nI sz)) 9 (nI at10)) 10 (nI dp)) 11 (nI sg11)) R Z (updA B 10 f12) J (mkN K7 q301 24 (nI at9) (nI at9)) w at hO
      obtain ⟨K313, hK314⟩ : ∃ z : PK, z = (mkN K7 q301 24 (nI at9) (nI at9)) := ⟨_, rfl⟩
      rw [← hK314] at hO
      have htk315 : NwT (B 7) sz (B 10) f12 K K313 at9 at10 := by rw [hK314]; exact NwT.new (NwT.le htk20 (show _ ≤ at10 by omega)) hq302 (TkP.no (by decide))
      have hf316 : K313.1 q301 = 1 := by rw [hK314]; exact mkN_T
      have hf317 : K313.2.1 0 q301 = 24 := by rw [hK314]; exact mkN_0
      have hf318 : K313.2.1 2 q301 = (nI at9) := by rw [hK314]; exact mkN_2
      have hf319 : K313.2.2.1 0 q301 = none := by rw [hK314]; exact mkN_C
      have hf320 : K313.2.2.1 1 q301 = none := by rw [hK314]; exact mkN_C
      have hf321 : K313.2.2.1 2 q301 = none := by rw [hK314]; exact mkN_C
      have hf322 : K313.2.2.1 3 q301 = none := by rw [hK314]; exact mkN_C
      have hf323 : K313.2.2.1 4 q301 = none := by rw [hK314]; exact mkN_C
      have hf324 : K313.1 r6 = 1 := by rw [hK314]; exact ((mkN_ext hq302 r6 (by rw [hf23]; decide)).1).trans hf23
      have hf325 : K313.2.1 0 r6 = kd9 := by rw [hK314]; exact ((mkN_ext hq302 r6 (by rw [hf23]; decide)).2.1 0).trans hkd9
      have hns326 : NwS K K313 g (gset g8 q301 0 0 0) := by rw [hK314]; exact NwS.node hns21 hq302
      have hq327 : K.1 q301 = 0 := old_T hns21.2.1 hq302
      have hg328 : (gset g8 q301 0 0 0) 0 q301 = 0 := gset_0
      have hno329 : NoO K313 (gset g8 q301 0 0 0) q301 := by rw [hK314]; exact NoO.new hns21.1 hq302
      have hxq330 : ¬ r6 = q301 := fun z => by have z2 := hf23; rw [z, hq302] at z2; exact absurd z2 (by decide)
      have hrk331 : (gset g8 q301 0 0 0) 2 r6 = k13 := (gset_ne hxq330).trans hrk22
      have hxq332 : ¬ r6 = q301 := fun z => by have z2 := hf23; rw [z, hq302] at z2; exact absurd z2 (by decide)
      have hgz333 : (gset g8 q301 0 0 0) 0 r6 = g8 0 r6 := gset_ne hxq332
      refine lv_astore (lv' := [(4, .ref q301), (3, .ref r6), (2, .int (nI at9)), (0, .ref (a 3)), (1, .int (nI x))]) hx hb dX8_simple_32 hl (by decide) rfl (fun ls hl => ?_)
      refine lv_aload hx hb dX8_simple_34 (lv_at hl 0 rfl) ?_
      refine lv_aload_n hx hb dX8_simple_36 rfl (lv_at hl 1 rfl) ?_
      refine p_put (v := .ref r6) (ty := (.object "JinjaTongue$Node")) (C := RX7) (Tc := TX7) (N := 11) (ci := 13) (K' := (kC K313 0 q301 (some r6))) hx hb hq pin_wsX70 tyX7 tyX7_ok nmX7 hown hE hP hD hS hO (by rw [hf316]; decide) (rep_1 hf316) rfl 6 (by decide) (hq _ pw_938) (fun _ h9 => h9) rfl (by decide +kernel) rfl rfl (Nat.le_of_ble_eq_true rfl) rfl (by rw [rep_1 (show (kC K313 0 q301 (some r6)).1 q301 = 1 from hf316), pc_0] <;> rfl) (fun p9 hp9 => rep_kC hp9) dX8_simple_37 (fun H locs w hP hD hS hO => ?_)
      obtain ⟨K334, hK335⟩ : ∃ z : PK, z = (kC K313 0 q301 (some r6)) := ⟨_, rfl⟩
      rw [← hK335] at hO
      have hf336 : K334.1 q301 = 1 := (by rw [hK335]; exact hf316)
      have hf337 : K334.2.1 0 q301 = 24 := (by rw [hK335]; exact hf317)
      have hf338 : K334.2.1 2 q301 = (nI at9) := (by rw [hK335]; exact hf318)
      have hf339 : K334.2.2.1 1 q301 = none := (by rw [hK335]; exact (kC_of (by decide)).trans hf320)
      have hf340 : K334.2.2.1 2 q301 = none := (by rw [hK335]; exact (kC_of (by decide)).trans hf321)
      have hf341 : K334.2.2.1 3 q301 = none := (by rw [hK335]; exact (kC_of (by decide)).trans hf322)
      have hf342 : K334.2.2.1 4 q301 = none := (by rw [hK335]; exact (kC_of (by decide)).trans hf323)
      have hf343 : K334.1 r6 = 1 := (by rw [hK335]; exact hf324)
      have hf344 : K334.2.1 0 r6 = kd9 := (by rw [hK335]; exact hf325)
      have hf345 : K334.2.2.1 0 q301 = some r6 := by rw [hK335]; exact kC_eq
      have htk346 : NwT (B 7) sz (B 10) f12 K K334 at9 at10 := by rw [hK335]; exact NwT.put htk315
      have hns347 : NwS K K334 g (gset g8 q301 0 0 0) := by rw [hK335]; exact NwS.put hns326 hq327 hg328
      have hno348 : NoO K334 (gset g8 q301 0 0 0) q301 := by rw [hK335]; exact hno329
      refine lv_aload hx hb dX8_simple_40 (lv_at hl 0 rfl) ?_
      refine W_size (fun hz1 hz2 => ?_)
      refine vx_ret ?_
      have hkd8 := hf344
      have hcl9 : K334.2.1 0 r6 = 10 ∨ K334.2.1 0 r6 = 11 := by rw [hf344]; exact hcl0 (show r164 = 1 by omega)
      obtain ⟨k9, k9I, hkS, hkE, hkM, hkN, hkX, hkD⟩ := rk_ex (s := at9) (e := at10) (m := at9) (n := at9) (x := at9) (d := (2 * (20 - dp) + 2)) (by omega)
      have hkid : ∀ f9 y9 : Nat, f9 ≤ 3 → K334.2.2.1 f9 q301 = some y9 → K334.1 y9 = 1 ∧ 1 ≤ (gset g8 q301 0 0 0) 0 y9 ∧ (gset g8 q301 0 0 0) 0 y9 < 168 := by
        intro f9 y9 hf9 hy9
        rcases (show f9 = 0 ∨ f9 = 1 ∨ f9 = 2 ∨ f9 = 3 by omega) with rfl | rfl | rfl | rfl
        · rw [hf345] at hy9; cases hy9; exact ⟨hf343, (by omega), by omega⟩
        · rw [hf339] at hy9; cases hy9
        · rw [hf340] at hy9; cases hy9
        · rw [hf341] at hy9; cases hy9
      have hkc349 : ∀ f9 y9 : Nat, f9 ≤ 3 → K334.2.2.1 f9 q301 = some y9 → Kch (K334.2.1 0 q301) f9 (K334.2.1 0 y9) k9 ((gset g8 q301 0 0 0) 2 y9) := by
        intro f9 y9 hf9 hy9
        rcases (show f9 = 0 ∨ f9 = 1 ∨ f9 = 2 ∨ f9 = 3 by omega) with rfl | rfl | rfl | rfl
        · rw [hf345] at hy9; cases hy9; rw [hrk331]; rw [hf337] <;> exact ⟨(fun z => absurd z (by decide)), (fun z => absurd z (by decide)), (fun z => absurd z (by decide)), (fun z => absurd z (by decide)), (fun z => absurd z (by decide)), (fun z => absurd z (by decide)), (fun z => absurd z (by decide)), (fun z => absurd z (by decide)), (fun z => absurd z (by decide)), (fun z => absurd z (by decide)), (fun z => absurd z (by decide)), (fun z => absurd z (by decide)), (fun z => absurd z (by decide)), (fun _ _ => ⟨hcl9, (by omega)⟩), (fun z => absurd z (by decide)), (fun z => absurd z (by decide)), (fun z => absurd z (by decide)), (fun z => absurd z (by decide)), (fun z => absurd z (by decide)), (fun z => absurd z (by decide)), (fun z => absurd z (by decide)), (fun z => absurd z (by decide)), (fun z => absurd z (by decide)), (fun z => absurd z (by decide))⟩
        · rw [hf339] at hy9; cases hy9
        · rw [hf340] at hy9; cases hy9
        · rw [hf341] at hy9; cases hy9
      have hdn := NwS.done1I (q := q301) (L := 168) (O := O) (k := k9) hns347 hq327 hf336 hg328 (by omega) ⟨k9I, (by rw [hf337] <;> exact ⟨(fun z => absurd z (by decide)), (fun z => absurd z (by decide)), (fun z => absurd z (by decide))⟩)⟩ (by rw [hf337]; exact ⟨(fun _ => (by show ¬ K334.2.2.1 0 q301 = none; rw [hf345]; intro z; cases z)), (fun z => absurd z (by decide)), (fun z => absurd z (by decide)), (fun z => absurd z (by decide)), (fun z => absurd z (by decide))⟩) (fun f9 z => by rw [hf337] at z; rcases z with ⟨z, _⟩ | ⟨z | z | z, _⟩ <;> exact absurd z (by decide)) hkid hf342 hno348 hkc349 how
      have hz350 : NwR K K334 g (gset (gset g8 q301 0 0 0) q301 168 O k9) q301 O k9 (168) := hdn
      have hz351 : rS k9 = at9 ∧ rE k9 ≤ at10 ∧ rS k9 ≤ rE k9 ∧ rD k9 ≤ 2 * (20 - dp) + 2 := (by omega)
      have hz352 : at9 + 1 ≤ at10 ∧ at10 ≤ sz := (by omega)
      have hz353 : sg ≤ sg11 ∧ sg11 ≤ 60 := (by omega)
      have hz354 : (K334.2.1 0 q301 = 23 ∨ K334.2.1 0 q301 = 24) ∧ (x = 0 → K334.2.1 0 q301 = 23) := ⟨Or.inr hf337, fun z9 => by omega⟩
      have hz355 : NwT (B 7) sz (B 10) f12 K K334 at9 at10 := (NwT.le htk346 (by omega))
      have hO : OKP G h0 a (upd (upd (upd (upd F 2 (nI sz)) 9 (nI at10)) 10 (nI dp)) 11 (nI sg11)) R Z (updA B 10 f12) J K334 w := hO.to rfl
      refine W.widen (k := (2 * (sz - at9) + 20)) (n := (11 * (2 * (sz - at9) + 20))) (by omega) (by omega) ?_
      have hzz1 : H.size ≤ s.heap.size + ((2 * (at10 - at9) - 0)) := (by have z : ((2 * (at10 - at9) - 1) + 1) ≤ (2 * (at10 - at9) - 0) := (by omega); omega)
      have hzz2 : hSl H ≤ hSl s.heap + ((11 * (2 * (at10 - at9) - 0))) := (by have z : ((11 * (2 * (at10 - at9) - 1)) + 11) ≤ (11 * (2 * (at10 - at9) - 0)) := (by omega); omega)
      exact W.aret (v := .ref q301) hx hb hr (Or.inl ⟨_, rfl⟩) (Or.inr ⟨_, rfl⟩) (fun t99 ht99 hW99 => ⟨⟨_, (w, (q301, K334, (gset (gset g8 q301 0 0 0) q301 168 O k9), at10, sg11, f12, k9)), rfl, ⟨rfl, hz350, hz351, hz352, hz353, hz354, hz355, hO⟩, by rw [ht99]; exact hP, hD, by rw [ht99]; exact hzz1, by rw [ht99]; exact hzz2⟩, hS.F ht99⟩) hS.2.2 dX8_simple_42

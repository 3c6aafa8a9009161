theorem dX8_condition_0 : decode cX8_condition 0 = .ok (.aload_n 0, 1) := by decide +kernel
theorem dX8_condition_1 : decode cX8_condition 1 = .ok (.bipush 34, 2) := by decide +kernel
theorem dX8_condition_3 : decode cX8_condition 3 = .ok (.invokevirtual 53, 3) := by decide +kernel
theorem dX8_condition_6 : decode cX8_condition 6 = .ok (.pop, 1) := by decide +kernel
theorem dX8_condition_7 : decode cX8_condition 7 = .ok (.aload_n 0, 1) := by decide +kernel
theorem dX8_condition_8 : decode cX8_condition 8 = .ok (.invokevirtual 196, 3) := by decide +kernel
theorem dX8_condition_11 : decode cX8_condition 11 = .ok (.astore_n 1, 1) := by decide +kernel
theorem dX8_condition_12 : decode cX8_condition 12 = .ok (.aload_n 0, 1) := by decide +kernel
theorem dX8_condition_13 : decode cX8_condition 13 = .ok (.bipush 35, 2) := by decide +kernel
theorem dX8_condition_15 : decode cX8_condition 15 = .ok (.invokevirtual 53, 3) := by decide +kernel
theorem dX8_condition_18 : decode cX8_condition 18 = .ok (.pop, 1) := by decide +kernel
theorem dX8_condition_19 : decode cX8_condition 19 = .ok (.aload_n 1, 1) := by decide +kernel
theorem dX8_condition_20 : decode cX8_condition 20 = .ok (.areturn, 1) := by decide +kernel
set_option maxHeartbeats 16000000 in
set_option maxRecDepth 100000 in
theorem P_condition (l : Launch) (G : pT) (h0 : Nat) (a : Nat → Nat) (F : Nat → Int32) (R : Nat → Value) (Z : Int64) (B : Nat → Nat → Int32) (J : Nat → Nat → Int64) (K : PK) (w : va_W) (n : Nat) (at9 : Nat) (sz : Nat) (dp : Nat) (sg : Nat) (O : Nat) (g : Nat → Nat → Nat) (hsz : sz ≤ 5000) (hat : at9 ≤ sz) (hdp : dp + n = 20) (hsg : sg ≤ 60) (hwn : WN K g) (how : ∀ o : Nat, O = o + 1 → K.1 o = 1 ∧ g 0 o = 0 ∧ ¬ K.2.1 0 o = 32) (hO : OKP G h0 a (upd (upd (upd (upd F 2 (nI sz)) 9 (nI at9)) 10 (nI dp)) 11 (nI sg)) R Z B J K w) (hl0 : l.stackTraces = false) : PBn l G pX0 yX8_condition cX8_condition 2 (some (.object "JinjaTongue$Node")) ({ frames := (40 * n + 42), cells := (2 * (sz - at9) + 20), slots := (11 * (2 * (sz - at9) + 20)), locals := (1300 * n + 1340) }) [.ref (a 3)] w (fun (v : Option Value) (u : va_W × (Nat × PK × (Nat → Nat → Nat) × Nat × Nat × (Nat → Int32))) => v = some (.ref u.2.1) ∧ (NwR K u.2.2.1 g u.2.2.2.1 u.2.1 O (at9 + 1) (5 * (20 - dp) + 6 + (u.2.2.2.2.2.1 - sg))) ∧ (at9 + 3 ≤ u.2.2.2.2.1 ∧ u.2.2.2.2.1 ≤ sz) ∧ (sg ≤ u.2.2.2.2.2.1 ∧ u.2.2.2.2.2.1 ≤ 60) ∧ (OKP G h0 a (upd (upd (upd (upd F 2 (nI sz)) 9 (nI u.2.2.2.2.1)) 10 (nI dp)) 11 (nI u.2.2.2.2.2.1)) R Z (updA B 10 u.2.2.2.2.2.2) J u.2.2.1 u.1)) (fun u => u.1) (fun (u : va_W × (Nat × PK × (Nat → Nat → Nat) × Nat × Nat × (Nat → Int32))) => (2 * (u.2.2.2.2.1 - at9) - 5)) (fun (u : va_W × (Nat × PK × (Nat → Nat → Nat) × Nat × Nat × (Nat → Int32))) => (11 * (2 * (u.2.2.2.2.1 - at9) - 5))) (fun (u : va_W × (Nat → Int32) × (Nat → Value) × (Nat → Nat → Int32)) => ThQ G h0 a (upd (upd (upd (upd F 2 (nI sz)) 9 (nI at9)) 10 (nI dp)) 11 (nI sg)) R Z B J u) (fun u => u.1) := by
  intro sz
  refine vx_ofW (cc := cX8_condition) (maxL := 2) (ret := (some (.object "JinjaTongue$Node"))) (by decide) rfl ?_
  intro p e s m args below meth c s₁ B9 hml hnt hv
  obtain ⟨rfl, hsz, hP, hD0, hE, hX⟩ := hv
  have hx := B9.exec
  have hb := B9.bytes
  have hr := B9.returns
  have hts := atoms_spec (ws := Cond.code yX8_condition cX8_condition 2 (some (.object "JinjaTongue$Node")) :: pw) B9.pre
  have hq : ∀ w ∈ pw, w.before _ s = true := fun w h => hts w (List.mem_cons_of_mem _ h)
  have hown : s.vm.findClass RX8 = some m.cls := findClass_of_methodNamed B9.named
  have hlocks := B9.notSynchronized
  subst hsz
  have hD := hD0.self (sz := s.heap.size)
  have hA : ∀ q : Nat, s.heap.size ≤ q → va_A w s.heap.size q := fun q h => Or.inr h
  generalize va_A w s.heap.size = A at hD hE hA ⊢
  have hS : va_S A s.heap s.heap [] := va_S.rf
  have hl := lv_entry ([.ref (a 3)]) (n := 2) (Nat.le_of_ble_eq_true rfl)
  rw [lg_entry_eq]
  generalize (lg_sl ([.ref (a 3)]) ++ List.replicate (2 - (lg_sl ([.ref (a 3)])).length) Slot.unset).toArray = ls at hl ⊢
  have hl : lv_has ls 2 [(0, .ref (a 3))] := hl
  refine lv_aload_n hx hb dX8_condition_0 rfl (lv_at hl 0 rfl) ?_
  refine lv_bipush (v := 34) hx hb dX8_condition_1 (by decide) ?_
  have hO : OKW G h0 a (upd (upd (upd (upd (upd (upd F 2 (nI sz)) 9 (nI at9)) 10 (nI dp)) 11 (nI sg)) 2 (nI sz)) 9 (nI at9)) R Z B J K.1 (fun q99 x99 => x99 = rep G a K q99) w := hO.to rfl
  obtain ⟨_, qr4, hqr5⟩ := hO.2.1 23 _ (sg_23 G h0 a _ _ _ _ _)
  refine pn_V0 (G := G) (As := [.int 34]) (rest := []) hx hb hml hown hq hE hX pX0_al hP hD hS hA hl.1 (P_take l G h0 a (upd (upd (upd (upd F 2 (nI sz)) 9 (nI at9)) 10 (nI dp)) 11 (nI sg)) R Z B J K.1 (fun q99 x99 => x99 = rep G a K q99) w 34 at9 sz (by omega) (by omega) (by decide) hO hl0) (gV pw_793 pw_794 pw_795 pw_796 pw_781) hV_X8_take qr4 5 hqr5 rfl rfl rfl (Nat.le_of_ble_eq_true rfl) dX8_condition_3 ⟨(by show 0 + 1 ≤ (2 * (sz - at9) + 20); omega), (by show 0 + 6 ≤ (11 * (2 * (sz - at9) + 20)); omega)⟩ ⟨(by show 7 + 1 ≤ (40 * n + 42); omega), (by show 8 + (2 + 11) + 122 ≤ (1300 * n + 1340); omega)⟩ (fun v3 u1 H locs hw2 hP hD hS => ?_) (fun ux ce9 q9 H9 locs9 hux hP9 hD9 hS9 hce hcv hcl => pb_out ux (ThQ.up (Thx.same (Thx.same Thx.rfl rfl) rfl) RhX.rfl hux) hnt hlocks hce hcv hcl hP9 hD9 hS9 (by show 0 + 1 ≤ (2 * (sz - at9) + 20); omega) (by show 0 + 6 ≤ (11 * (2 * (sz - at9) + 20)); omega))
  obtain ⟨w, _⟩ := u1
  obtain ⟨hw2, h6, hO⟩ := hw2
  have h6 : at9 + 1 ≤ sz := h6
  obtain rfl : v3 = some (.int (nI at9)) := hw2
  have hO : OKP G h0 a (upd (upd (upd (upd F 2 (nI sz)) 9 (nI (at9 + 1))) 10 (nI dp)) 11 (nI sg)) R Z B J K w := hO.to rfl
  refine W.widen (k := 0) (n := 0) (by show 0 + 0 ≤ 0; omega) (by show 0 + 0 ≤ 0; omega) ?_
  refine W.eq (g2 := F0 m 6 ls [.int (nI at9)]) rfl ?_
  refine lv_pop hx hb dX8_condition_6 rfl ?_
  refine lv_aload_n hx hb dX8_condition_7 rfl (lv_at hl 0 rfl) ?_
  have hO : OKP G h0 a (upd (upd (upd (upd (upd (upd (upd (upd (upd F 2 (nI sz)) 9 (nI at9)) 10 (nI dp)) 11 (nI sg)) 9 (nI (at9 + 1))) 2 (nI sz)) 9 (nI (at9 + 1))) 10 (nI dp)) 11 (nI sg)) R Z B J K w := hO.to rfl
  obtain ⟨_, qr10, hqr11⟩ := hO.2.1 23 _ (sg_23 G h0 a _ _ _ _ _)
  refine pn_V0 (G := G) (As := []) (rest := []) hx hb hml hown hq hE hX pX0_al hP hD hS hA hl.1 (((PE_all l G n).1) h0 a (upd (upd (upd (upd (upd F 2 (nI sz)) 9 (nI at9)) 10 (nI dp)) 11 (nI sg)) 9 (nI (at9 + 1))) R Z B J K w (at9 + 1) sz dp sg O g (by omega) (by omega) hdp (by omega) hwn how hO hl0) (gV pw_916 pw_917 pw_918 pw_796 pw_942) hV_X8_expression qr10 5 hqr11 rfl rfl rfl (Nat.le_of_ble_eq_true rfl) dX8_condition_8 ⟨(by show 0 + (2 * (sz - (at9 + 1)) + 20) ≤ (2 * (sz - at9) + 20); omega), (by show 0 + (11 * (2 * (sz - (at9 + 1)) + 20)) ≤ (11 * (2 * (sz - at9) + 20)); omega)⟩ ⟨(by show (40 * n + 40) + 1 ≤ (40 * n + 42); omega), (by show 8 + (3 + 11) + (1300 * n + 1300) ≤ (1300 * n + 1340); omega)⟩ (fun v9 u7 H locs hw8 hP hD hS => ?_) (fun ux ce9 q9 H9 locs9 hux hP9 hD9 hS9 hce hcv hcl => pb_out ux (ThQ.up (Thx.same (Thx.same (Thx.same (Thx.same (Thx.f Thx.rfl (by omega)) rfl) rfl) rfl) rfl) RhX.rfl hux) hnt hlocks hce hcv hcl hP9 hD9 hS9 (by show 0 + (2 * (sz - (at9 + 1)) + 20) ≤ (2 * (sz - at9) + 20); omega) (by show 0 + (11 * (2 * (sz - (at9 + 1)) + 20)) ≤ (11 * (2 * (sz - at9) + 20)); omega))
  obtain ⟨w, r12, K13, g14, at15, sg16, f17⟩ := u7
  obtain ⟨hw8, h18, h19, h20, hO⟩ := hw8
  have h18 : NwR K K13 g g14 r12 O (at9 + 1) (5 * (20 - dp) + 6 + (sg16 - sg)) := h18
  have h19 : (at9 + 1) + 1 ≤ at15 ∧ at15 ≤ sz := h19
  have h20 : sg ≤ sg16 ∧ sg16 ≤ 60 := h20
  obtain rfl : v9 = some (.ref r12) := hw8
  have hO : OKP G h0 a (upd (upd (upd (upd F 2 (nI sz)) 9 (nI at15)) 10 (nI dp)) 11 (nI sg16)) R Z (updA B 10 f17) J K13 w := hO.to rfl
  refine W.widen (k := (2 * (at15 - (at9 + 1)) - 1)) (n := (11 * (2 * (at15 - (at9 + 1)) - 1))) (by show 0 + (2 * (at15 - (at9 + 1)) - 1) ≤ (2 * (at15 - (at9 + 1)) - 1); omega) (by show 0 + (11 * (2 * (at15 - (at9 + 1)) - 1)) ≤ (11 * (2 * (at15 - (at9 + 1)) - 1)); omega) ?_
  refine W.eq (g2 := F0 m 11 ls [.ref r12]) rfl ?_
  refine lv_astore_n (lv' := [(1, .ref r12), (0, .ref (a 3))]) hx hb dX8_condition_11 rfl hl (by decide) rfl (fun ls hl => ?_)
  refine lv_aload_n hx hb dX8_condition_12 rfl (lv_at hl 1 rfl) ?_
  refine lv_bipush (v := 35) hx hb dX8_condition_13 (by decide) ?_
  have hO : OKW G h0 a (upd (upd (upd (upd (upd (upd (upd (upd F 2 (nI sz)) 9 (nI at9)) 10 (nI dp)) 11 (nI sg)) 9 (nI at15)) 11 (nI sg16)) 2 (nI sz)) 9 (nI at15)) R Z (updA B 10 f17) J K13.1 (fun q99 x99 => x99 = rep G a K13 q99) w := hO.to rfl
  obtain ⟨_, qr24, hqr25⟩ := hO.2.1 23 _ (sg_23 G h0 a _ _ _ _ _)
  refine pn_V0 (G := G) (As := [.int 35]) (rest := []) hx hb hml hown hq hE hX pX0_al hP hD hS hA hl.1 (P_take l G h0 a (upd (upd (upd (upd (upd (upd F 2 (nI sz)) 9 (nI at9)) 10 (nI dp)) 11 (nI sg)) 9 (nI at15)) 11 (nI sg16)) R Z (updA B 10 f17) J K13.1 (fun q99 x99 => x99 = rep G a K13 q99) w 35 at15 sz (by omega) (by omega) (by decide) hO hl0) (gV pw_793 pw_794 pw_795 pw_796 pw_781) hV_X8_take qr24 5 hqr25 rfl rfl rfl (Nat.le_of_ble_eq_true rfl) dX8_condition_15 ⟨(by show (2 * (at15 - (at9 + 1)) - 1) + 1 ≤ (2 * (sz - at9) + 20); omega), (by show (11 * (2 * (at15 - (at9 + 1)) - 1)) + 6 ≤ (11 * (2 * (sz - at9) + 20)); omega)⟩ ⟨(by show 7 + 1 ≤ (40 * n + 42); omega), (by show 8 + (2 + 11) + 122 ≤ (1300 * n + 1340); omega)⟩ (fun v23 u21 H locs hw22 hP hD hS => ?_) (fun ux ce9 q9 H9 locs9 hux hP9 hD9 hS9 hce hcv hcl => pb_out ux (ThQ.up (Thx.same (Thx.same (Thx.b (Thx.f (Thx.f Thx.rfl (by omega)) (by omega)) (by omega) (by decide)) rfl) rfl) RhX.rfl hux) hnt hlocks hce hcv hcl hP9 hD9 hS9 (by show (2 * (at15 - (at9 + 1)) - 1) + 1 ≤ (2 * (sz - at9) + 20); omega) (by show (11 * (2 * (at15 - (at9 + 1)) - 1)) + 6 ≤ (11 * (2 * (sz - at9) + 20)); omega))
  obtain ⟨w, _⟩ := u21
  obtain ⟨hw22, h26, hO⟩ := hw22
  have h26 : at15 + 1 ≤ sz := h26
  obtain rfl : v23 = some (.int (nI at15)) := hw22
  have hO : OKP G h0 a (upd (upd (upd (upd F 2 (nI sz)) 9 (nI (at15 + 1))) 10 (nI dp)) 11 (nI sg16)) R Z (updA B 10 f17) J K13 w := hO.to rfl
  refine W.widen (k := (2 * (at15 - (at9 + 1)) - 1)) (n := (11 * (2 * (at15 - (at9 + 1)) - 1))) (by show (2 * (at15 - (at9 + 1)) - 1) + 0 ≤ (2 * (at15 - (at9 + 1)) - 1); omega) (by show (11 * (2 * (at15 - (at9 + 1)) - 1)) + 0 ≤ (11 * (2 * (at15 - (at9 + 1)) - 1)); omega) ?_
  refine W.eq (g2 := F0 m 18 ls [.int (nI at15)]) rfl ?_
  refine lv_pop hx hb dX8_condition_18 rfl ?_
  refine lv_aload_n hx hb dX8_condition_19 rfl (lv_at hl 0 rfl) ?_
  refine W_size (fun hz1 hz2 => ?_)
  refine vx_ret ?_
  have hz27 : NwR K K13 g g14 r12 O (at9 + 1) (5 * (20 - dp) + 6 + (sg16 - sg)) := h18
  have hz28 : at9 + 3 ≤ (at15 + 1) ∧ (at15 + 1) ≤ sz := (by omega)
  have hz29 : sg ≤ sg16 ∧ sg16 ≤ 60 := (by omega)
  have hO : OKP G h0 a (upd (upd (upd (upd F 2 (nI sz)) 9 (nI (at15 + 1))) 10 (nI dp)) 11 (nI sg16)) R Z (updA B 10 f17) J K13 w := hO.to rfl
  refine W.widen (k := (2 * (sz - at9) + 20)) (n := (11 * (2 * (sz - at9) + 20))) (by omega) (by omega) ?_
  have hzz1 : H.size ≤ s.heap.size + ((2 * ((at15 + 1) - at9) - 5)) := (by have z : (2 * (at15 - (at9 + 1)) - 1) ≤ (2 * ((at15 + 1) - at9) - 5) := (by omega); omega)
  have hzz2 : hSl H ≤ hSl s.heap + ((11 * (2 * ((at15 + 1) - at9) - 5))) := (by have z : (11 * (2 * (at15 - (at9 + 1)) - 1)) ≤ (11 * (2 * ((at15 + 1) - at9) - 5)) := (by omega); omega)
  exact W.aret (v := .ref r12) hx hb hr (Or.inl ⟨_, rfl⟩) (Or.inr ⟨_, rfl⟩) (fun t99 ht99 hW99 => ⟨⟨_, (w, (r12, K13, g14, (at15 + 1), sg16, f17)), rfl, ⟨rfl, hz27, hz28, hz29, hO⟩, by rw [ht99]; exact hP, hD, by rw [ht99]; exact hzz1, by rw [ht99]; exact hzz2⟩, hS.F ht99⟩) hS.2.2 dX8_condition_20
theorem dX8_local_0 : decode cX8_local 0 = .ok (.aload_n 0, 1) := by decide +kernel
theorem dX8_local_1 : decode cX8_local 1 = .ok (.iconst 1, 1) := by decide +kernel
theorem dX8_local_2 : decode cX8_local 2 = .ok (.invokevirtual 132, 3) := by decide +kernel
theorem dX8_local_5 : decode cX8_local 5 = .ok (.istore_n 2, 1) := by decide +kernel
theorem dX8_local_6 : decode cX8_local 6 = .ok (.new 143, 3) := by decide +kernel
theorem dX8_local_9 : decode cX8_local 9 = .ok (.dup, 1) := by decide +kernel
theorem dX8_local_10 : decode cX8_local 10 = .ok (.bipush 22, 2) := by decide +kernel
theorem dX8_local_12 : decode cX8_local 12 = .ok (.aload_n 0, 1) := by decide +kernel
theorem dX8_local_13 : decode cX8_local 13 = .ok (.bipush 65, 2) := by decide +kernel
theorem dX8_local_15 : decode cX8_local 15 = .ok (.invokevirtual 53, 3) := by decide +kernel
theorem dX8_local_18 : decode cX8_local 18 = .ok (.iload_n 2, 1) := by decide +kernel
theorem dX8_local_19 : decode cX8_local 19 = .ok (.invokespecial 145, 3) := by decide +kernel
theorem dX8_local_22 : decode cX8_local 22 = .ok (.astore_n 3, 1) := by decide +kernel
theorem dX8_local_23 : decode cX8_local 23 = .ok (.iload_n 1, 1) := by decide +kernel
theorem dX8_local_24 : decode cX8_local 24 = .ok (.ifCond .eq 12, 3) := by decide +kernel
theorem dX8_local_36 : decode cX8_local 36 = .ok (.aload_n 0, 1) := by decide +kernel
theorem dX8_local_37 : decode cX8_local 37 = .ok (.bipush 43, 2) := by decide +kernel
theorem dX8_local_39 : decode cX8_local 39 = .ok (.invokevirtual 53, 3) := by decide +kernel
theorem dX8_local_42 : decode cX8_local 42 = .ok (.pop, 1) := by decide +kernel
theorem dX8_local_43 : decode cX8_local 43 = .ok (.aload_n 3, 1) := by decide +kernel
theorem dX8_local_44 : decode cX8_local 44 = .ok (.aload_n 0, 1) := by decide +kernel
theorem dX8_local_45 : decode cX8_local 45 = .ok (.invokevirtual 196, 3) := by decide +kernel
theorem dX8_local_48 : decode cX8_local 48 = .ok (.putfield 165, 3) := by decide +kernel
theorem dX8_local_51 : decode cX8_local 51 = .ok (.iload_n 1, 1) := by decide +kernel
theorem dX8_local_52 : decode cX8_local 52 = .ok (.ifCond .eq 10, 3) := by decide +kernel
theorem dX8_local_62 : decode cX8_local 62 = .ok (.aload_n 3, 1) := by decide +kernel
theorem dX8_local_63 : decode cX8_local 63 = .ok (.areturn, 1) := by decide +kernel
theorem dX8_local_55 : decode cX8_local 55 = .ok (.aload_n 0, 1) := by decide +kernel
theorem dX8_local_56 : decode cX8_local 56 = .ok (.bipush 38, 2) := by decide +kernel
theorem dX8_local_58 : decode cX8_local 58 = .ok (.invokevirtual 53, 3) := by decide +kernel
theorem dX8_local_61 : decode cX8_local 61 = .ok (.pop, 1) := by decide +kernel
theorem dX8_local_27 : decode cX8_local 27 = .ok (.aload_n 0, 1) := by decide +kernel
theorem dX8_local_28 : decode cX8_local 28 = .ok (.bipush 43, 2) := by decide +kernel
theorem dX8_local_30 : decode cX8_local 30 = .ok (.invokevirtual 36, 3) := by decide +kernel
theorem dX8_local_33 : decode cX8_local 33 = .ok (.ifCond .eq 18, 3) := by decide +kernel
set_option maxHeartbeats 20000000 in
set_option maxRecDepth 100000 in
theorem P_lokal (l : Launch) (G : pT) (h0 : Nat) (a : Nat → Nat) (F : Nat → Int32) (R : Nat → Value) (Z : Int64) (B : Nat → Nat → Int32) (J : Nat → Nat → Int64) (K : PK) (w : va_W) (x : Nat) (n : Nat) (at9 : Nat) (sz : Nat) (dp : Nat) (sg : Nat) (O : Nat) (g : Nat → Nat → Nat) (hsz : sz ≤ 5000) (hat : at9 ≤ sz) (hdp : dp + n = 20) (hsg : sg ≤ 60) (hwn : WN K g) (how : ∀ o : Nat, O = o + 1 → K.1 o = 1 ∧ g 0 o = 0 ∧ ¬ K.2.1 0 o = 32) (hx1x : x ≤ 1) (hO : OKP G h0 a (upd (upd (upd (upd F 2 (nI sz)) 9 (nI at9)) 10 (nI dp)) 11 (nI sg)) R Z B J K w) (hl0 : l.stackTraces = false) : PBn l G pX0 yX8_local cX8_local 4 (some (.object "JinjaTongue$Node")) ({ frames := (40 * n + 44), cells := (2 * (sz - at9) + 20), slots := (11 * (2 * (sz - at9) + 20)), locals := (1300 * n + 1400) }) [.ref (a 3), .int (nI x)] w (fun (v : Option Value) (u : va_W × (Nat × PK × (Nat → Nat → Nat) × Nat × Nat × (Nat → Int32) × Nat)) => v = some (.ref u.2.1) ∧ (NwR K u.2.2.1 g u.2.2.2.1 u.2.1 O u.2.2.2.2.2.2.2 (168)) ∧ (at9 + 2 ≤ u.2.2.2.2.1 ∧ u.2.2.2.2.1 ≤ sz) ∧ (sg ≤ u.2.2.2.2.2.1 ∧ u.2.2.2.2.2.1 ≤ 60) ∧ (rS u.2.2.2.2.2.2.2 = at9 ∧ rE u.2.2.2.2.2.2.2 ≤ u.2.2.2.2.1 ∧ rS u.2.2.2.2.2.2.2 ≤ rE u.2.2.2.2.2.2.2) ∧ (OKP G h0 a (upd (upd (upd (upd F 2 (nI sz)) 9 (nI u.2.2.2.2.1)) 10 (nI dp)) 11 (nI u.2.2.2.2.2.1)) R Z (updA B 10 u.2.2.2.2.2.2.1) J u.2.2.1 u.1)) (fun u => u.1) (fun (u : va_W × (Nat × PK × (Nat → Nat → Nat) × Nat × Nat × (Nat → Int32) × Nat)) => (2 * (u.2.2.2.2.1 - at9) - 3)) (fun (u : va_W × (Nat × PK × (Nat → Nat → Nat) × Nat × Nat × (Nat → Int32) × Nat)) => (11 * (2 * (u.2.2.2.2.1 - at9) - 3))) (fun (u : va_W × (Nat → Int32) × (Nat → Value) × (Nat → Nat → Int32)) => ThQ G h0 a (upd (upd (upd (upd F 2 (nI sz)) 9 (nI at9)) 10 (nI dp)) 11 (nI sg)) R Z B J u) (fun u => u.1) := by
  intro sz
  refine vx_ofW (cc := cX8_local) (maxL := 4) (ret := (some (.object "JinjaTongue$Node"))) (by decide) rfl ?_
  intro p e s m args below meth c s₁ B9 hml hnt hv
  obtain ⟨rfl, hsz, hP, hD0, hE, hX⟩ := hv
  have hx := B9.exec
  have hb := B9.bytes
  have hr := B9.returns
  have hts := atoms_spec (ws := Cond.code yX8_local cX8_local 4 (some (.object "JinjaTongue$Node")) :: pw) B9.pre
  have hq : ∀ w ∈ pw, w.before _ s = true := fun w h => hts w (List.mem_cons_of_mem _ h)
  have hown : s.vm.findClass RX8 = some m.cls := findClass_of_methodNamed B9.named
  have hlocks := B9.notSynchronized
  subst hsz
  have hD := hD0.self (sz := s.heap.size)
  have hA : ∀ q : Nat, s.heap.size ≤ q → va_A w s.heap.size q := fun q h => Or.inr h
  generalize va_A w s.heap.size = A at hD hE hA ⊢
  have hS : va_S A s.heap s.heap [] := va_S.rf
  have hl := lv_entry ([.ref (a 3), .int (nI x)]) (n := 4) (Nat.le_of_ble_eq_true rfl)
  rw [lg_entry_eq]
  generalize (lg_sl ([.ref (a 3), .int (nI x)]) ++ List.replicate (4 - (lg_sl ([.ref (a 3), .int (nI x)])).length) Slot.unset).toArray = ls at hl ⊢
  have hl : lv_has ls 4 [(0, .ref (a 3)), (1, .int (nI x))] := hl
  have hns0 : NwS K K g g := NwS.nil hwn
  refine lv_aload_n hx hb dX8_local_0 rfl (lv_at hl 0 rfl) ?_
  refine lv_iconst (v := 1) hx hb dX8_local_1 (by decide) ?_
  have hO : OKW G h0 a (upd (upd (upd (upd (upd (upd F 2 (nI sz)) 9 (nI at9)) 10 (nI dp)) 11 (nI sg)) 2 (nI sz)) 9 (nI at9)) R Z B J K.1 (fun q99 x99 => x99 = rep G a K q99) w := hO.to rfl
  obtain ⟨_, qr4, hqr5⟩ := hO.2.1 23 _ (sg_23 G h0 a _ _ _ _ _)
  refine pn_V0 (G := G) (As := [.int 1]) (rest := []) hx hb hml hown hq hE hX pX0_al hP hD hS hA hl.1 (P_takeType l G h0 a (upd (upd (upd (upd F 2 (nI sz)) 9 (nI at9)) 10 (nI dp)) 11 (nI sg)) R Z B J K.1 (fun q99 x99 => x99 = rep G a K q99) w 1 at9 sz (by omega) (by omega) hO hl0) (gV pw_825 pw_826 pw_827 pw_796 pw_821) hV_X8_takeType qr4 5 hqr5 rfl rfl rfl (Nat.le_of_ble_eq_true rfl) dX8_local_2 ⟨(by show 0 + 1 ≤ (2 * (sz - at9) + 20); omega), (by show 0 + 6 ≤ (11 * (2 * (sz - at9) + 20)); omega)⟩ ⟨(by show 7 + 1 ≤ (40 * n + 44); omega), (by show 8 + (4 + 11) + 122 ≤ (1300 * n + 1400); omega)⟩ (fun v3 u1 H locs hw2 hP hD hS => ?_) (fun ux ce9 q9 H9 locs9 hux hP9 hD9 hS9 hce hcv hcl => pb_out ux (ThQ.up (Thx.same (Thx.same Thx.rfl rfl) rfl) RhX.rfl hux) hnt hlocks hce hcv hcl hP9 hD9 hS9 (by show 0 + 1 ≤ (2 * (sz - at9) + 20); omega) (by show 0 + 6 ≤ (11 * (2 * (sz - at9) + 20)); omega))
  obtain ⟨w, at6, f7⟩ := u1
  obtain ⟨hw2, h8, hO⟩ := hw2
  have h8 : at9 + 1 ≤ at6 ∧ at6 ≤ sz := h8
  obtain rfl : v3 = some (.int (nI at9)) := hw2
  have hO : OKP G h0 a (upd (upd (upd (upd F 2 (nI sz)) 9 (nI at6)) 10 (nI dp)) 11 (nI sg)) R Z (updA B 10 f7) J K w := hO.to rfl
  refine W.widen (k := 0) (n := 0) (by show 0 + 0 ≤ 0; omega) (by show 0 + 0 ≤ 0; omega) ?_
  refine W.eq (g2 := F0 m 5 ls [.int (nI at9)]) rfl ?_
  refine lv_istore_n (lv' := [(2, .int (nI at9)), (0, .ref (a 3)), (1, .int (nI x))]) hx hb dX8_local_5 rfl hl (by decide) rfl (fun ls hl => ?_)
  refine p_new (s9 := 1) (C := RX7) (T := TX7) (N := 11) (ci := 13) (fs := [.int 0, .int 0, .int 0, .int 0, .int 0, .int 0, .null, .null, .null, .null, .null]) hx hb hq pin_wsX70 tyX7 tyX7_ok hown (hq _ pw_870) (hq _ pw_871) (hq _ pw_872) hE hP hD hS hA hO rfl nw_X7 (by decide) (fun q => by rw [rep_1 (show (kN K q 1 0).1 q = 1 from if_pos rfl)]; unfold fsNode kN; simp only [if_true]; rfl) (by show 0 + 1 ≤ (2 * (sz - at9) + 20); omega) (by show 0 + 11 ≤ (11 * (2 * (sz - at9) + 20)); omega) dX8_local_6 (fun q9 H w hq10 hP hD hS hO => ?_)
  have hf11 : (kN K q9 1 0).1 q9 = 1 := if_pos rfl
  refine W.widen (k := 1) (n := 11) (by show 0 + 1 ≤ 1; omega) (by show 0 + 11 ≤ 11; omega) ?_
  refine lv_dup hx hb dX8_local_9 rfl ?_
  refine lv_bipush (v := 22) hx hb dX8_local_10 (by decide) ?_
  refine lv_aload_n hx hb dX8_local_12 rfl (lv_at hl 1 rfl) ?_
  refine lv_bipush (v := 65) hx hb dX8_local_13 (by decide) ?_
  have hO : OKW G h0 a (upd (upd (upd (upd (upd (upd (upd F 2 (nI sz)) 9 (nI at9)) 10 (nI dp)) 11 (nI sg)) 9 (nI at6)) 2 (nI sz)) 9 (nI at6)) R Z (updA B 10 f7) J ((kN K q9 1 0).1) (fun q99 x99 => x99 = rep G a (kN K q9 1 0) q99) w := hO.to rfl
  obtain ⟨_, qr15, hqr16⟩ := hO.2.1 23 _ (sg_23 G h0 a _ _ _ _ _)
  refine pn_V0 (G := G) (As := [.int 65]) (rest := [.int 22, .ref q9, .ref q9]) hx hb hml hown hq hE hX pX0_al hP hD hS hA hl.1 (P_take l G h0 a (upd (upd (upd (upd (upd F 2 (nI sz)) 9 (nI at9)) 10 (nI dp)) 11 (nI sg)) 9 (nI at6)) R Z (updA B 10 f7) J ((kN K q9 1 0).1) (fun q99 x99 => x99 = rep G a (kN K q9 1 0) q99) w 65 at6 sz (by omega) (by omega) (by decide) hO hl0) (gV pw_793 pw_794 pw_795 pw_796 pw_781) hV_X8_take qr15 5 hqr16 rfl rfl rfl (Nat.le_of_ble_eq_true rfl) dX8_local_15 ⟨(by show 1 + 1 ≤ (2 * (sz - at9) + 20); omega), (by show 11 + 6 ≤ (11 * (2 * (sz - at9) + 20)); omega)⟩ ⟨(by show 7 + 1 ≤ (40 * n + 44); omega), (by show 8 + (2 + 11) + 122 ≤ (1300 * n + 1400); omega)⟩ (fun v14 u12 H locs hw13 hP hD hS => ?_) (fun ux ce9 q9 H9 locs9 hux hP9 hD9 hS9 hce hcv hcl => pb_out ux (ThQ.up (Thx.same (Thx.same (Thx.b (Thx.f Thx.rfl (by omega)) (by omega) (by decide)) rfl) rfl) RhX.rfl hux) hnt hlocks hce hcv hcl hP9 hD9 hS9 (by show 1 + 1 ≤ (2 * (sz - at9) + 20); omega) (by show 11 + 6 ≤ (11 * (2 * (sz - at9) + 20)); omega))
  obtain ⟨w, _⟩ := u12
  obtain ⟨hw13, h17, hO⟩ := hw13
  have h17 : at6 + 1 ≤ sz := h17
  obtain rfl : v14 = some (.int (nI at6)) := hw13
  have hO : OKP G h0 a (upd (upd (upd (upd F 2 (nI sz)) 9 (nI (at6 + 1))) 10 (nI dp)) 11 (nI sg)) R Z (updA B 10 f7) J (kN K q9 1 0) w := hO.to rfl
  refine W.widen (k := 1) (n := 11) (by show 1 + 0 ≤ 1; omega) (by show 11 + 0 ≤ 11; omega) ?_
  refine W.eq (g2 := F0 m 18 ls [.int (nI at6), .int 22, .ref q9, .ref q9]) rfl ?_
  refine lv_iload_n hx hb dX8_local_18 rfl (lv_at hl 0 rfl) ?_
  have hO : OKP G h0 a (upd (upd (upd (upd F 2 (nI sz)) 9 (nI (at6 + 1))) 10 (nI dp)) 11 (nI sg)) R Z (updA B 10 f7) J (kN K q9 1 0) w := hO.to rfl
  obtain ⟨qr21, hqr22⟩ := p_recv hO (by rw [hf11]; decide) (rep_1 hf11)
  refine pc_I0 (G := G) (As := [.int 22, .int (nI at6), .int (nI at9)]) (rest := [.ref q9]) hx hb hml hown hq hE hX pX0_al hP hD hS hA hl.1 (N_init l G h0 a (upd (upd (upd (upd F 2 (nI sz)) 9 (nI (at6 + 1))) 10 (nI dp)) 11 (nI sg)) R Z (updA B 10 f7) J (kN K q9 1 0) w q9 22 (nI at6) (nI at9) (by omega) hO) pw_874 pw_875 pw_872 pw_765 rfl hS_X7_init rfl (Nat.le_of_ble_eq_true rfl) dX8_local_19 ⟨(by show 1 + 0 ≤ (2 * (sz - at9) + 20); omega), (by show 11 + 0 ≤ (11 * (2 * (sz - at9) + 20)); omega)⟩ ⟨(by show 2 + 1 ≤ (40 * n + 44); omega), (by show 8 + (4 + 11) + 60 ≤ (1300 * n + 1400); omega)⟩ (fun v20 u18 H locs hw19 hP hD hS => ?_)
  obtain ⟨w, _⟩ := u18
  obtain ⟨hw19, hO⟩ := hw19
  obtain rfl : v20 = none := hw19
  have hf23 : (kI (kI (kI (kN K q9 1 0) 0 q9 22) 1 q9 (nI at6)) 2 q9 (nI at9)).1 q9 = 1 := hf11
  have hO : OKP G h0 a (upd (upd (upd (upd F 2 (nI sz)) 9 (nI (at6 + 1))) 10 (nI dp)) 11 (nI sg)) R Z (updA B 10 f7) J (kI (kI (kI (kN K q9 1 0) 0 q9 22) 1 q9 (nI at6)) 2 q9 (nI at9)) w := hO.to rfl
  refine W.widen (k := 1) (n := 11) (by show 1 + 0 ≤ 1; omega) (by show 11 + 0 ≤ 11; omega) ?_
  refine W.eq (g2 := F0 m 22 ls [.ref q9]) rfl ?_
  change OKP G h0 a (upd (upd (upd (upd F 2 (nI sz)) 9 (nI (at6 + 1))) 10 (nI dp)) 11 (nI sg)) R Z (updA B 10 f7) J (mkN K q9 22 (nI at6) (nI at9)) w at hO
  obtain ⟨K24, hK25⟩ : ∃ z : PK, z = (mkN K q9 22 (nI at6) (nI at9)) := ⟨_, rfl⟩
  rw [← hK25] at hO
  have hf26 : K24.1 q9 = 1 := by rw [hK25]; exact mkN_T
  have hf27 : K24.2.1 0 q9 = 22 := by rw [hK25]; exact mkN_0
  have hf28 : K24.2.1 2 q9 = (nI at9) := by rw [hK25]; exact mkN_2
  have hf29 : K24.2.2.1 0 q9 = none := by rw [hK25]; exact mkN_C
  have hf30 : K24.2.2.1 1 q9 = none := by rw [hK25]; exact mkN_C
  have hf31 : K24.2.2.1 2 q9 = none := by rw [hK25]; exact mkN_C
  have hf32 : K24.2.2.1 3 q9 = none := by rw [hK25]; exact mkN_C
  have hf33 : K24.2.2.1 4 q9 = none := by rw [hK25]; exact mkN_C
  have hns34 : NwS K K24 g (gset g q9 0 0 0) := by rw [hK25]; exact NwS.node hns0 hq10
  have hq35 : K.1 q9 = 0 := old_T hns0.2.1 hq10
  have hg36 : (gset g q9 0 0 0) 0 q9 = 0 := gset_0
  have hno37 : NoO K24 (gset g q9 0 0 0) q9 := by rw [hK25]; exact NoO.new hns0.1 hq10
  refine lv_astore_n (lv' := [(3, .ref q9), (2, .int (nI at9)), (0, .ref (a 3)), (1, .int (nI x))]) hx hb dX8_local_22 rfl hl (by decide) rfl (fun ls hl => ?_)
  refine lv_iload_n hx hb dX8_local_23 rfl (lv_at hl 3 rfl) ?_
  refine lv_if_eq (tgt := 36) hx hb dX8_local_24 (by decide) (fun c38 => ?_) (fun c38 => ?_)
  · have n39 : x = 0 := (nI_eq (a := x) (b := 0) (by omega) (by omega)).mp c38
    refine lv_aload_n hx hb dX8_local_36 rfl (lv_at hl 2 rfl) ?_
    refine lv_bipush (v := 43) hx hb dX8_local_37 (by decide) ?_
    have hO : OKW G h0 a (upd (upd (upd (upd (upd (upd (upd F 2 (nI sz)) 9 (nI at9)) 10 (nI dp)) 11 (nI sg)) 9 (nI (at6 + 1))) 2 (nI sz)) 9 (nI (at6 + 1))) R Z (updA B 10 f7) J K24.1 (fun q99 x99 => x99 = rep G a K24 q99) w := hO.to rfl
    obtain ⟨_, qr43, hqr44⟩ := hO.2.1 23 _ (sg_23 G h0 a _ _ _ _ _)
    refine pn_V0 (G := G) (As := [.int 43]) (rest := []) hx hb hml hown hq hE hX pX0_al hP hD hS hA hl.1 (P_take l G h0 a (upd (upd (upd (upd (upd F 2 (nI sz)) 9 (nI at9)) 10 (nI dp)) 11 (nI sg)) 9 (nI (at6 + 1))) R Z (updA B 10 f7) J K24.1 (fun q99 x99 => x99 = rep G a K24 q99) w 43 (at6 + 1) sz (by omega) (by omega) (by decide) hO hl0) (gV pw_793 pw_794 pw_795 pw_796 pw_781) hV_X8_take qr43 5 hqr44 rfl rfl rfl (Nat.le_of_ble_eq_true rfl) dX8_local_39 ⟨(by show 1 + 1 ≤ (2 * (sz - at9) + 20); omega), (by show 11 + 6 ≤ (11 * (2 * (sz - at9) + 20)); omega)⟩ ⟨(by show 7 + 1 ≤ (40 * n + 44); omega), (by show 8 + (2 + 11) + 122 ≤ (1300 * n + 1400); omega)⟩ (fun v42 u40 H locs hw41 hP hD hS => ?_) (fun ux ce9 q9 H9 locs9 hux hP9 hD9 hS9 hce hcv hcl => pb_out ux (ThQ.up (Thx.same (Thx.same (Thx.b (Thx.f Thx.rfl (by omega)) (by omega) (by decide)) rfl) rfl) RhX.rfl hux) hnt hlocks hce hcv hcl hP9 hD9 hS9 (by show 1 + 1 ≤ (2 * (sz - at9) + 20); omega) (by show 11 + 6 ≤ (11 * (2 * (sz - at9) + 20)); omega))
    obtain ⟨w, _⟩ := u40
    obtain ⟨hw41, h45, hO⟩ := hw41
    have h45 : (at6 + 1) + 1 ≤ sz := h45
    obtain rfl : v42 = some (.int (nI (at6 + 1))) := hw41
    have hO : OKP G h0 a (upd (upd (upd (upd F 2 (nI sz)) 9 (nI ((at6 + 1) + 1))) 10 (nI dp)) 11 (nI sg)) R Z (updA B 10 f7) J K24 w := hO.to rfl
    refine W.widen (k := 1) (n := 11) (by show 1 + 0 ≤ 1; omega) (by show 11 + 0 ≤ 11; omega) ?_
    refine W.eq (g2 := F0 m 42 ls [.int (nI (at6 + 1))]) rfl ?_
    refine lv_pop hx hb dX8_local_42 rfl ?_
    refine lv_aload_n hx hb dX8_local_43 rfl (lv_at hl 0 rfl) ?_
    refine lv_aload_n hx hb dX8_local_44 rfl (lv_at hl 2 rfl) ?_
    have hO : OKP G h0 a (upd (upd (upd (upd (upd (upd (upd (upd (upd F 2 (nI sz)) 9 (nI at9)) 10 (nI dp)) 11 (nI sg)) 9 (nI ((at6 + 1) + 1))) 2 (nI sz)) 9 (nI ((at6 + 1) + 1))) 10 (nI dp)) 11 (nI sg)) R Z (updA B 10 f7) J K24 w := hO.to rfl
    obtain ⟨_, qr49, hqr50⟩ := hO.2.1 23 _ (sg_23 G h0 a _ _ _ _ _)
    refine pn_V0 (G := G) (As := []) (rest := [.ref q9]) hx hb hml hown hq hE hX pX0_al hP hD hS hA hl.1 (((PE_all l G n).1) h0 a (upd (upd (upd (upd (upd F 2 (nI sz)) 9 (nI at9)) 10 (nI dp)) 11 (nI sg)) 9 (nI ((at6 + 1) + 1))) R Z (updA B 10 f7) J K24 w ((at6 + 1) + 1) sz dp sg 0 (gset g q9 0 0 0) (by omega) (by omega) hdp (by omega) hns34.1 (fun o9 h9 => absurd h9 (by omega)) hO hl0) (gV pw_916 pw_917 pw_918 pw_796 pw_942) hV_X8_expression qr49 5 hqr50 rfl rfl rfl (Nat.le_of_ble_eq_true rfl) dX8_local_45 ⟨(by show 1 + (2 * (sz - ((at6 + 1) + 1)) + 20) ≤ (2 * (sz - at9) + 20); omega), (by show 11 + (11 * (2 * (sz - ((at6 + 1) + 1)) + 20)) ≤ (11 * (2 * (sz - at9) + 20)); omega)⟩ ⟨(by show (40 * n + 40) + 1 ≤ (40 * n + 44); omega), (by show 8 + (3 + 11) + (1300 * n + 1300) ≤ (1300 * n + 1400); omega)⟩ (fun v48 u46 H locs hw47 hP hD hS => ?_) (fun ux ce9 q9 H9 locs9 hux hP9 hD9 hS9 hce hcv hcl => pb_out ux (ThQ.up (Thx.same (Thx.same (Thx.same (Thx.same (Thx.b (Thx.f Thx.rfl (by omega)) (by omega) (by decide)) rfl) rfl) rfl) rfl) RhX.rfl hux) hnt hlocks hce hcv hcl hP9 hD9 hS9 (by show 1 + (2 * (sz - ((at6 + 1) + 1)) + 20) ≤ (2 * (sz - at9) + 20); omega) (by show 11 + (11 * (2 * (sz - ((at6 + 1) + 1)) + 20)) ≤ (11 * (2 * (sz - at9) + 20)); omega))
    obtain ⟨w, r51, K52, g53, at54, sg55, f56⟩ := u46
    obtain ⟨hw47, h57, h58, h59, hO⟩ := hw47
    have h57 : NwR K24 K52 (gset g q9 0 0 0) g53 r51 0 ((at6 + 1) + 1) (5 * (20 - dp) + 6 + (sg55 - sg)) := h57
    have h58 : ((at6 + 1) + 1) + 1 ≤ at54 ∧ at54 ≤ sz := h58
    have h59 : sg ≤ sg55 ∧ sg55 ≤ 60 := h59
    obtain rfl : v48 = some (.ref r51) := hw47
    have hf60 : K52.1 q9 = 1 := (((h57).2.1.1 q9 (by rw [hf26]; decide)).1).trans hf26
    have hf61 : K52.2.1 0 q9 = 22 := (((h57).2.1.1 q9 (by rw [hf26]; decide)).2.1 0).trans hf27
    have hf62 : K52.2.1 2 q9 = (nI at9) := (((h57).2.1.1 q9 (by rw [hf26]; decide)).2.1 2).trans hf28
    have hf63 : K52.2.2.1 0 q9 = none := (((h57).2.1.1 q9 (by rw [hf26]; decide)).2.2.1 0).trans hf29
    have hf64 : K52.2.2.1 1 q9 = none := (((h57).2.1.1 q9 (by rw [hf26]; decide)).2.2.1 1).trans hf30
    have hf65 : K52.2.2.1 2 q9 = none := (((h57).2.1.1 q9 (by rw [hf26]; decide)).2.2.1 2).trans hf31
    have hf66 : K52.2.2.1 3 q9 = none := (((h57).2.1.1 q9 (by rw [hf26]; decide)).2.2.1 3).trans hf32
    have hf67 : K52.2.2.1 4 q9 = none := (((h57).2.1.1 q9 (by rw [hf26]; decide)).2.2.1 4).trans hf33
    have hO : OKP G h0 a (upd (upd (upd (upd F 2 (nI sz)) 9 (nI at54)) 10 (nI dp)) 11 (nI sg55)) R Z (updA B 10 f56) J K52 w := hO.to rfl
    refine W.widen (k := (1 + (2 * (at54 - ((at6 + 1) + 1)) - 1))) (n := (11 + (11 * (2 * (at54 - ((at6 + 1) + 1)) - 1)))) (by show 1 + (2 * (at54 - ((at6 + 1) + 1)) - 1) ≤ (1 + (2 * (at54 - ((at6 + 1) + 1)) - 1)); omega) (by show 11 + (11 * (2 * (at54 - ((at6 + 1) + 1)) - 1)) ≤ (11 + (11 * (2 * (at54 - ((at6 + 1) + 1)) - 1))); omega) ?_
    refine W.eq (g2 := F0 m 48 ls [.ref r51, .ref q9]) rfl ?_
    have hns68 : NwS K K52 g g53 := NwS.call hns34 h57 (fun o9 h9 => absurd h9 (by omega))
    have hf69 : K52.1 r51 = 1 := h57.2.2.1.2.1
    have hg70 : g53 0 q9 = 0 := (h57.2.1.2 q9 (by rw [hf26]; decide) 0).trans hg36
    have hno71 : NoO K52 g53 q9 := NoO.call hno37 h57 hf26 (by omega)
    have hgy72 := h57.2.2.1
    have hgy72a := hgy72.2.2.1
    have hgy72b := hgy72.2.2.2.1
    refine p_put (v := .ref r51) (ty := (.object "JinjaTongue$Node")) (C := RX7) (Tc := TX7) (N := 11) (ci := 13) (K' := (kC K52 0 q9 (some r51))) hx hb hq pin_wsX70 tyX7 tyX7_ok nmX7 hown hE hP hD hS hO (by rw [hf60]; decide) (rep_1 hf60) rfl 6 (by decide) (hq _ pw_938) (fun _ h9 => h9) rfl (by decide +kernel) rfl rfl (Nat.le_of_ble_eq_true rfl) rfl (by rw [rep_1 (show (kC K52 0 q9 (some r51)).1 q9 = 1 from hf60), pc_0] <;> rfl) (fun p9 hp9 => rep_kC hp9) dX8_local_48 (fun H locs w hP hD hS hO => ?_)
    obtain ⟨K73, hK74⟩ : ∃ z : PK, z = (kC K52 0 q9 (some r51)) := ⟨_, rfl⟩
    rw [← hK74] at hO
    have hf75 : K73.1 q9 = 1 := (by rw [hK74]; exact hf60)
    have hf76 : K73.2.1 0 q9 = 22 := (by rw [hK74]; exact hf61)
    have hf77 : K73.2.1 2 q9 = (nI at9) := (by rw [hK74]; exact hf62)
    have hf78 : K73.2.2.1 1 q9 = none := (by rw [hK74]; exact (kC_of (by decide)).trans hf64)
    have hf79 : K73.2.2.1 2 q9 = none := (by rw [hK74]; exact (kC_of (by decide)).trans hf65)
    have hf80 : K73.2.2.1 3 q9 = none := (by rw [hK74]; exact (kC_of (by decide)).trans hf66)
    have hf81 : K73.2.2.1 4 q9 = none := (by rw [hK74]; exact (kC_of (by decide)).trans hf67)
    have hf82 : K73.1 r51 = 1 := (by rw [hK74]; exact hf69)
    have hf83 : K73.2.2.1 0 q9 = some r51 := by rw [hK74]; exact kC_eq
    have hns84 : NwS K K73 g g53 := by rw [hK74]; exact NwS.put hns68 hq35 hg70
    have hno85 : NoO K73 g53 q9 := by rw [hK74]; exact hno71
    refine lv_iload_n hx hb dX8_local_51 rfl (lv_at hl 3 rfl) ?_
    refine lv_if_eq (tgt := 62) hx hb dX8_local_52 (by decide) (fun c86 => ?_) (fun c86 => ?_)
    · have n87 : x = 0 := (nI_eq (a := x) (b := 0) (by omega) (by omega)).mp c86
      refine lv_aload_n hx hb dX8_local_62 rfl (lv_at hl 0 rfl) ?_
      refine W_size (fun hz1 hz2 => ?_)
      refine vx_ret ?_
      obtain ⟨k9, hkI, hkS, hkE, hkM, hkN⟩ : ∃ z : Nat, Itv z ∧ rS z = at9 ∧ rE z = at54 ∧ rM z = at54 ∧ rN z = at54 := ⟨rk at9 at54 at54 at54, Itv.of (by omega), rS_rk (by omega), rE_rk (by omega), rM_rk (by omega), rN_rk (by omega)⟩
      have hkid : ∀ f9 y9 : Nat, f9 ≤ 3 → K73.2.2.1 f9 q9 = some y9 → K73.1 y9 = 1 ∧ 1 ≤ g53 0 y9 ∧ g53 0 y9 < 168 := by
        intro f9 y9 hf9 hy9
        rcases (show f9 = 0 ∨ f9 = 1 ∨ f9 = 2 ∨ f9 = 3 by omega) with rfl | rfl | rfl | rfl
        · rw [hf83] at hy9; cases hy9; exact ⟨hf82, (by omega), by omega⟩
        · rw [hf78] at hy9; cases hy9
        · rw [hf79] at hy9; cases hy9
        · rw [hf80] at hy9; cases hy9
      have hdn := NwS.done1I (q := q9) (L := 168) (O := O) (k := k9) hns84 hq35 hf75 hg70 (by omega) hkI (by rw [hf76]; exact ⟨(fun z => absurd z (by decide)), (fun z => absurd z (by decide)), (fun z => absurd z (by decide)), (fun z => absurd z (by decide)), (fun z => absurd z (by decide))⟩) (fun f9 z => by rw [hf76] at z; rcases z with ⟨z, _⟩ | ⟨z | z | z, _⟩ <;> exact absurd z (by decide)) hkid hf81 hno85 (fun f9 x9 _ _ => Kch.no (by rw [hf76]; decide)) how
      have hz88 : NwR K K73 g (gset g53 q9 168 O k9) q9 O k9 (168) := hdn
      have hz89 : at9 + 2 ≤ at54 ∧ at54 ≤ sz := (by omega)
      have hz90 : sg ≤ sg55 ∧ sg55 ≤ 60 := (by omega)
      have hz91 : rS k9 = at9 ∧ rE k9 ≤ at54 ∧ rS k9 ≤ rE k9 := (by omega)
      have hO : OKP G h0 a (upd (upd (upd (upd F 2 (nI sz)) 9 (nI at54)) 10 (nI dp)) 11 (nI sg55)) R Z (updA B 10 f56) J K73 w := hO.to rfl
      refine W.widen (k := (2 * (sz - at9) + 20)) (n := (11 * (2 * (sz - at9) + 20))) (by omega) (by omega) ?_
      have hzz1 : H.size ≤ s.heap.size + ((2 * (at54 - at9) - 3)) := (by have z : (1 + (2 * (at54 - ((at6 + 1) + 1)) - 1)) ≤ (2 * (at54 - at9) - 3) := (by omega); omega)
      have hzz2 : hSl H ≤ hSl s.heap + ((11 * (2 * (at54 - at9) - 3))) := (by have z : (11 + (11 * (2 * (at54 - ((at6 + 1) + 1)) - 1))) ≤ (11 * (2 * (at54 - at9) - 3)) := (by omega); omega)
      exact W.aret (v := .ref q9) hx hb hr (Or.inl ⟨_, rfl⟩) (Or.inr ⟨_, rfl⟩) (fun t99 ht99 hW99 => ⟨⟨_, (w, (q9, K73, (gset g53 q9 168 O k9), at54, sg55, f56, k9)), rfl, ⟨rfl, hz88, hz89, hz90, hz91, hO⟩, by rw [ht99]; exact hP, hD, by rw [ht99]; exact hzz1, by rw [ht99]; exact hzz2⟩, hS.F ht99⟩) hS.2.2 dX8_local_63
    · have n92 : ¬ (x = 0) := fun h9 => c86 ((nI_eq (a := x) (b := 0) (by omega) (by omega)).mpr h9)
      refine lv_aload_n hx hb dX8_local_55 rfl (lv_at hl 2 rfl) ?_
      refine lv_bipush (v := 38) hx hb dX8_local_56 (by decide) ?_
      have hO : OKW G h0 a (upd (upd (upd (upd (upd (upd (upd (upd F 2 (nI sz)) 9 (nI at9)) 10 (nI dp)) 11 (nI sg)) 9 (nI at54)) 11 (nI sg55)) 2 (nI sz)) 9 (nI at54)) R Z (updA B 10 f56) J K73.1 (fun q99 x99 => x99 = rep G a K73 q99) w := hO.to rfl
      obtain ⟨_, qr96, hqr97⟩ := hO.2.1 23 _ (sg_23 G h0 a _ _ _ _ _)
      refine pn_V0 (G := G) (As := [.int 38]) (rest := []) hx hb hml hown hq hE hX pX0_al hP hD hS hA hl.1 (P_take l G h0 a (upd (upd (upd (upd (upd (upd F 2 (nI sz)) 9 (nI at9)) 10 (nI dp)) 11 (nI sg)) 9 (nI at54)) 11 (nI sg55)) R Z (updA B 10 f56) J K73.1 (fun q99 x99 => x99 = rep G a K73 q99) w 38 at54 sz (by omega) (by omega) (by decide) hO hl0) (gV pw_793 pw_794 pw_795 pw_796 pw_781) hV_X8_take qr96 5 hqr97 rfl rfl rfl (Nat.le_of_ble_eq_true rfl) dX8_local_58 ⟨(by show (1 + (2 * (at54 - ((at6 + 1) + 1)) - 1)) + 1 ≤ (2 * (sz - at9) + 20); omega), (by show (11 + (11 * (2 * (at54 - ((at6 + 1) + 1)) - 1))) + 6 ≤ (11 * (2 * (sz - at9) + 20)); omega)⟩ ⟨(by show 7 + 1 ≤ (40 * n + 44); omega), (by show 8 + (2 + 11) + 122 ≤ (1300 * n + 1400); omega)⟩ (fun v95 u93 H locs hw94 hP hD hS => ?_) (fun ux ce9 q9 H9 locs9 hux hP9 hD9 hS9 hce hcv hcl => pb_out ux (ThQ.up (Thx.same (Thx.same (Thx.b (Thx.f (Thx.f Thx.rfl (by omega)) (by omega)) (by omega) (by decide)) rfl) rfl) RhX.rfl hux) hnt hlocks hce hcv hcl hP9 hD9 hS9 (by show (1 + (2 * (at54 - ((at6 + 1) + 1)) - 1)) + 1 ≤ (2 * (sz - at9) + 20); omega) (by show (11 + (11 * (2 * (at54 - ((at6 + 1) + 1)) - 1))) + 6 ≤ (11 * (2 * (sz - at9) + 20)); omega))
      obtain ⟨w, _⟩ := u93
      obtain ⟨hw94, h98, hO⟩ := hw94
      have h98 : at54 + 1 ≤ sz := h98
      obtain rfl : v95 = some (.int (nI at54)) := hw94
      have hO : OKP G h0 a (upd (upd (upd (upd F 2 (nI sz)) 9 (nI (at54 + 1))) 10 (nI dp)) 11 (nI sg55)) R Z (updA B 10 f56) J K73 w := hO.to rfl
      refine W.widen (k := (1 + (2 * (at54 - ((at6 + 1) + 1)) - 1))) (n := (11 + (11 * (2 * (at54 - ((at6 + 1) + 1)) - 1)))) (by show (1 + (2 * (at54 - ((at6 + 1) + 1)) - 1)) + 0 ≤ (1 + (2 * (at54 - ((at6 + 1) + 1)) - 1)); omega) (by show (11 + (11 * (2 * (at54 - ((at6 + 1) + 1)) - 1))) + 0 ≤ (11 + (11 * (2 * (at54 - ((at6 + 1) + 1)) - 1))); omega) ?_
      refine W.eq (g2 := F0 m 61 ls [.int (nI at54)]) rfl ?_
      refine lv_pop hx hb dX8_local_61 rfl ?_
      refine lv_aload_n hx hb dX8_local_62 rfl (lv_at hl 0 rfl) ?_
      refine W_size (fun hz1 hz2 => ?_)
      refine vx_ret ?_
      obtain ⟨k9, hkI, hkS, hkE, hkM, hkN⟩ : ∃ z : Nat, Itv z ∧ rS z = at9 ∧ rE z = (at54 + 1) ∧ rM z = (at54 + 1) ∧ rN z = (at54 + 1) := ⟨rk at9 (at54 + 1) (at54 + 1) (at54 + 1), Itv.of (by omega), rS_rk (by omega), rE_rk (by omega), rM_rk (by omega), rN_rk (by omega)⟩
      have hkid : ∀ f9 y9 : Nat, f9 ≤ 3 → K73.2.2.1 f9 q9 = some y9 → K73.1 y9 = 1 ∧ 1 ≤ g53 0 y9 ∧ g53 0 y9 < 168 := by
        intro f9 y9 hf9 hy9
        rcases (show f9 = 0 ∨ f9 = 1 ∨ f9 = 2 ∨ f9 = 3 by omega) with rfl | rfl | rfl | rfl
        · rw [hf83] at hy9; cases hy9; exact ⟨hf82, (by omega), by omega⟩
        · rw [hf78] at hy9; cases hy9
        · rw [hf79] at hy9; cases hy9
        · rw [hf80] at hy9; cases hy9
      have hdn := NwS.done1I (q := q9) (L := 168) (O := O) (k := k9) hns84 hq35 hf75 hg70 (by omega) hkI (by rw [hf76]; exact ⟨(fun z => absurd z (by decide)), (fun z => absurd z (by decide)), (fun z => absurd z (by decide)), (fun z => absurd z (by decide)), (fun z => absurd z (by decide))⟩) (fun f9 z => by rw [hf76] at z; rcases z with ⟨z, _⟩ | ⟨z | z | z, _⟩ <;> exact absurd z (by decide)) hkid hf81 hno85 (fun f9 x9 _ _ => Kch.no (by rw [hf76]; decide)) how
      have hz99 : NwR K K73 g (gset g53 q9 168 O k9) q9 O k9 (168) := hdn
      have hz100 : at9 + 2 ≤ (at54 + 1) ∧ (at54 + 1) ≤ sz := (by omega)
      have hz101 : sg ≤ sg55 ∧ sg55 ≤ 60 := (by omega)
      have hz102 : rS k9 = at9 ∧ rE k9 ≤ (at54 + 1) ∧ rS k9 ≤ rE k9 := (by omega)
      have hO : OKP G h0 a (upd (upd (upd (upd F 2 (nI sz)) 9 (nI (at54 + 1))) 10 (nI dp)) 11 (nI sg55)) R Z (updA B 10 f56) J K73 w := hO.to rfl
      refine W.widen (k := (2 * (sz - at9) + 20)) (n := (11 * (2 * (sz - at9) + 20))) (by omega) (by omega) ?_
      have hzz1 : H.size ≤ s.heap.size + ((2 * ((at54 + 1) - at9) - 3)) := (by have z : (1 + (2 * (at54 - ((at6 + 1) + 1)) - 1)) ≤ (2 * ((at54 + 1) - at9) - 3) := (by omega); omega)
      have hzz2 : hSl H ≤ hSl s.heap + ((11 * (2 * ((at54 + 1) - at9) - 3))) := (by have z : (11 + (11 * (2 * (at54 - ((at6 + 1) + 1)) - 1))) ≤ (11 * (2 * ((at54 + 1) - at9) - 3)) := (by omega); omega)
      exact W.aret (v := .ref q9) hx hb hr (Or.inl ⟨_, rfl⟩) (Or.inr ⟨_, rfl⟩) (fun t99 ht99 hW99 => ⟨⟨_, (w, (q9, K73, (gset g53 q9 168 O k9), (at54 + 1), sg55, f56, k9)), rfl, ⟨rfl, hz99, hz100, hz101, hz102, hO⟩, by rw [ht99]; exact hP, hD, by rw [ht99]; exact hzz1, by rw [ht99]; exact hzz2⟩, hS.F ht99⟩) hS.2.2 dX8_local_63
  · have n103 : ¬ (x = 0) := fun h9 => c38 ((nI_eq (a := x) (b := 0) (by omega) (by omega)).mpr h9)
    refine lv_aload_n hx hb dX8_local_27 rfl (lv_at hl 2 rfl) ?_
    refine lv_bipush (v := 43) hx hb dX8_local_28 (by decide) ?_
    have hO : OKW G h0 a (upd (upd (upd (upd (upd (upd F 2 (nI sz)) 9 (nI (at6 + 1))) 10 (nI dp)) 11 (nI sg)) 2 (nI sz)) 9 (nI (at6 + 1))) R Z (updA B 10 f7) J K24.1 (fun q99 x99 => x99 = rep G a K24 q99) w := hO.to rfl
    obtain ⟨_, qr107, hqr108⟩ := hO.2.1 23 _ (sg_23 G h0 a _ _ _ _ _)
    refine pc_V0 (G := G) (As := [.int 43]) (rest := []) hx hb hml hown hq hE hX pX0_al hP hD hS hA hl.1 (P_sees l G h0 a (upd (upd (upd (upd F 2 (nI sz)) 9 (nI (at6 + 1))) 10 (nI dp)) 11 (nI sg)) R Z (updA B 10 f7) J K24.1 (fun q99 x99 => x99 = rep G a K24 q99) w 43 (at6 + 1) sz (by omega) (by omega) hO) (gV pw_803 pw_804 pw_805 pw_796 pw_775) hV_X8_sees qr107 5 hqr108 rfl rfl rfl (Nat.le_of_ble_eq_true rfl) dX8_local_30 ⟨(by show 1 + 0 ≤ (2 * (sz - at9) + 20); omega), (by show 11 + 0 ≤ (11 * (2 * (sz - at9) + 20)); omega)⟩ ⟨(by show 3 + 1 ≤ (40 * n + 44); omega), (by show 8 + (2 + 11) + 81 ≤ (1300 * n + 1400); omega)⟩ (fun v106 u104 H locs hw105 hP hD hS => ?_)
    obtain ⟨w, r109⟩ := u104
    obtain ⟨hw105, h110, hO⟩ := hw105
    have h110 : r109 ≤ 1 := h110
    obtain rfl : v106 = some (.int (nI r109)) := hw105
    have hO : OKP G h0 a (upd (upd (upd (upd F 2 (nI sz)) 9 (nI (at6 + 1))) 10 (nI dp)) 11 (nI sg)) R Z (updA B 10 f7) J K24 w := hO.to rfl
    refine W.widen (k := 1) (n := 11) (by show 1 + 0 ≤ 1; omega) (by show 11 + 0 ≤ 11; omega) ?_
    refine W.eq (g2 := F0 m 33 ls [.int (nI r109)]) rfl ?_
    refine lv_if_eq (tgt := 51) hx hb dX8_local_33 (by decide) (fun c111 => ?_) (fun c111 => ?_)
    · have n112 : r109 = 0 := (nI_eq (a := r109) (b := 0) (by omega) (by omega)).mp c111
      refine lv_iload_n hx hb dX8_local_51 rfl (lv_at hl 3 rfl) ?_
      refine lv_if_eq (tgt := 62) hx hb dX8_local_52 (by decide) (fun c113 => ?_) (fun c113 => ?_)
      · have n114 : x = 0 := (nI_eq (a := x) (b := 0) (by omega) (by omega)).mp c113
        refine lv_aload_n hx hb dX8_local_62 rfl (lv_at hl 0 rfl) ?_
        refine W_size (fun hz1 hz2 => ?_)
        refine vx_ret ?_
        obtain ⟨k9, hkI, hkS, hkE, hkM, hkN⟩ : ∃ z : Nat, Itv z ∧ rS z = at9 ∧ rE z = (at6 + 1) ∧ rM z = (at6 + 1) ∧ rN z = (at6 + 1) := ⟨rk at9 (at6 + 1) (at6 + 1) (at6 + 1), Itv.of (by omega), rS_rk (by omega), rE_rk (by omega), rM_rk (by omega), rN_rk (by omega)⟩
        have hkid : ∀ f9 y9 : Nat, f9 ≤ 3 → K24.2.2.1 f9 q9 = some y9 → K24.1 y9 = 1 ∧ 1 ≤ (gset g q9 0 0 0) 0 y9 ∧ (gset g q9 0 0 0) 0 y9 < 168 := by
          intro f9 y9 hf9 hy9
          rcases (show f9 = 0 ∨ f9 = 1 ∨ f9 = 2 ∨ f9 = 3 by omega) with rfl | rfl | rfl | rfl
          · rw [hf29] at hy9; cases hy9
          · rw [hf30] at hy9; cases hy9
          · rw [hf31] at hy9; cases hy9
          · rw [hf32] at hy9; cases hy9
        have hdn := NwS.done1I (q := q9) (L := 168) (O := O) (k := k9) hns34 hq35 hf26 hg36 (by omega) hkI (by rw [hf27]; exact ⟨(fun z => absurd z (by decide)), (fun z => absurd z (by decide)), (fun z => absurd z (by decide)), (fun z => absurd z (by decide)), (fun z => absurd z (by decide))⟩) (fun f9 z => by rw [hf27] at z; rcases z with ⟨z, _⟩ | ⟨z | z | z, _⟩ <;> exact absurd z (by decide)) hkid hf33 hno37 (fun f9 x9 _ _ => Kch.no (by rw [hf27]; decide)) how
        have hz115 : NwR K K24 g (gset (gset g q9 0 0 0) q9 168 O k9) q9 O k9 (168) := hdn
        have hz116 : at9 + 2 ≤ (at6 + 1) ∧ (at6 + 1) ≤ sz := (by omega)
        have hz117 : sg ≤ sg ∧ sg ≤ 60 := (by omega)
        have hz118 : rS k9 = at9 ∧ rE k9 ≤ (at6 + 1) ∧ rS k9 ≤ rE k9 := (by omega)
        have hO : OKP G h0 a (upd (upd (upd (upd F 2 (nI sz)) 9 (nI (at6 + 1))) 10 (nI dp)) 11 (nI sg)) R Z (updA B 10 f7) J K24 w := hO.to rfl
        refine W.widen (k := (2 * (sz - at9) + 20)) (n := (11 * (2 * (sz - at9) + 20))) (by omega) (by omega) ?_
        have hzz1 : H.size ≤ s.heap.size + ((2 * ((at6 + 1) - at9) - 3)) := (by have z : 1 ≤ (2 * ((at6 + 1) - at9) - 3) := (by omega); omega)
        have hzz2 : hSl H ≤ hSl s.heap + ((11 * (2 * ((at6 + 1) - at9) - 3))) := (by have z : 11 ≤ (11 * (2 * ((at6 + 1) - at9) - 3)) := (by omega); omega)
        exact W.aret (v := .ref q9) hx hb hr (Or.inl ⟨_, rfl⟩) (Or.inr ⟨_, rfl⟩) (fun t99 ht99 hW99 => ⟨⟨_, (w, (q9, K24, (gset (gset g q9 0 0 0) q9 168 O k9), (at6 + 1), sg, f7, k9)), rfl, ⟨rfl, hz115, hz116, hz117, hz118, hO⟩, by rw [ht99]; exact hP, hD, by rw [ht99]; exact hzz1, by rw [ht99]; exact hzz2⟩, hS.F ht99⟩) hS.2.2 dX8_local_63
      · have n119 : ¬ (x = 0) := fun h9 => c113 ((nI_eq (a := x) (b := 0) (by omega) (by omega)).mpr h9)
        refine lv_aload_n hx hb dX8_local_55 rfl (lv_at hl 2 rfl) ?_
        refine lv_bipush (v := 38) hx hb dX8_local_56 (by decide) ?_
        have hO : OKW G h0 a (upd (upd (upd (upd (upd (upd (upd F 2 (nI sz)) 9 (nI at9)) 10 (nI dp)) 11 (nI sg)) 9 (nI (at6 + 1))) 2 (nI sz)) 9 (nI (at6 + 1))) R Z (updA B 10 f7) J K24.1 (fun q99 x99 => x99 = rep G a K24 q99) w := hO.to rfl
        obtain ⟨_, qr123, hqr124⟩ := hO.2.1 23 _ (sg_23 G h0 a _ _ _ _ _)
        refine pn_V0 (G := G) (As := [.int 38]) (rest := []) hx hb hml hown hq hE hX pX0_al hP hD hS hA hl.1 (P_take l G h0 a (upd (upd (upd (upd (upd F 2 (nI sz)) 9 (nI at9)) 10 (nI dp)) 11 (nI sg)) 9 (nI (at6 + 1))) R Z (updA B 10 f7) J K24.1 (fun q99 x99 => x99 = rep G a K24 q99) w 38 (at6 + 1) sz (by omega) (by omega) (by decide) hO hl0) (gV pw_793 pw_794 pw_795 pw_796 pw_781) hV_X8_take qr123 5 hqr124 rfl rfl rfl (Nat.le_of_ble_eq_true rfl) dX8_local_58 ⟨(by show 1 + 1 ≤ (2 * (sz - at9) + 20); omega), (by show 11 + 6 ≤ (11 * (2 * (sz - at9) + 20)); omega)⟩ ⟨(by show 7 + 1 ≤ (40 * n + 44); omega), (by show 8 + (2 + 11) + 122 ≤ (1300 * n + 1400); omega)⟩ (fun v122 u120 H locs hw121 hP hD hS => ?_) (fun ux ce9 q9 H9 locs9 hux hP9 hD9 hS9 hce hcv hcl => pb_out ux (ThQ.up (Thx.same (Thx.same (Thx.b (Thx.f Thx.rfl (by omega)) (by omega) (by decide)) rfl) rfl) RhX.rfl hux) hnt hlocks hce hcv hcl hP9 hD9 hS9 (by show 1 + 1 ≤ (2 * (sz - at9) + 20); omega) (by show 11 + 6 ≤ (11 * (2 * (sz - at9) + 20)); omega))
        obtain ⟨w, _⟩ := u120
        obtain ⟨hw121, h125, hO⟩ := hw121
        have h125 : (at6 + 1) + 1 ≤ sz := h125
        obtain rfl : v122 = some (.int (nI (at6 + 1))) := hw121
        have hO : OKP G h0 a (upd (upd (upd (upd F 2 (nI sz)) 9 (nI ((at6 + 1) + 1))) 10 (nI dp)) 11 (nI sg)) R Z (updA B 10 f7) J K24 w := hO.to rfl
        refine W.widen (k := 1) (n := 11) (by show 1 + 0 ≤ 1; omega) (by show 11 + 0 ≤ 11; omega) ?_
        refine W.eq (g2 := F0 m 61 ls [.int (nI (at6 + 1))]) rfl ?_
        refine lv_pop hx hb dX8_local_61 rfl ?_
        refine lv_aload_n hx hb dX8_local_62 rfl (lv_at hl 0 rfl) ?_
        refine W_size (fun hz1 hz2 => ?_)
        refine vx_ret ?_
        obtain ⟨k9, hkI, hkS, hkE, hkM, hkN⟩ : ∃ z : Nat, Itv z ∧ rS z = at9 ∧ rE z = ((at6 + 1) + 1) ∧ rM z = ((at6 + 1) + 1) ∧ rN z = ((at6 + 1) + 1) := ⟨rk at9 ((at6 + 1) + 1) ((at6 + 1) + 1) ((at6 + 1) + 1), Itv.of (by omega), rS_rk (by omega), rE_rk (by omega), rM_rk (by omega), rN_rk (by omega)⟩
        have hkid : ∀ f9 y9 : Nat, f9 ≤ 3 → K24.2.2.1 f9 q9 = some y9 → K24.1 y9 = 1 ∧ 1 ≤ (gset g q9 0 0 0) 0 y9 ∧ (gset g q9 0 0 0) 0 y9 < 168 := by
          intro f9 y9 hf9 hy9
          rcases (show f9 = 0 ∨ f9 = 1 ∨ f9 = 2 ∨ f9 = 3 by omega) with rfl | rfl | rfl | rfl
          · rw [hf29] at hy9; cases hy9
          · rw [hf30] at hy9; cases hy9
          · rw [hf31] at hy9; cases hy9
          · rw [hf32] at hy9; cases hy9
        have hdn := NwS.done1I (q := q9) (L := 168) (O := O) (k := k9) hns34 hq35 hf26 hg36 (by omega) hkI (by rw [hf27]; exact ⟨(fun z => absurd z (by decide)), (fun z => absurd z (by decide)), (fun z => absurd z (by decide)), (fun z => absurd z (by decide)), (fun z => absurd z (by decide))⟩) (fun f9 z => by rw [hf27] at z; rcases z with ⟨z, _⟩ | ⟨z | z | z, _⟩ <;> exact absurd z (by decide)) hkid hf33 hno37 (fun f9 x9 _ _ => Kch.no (by rw [hf27]; decide)) how
        have hz126 : NwR K K24 g (gset (gset g q9 0 0 0) q9 168 O k9) q9 O k9 (168) := hdn
        have hz127 : at9 + 2 ≤ ((at6 + 1) + 1) ∧ ((at6 + 1) + 1) ≤ sz := (by omega)
        have hz128 : sg ≤ sg ∧ sg ≤ 60 := (by omega)
        have hz129 : rS k9 = at9 ∧ rE k9 ≤ ((at6 + 1) + 1) ∧ rS k9 ≤ rE k9 := (by omega)
        have hO : OKP G h0 a (upd (upd (upd (upd F 2 (nI sz)) 9 (nI ((at6 + 1) + 1))) 10 (nI dp)) 11 (nI sg)) R Z (updA B 10 f7) J K24 w := hO.to rfl
        refine W.widen (k := (2 * (sz - at9) + 20)) (n := (11 * (2 * (sz - at9) + 20))) (by omega) (by omega) ?_
        have hzz1 : H.size ≤ s.heap.size + ((2 * (((at6 + 1) + 1) - at9) - 3)) := (by have z : 1 ≤ (2 * (((at6 + 1) + 1) - at9) - 3) := (by omega); omega)
        have hzz2 : hSl H ≤ hSl s.heap + ((11 * (2 * (((at6 + 1) + 1) - at9) - 3))) := (by have z : 11 ≤ (11 * (2 * (((at6 + 1) + 1) - at9) - 3)) := (by omega); omega)
        exact W.aret (v := .ref q9) hx hb hr (Or.inl ⟨_, rfl⟩) (Or.inr ⟨_, rfl⟩) (fun t99 ht99 hW99 => ⟨⟨_, (w, (q9, K24, (gset (gset g q9 0 0 0) q9 168 O k9), ((at6 + 1) + 1), sg, f7, k9)), rfl, ⟨rfl, hz126, hz127, hz128, hz129, hO⟩, by rw [ht99]; exact hP, hD, by rw [ht99]; exact hzz1, by rw [ht99]; exact hzz2⟩, hS.F ht99⟩) hS.2.2 dX8_local_63
    · have n130 : ¬ (r109 = 0) := fun h9 => c111 ((nI_eq (a := r109) (b := 0) (by omega) (by omega)).mpr h9)
      refine lv_aload_n hx hb dX8_local_36 rfl (lv_at hl 2 rfl) ?_
      refine lv_bipush (v := 43) hx hb dX8_local_37 (by decide) ?_
      have hO : OKW G h0 a (upd (upd (upd (upd (upd (upd (upd F 2 (nI sz)) 9 (nI at9)) 10 (nI dp)) 11 (nI sg)) 9 (nI (at6 + 1))) 2 (nI sz)) 9 (nI (at6 + 1))) R Z (updA B 10 f7) J K24.1 (fun q99 x99 => x99 = rep G a K24 q99) w := hO.to rfl
      obtain ⟨_, qr134, hqr135⟩ := hO.2.1 23 _ (sg_23 G h0 a _ _ _ _ _)
      refine pn_V0 (G := G) (As := [.int 43]) (rest := []) hx hb hml hown hq hE hX pX0_al hP hD hS hA hl.1 (P_take l G h0 a (upd (upd (upd (upd (upd F 2 (nI sz)) 9 (nI at9)) 10 (nI dp)) 11 (nI sg)) 9 (nI (at6 + 1))) R Z (updA B 10 f7) J K24.1 (fun q99 x99 => x99 = rep G a K24 q99) w 43 (at6 + 1) sz (by omega) (by omega) (by decide) hO hl0) (gV pw_793 pw_794 pw_795 pw_796 pw_781) hV_X8_take qr134 5 hqr135 rfl rfl rfl (Nat.le_of_ble_eq_true rfl) dX8_local_39 ⟨(by show 1 + 1 ≤ (2 * (sz - at9) + 20); omega), (by show 11 + 6 ≤ (11 * (2 * (sz - at9) + 20)); omega)⟩ ⟨(by show 7 + 1 ≤ (40 * n + 44); omega), (by show 8 + (2 + 11) + 122 ≤ (1300 * n + 1400); omega)⟩ (fun v133 u131 H locs hw132 hP hD hS => ?_) (fun ux ce9 q9 H9 locs9 hux hP9 hD9 hS9 hce hcv hcl => pb_out ux (ThQ.up (Thx.same (Thx.same (Thx.b (Thx.f Thx.rfl (by omega)) (by omega) (by decide)) rfl) rfl) RhX.rfl hux) hnt hlocks hce hcv hcl hP9 hD9 hS9 (by show 1 + 1 ≤ (2 * (sz - at9) + 20); omega) (by show 11 + 6 ≤ (11 * (2 * (sz - at9) + 20)); omega))
      obtain ⟨w, _⟩ := u131
      obtain ⟨hw132, h136, hO⟩ := hw132
      have h136 : (at6 + 1) + 1 ≤ sz := h136
      obtain rfl : v133 = some (.int (nI (at6 + 1))) := hw132
      have hO : OKP G h0 a (upd (upd (upd (upd F 2 (nI sz)) 9 (nI ((at6 + 1) + 1))) 10 (nI dp)) 11 (nI sg)) R Z (updA B 10 f7) J K24 w := hO.to rfl
      refine W.widen (k := 1) (n := 11) (by show 1 + 0 ≤ 1; omega) (by show 11 + 0 ≤ 11; omega) ?_
      refine W.eq (g2 := F0 m 42 ls [.int (nI (at6 + 1))]) rfl ?_
      refine lv_pop hx hb dX8_local_42 rfl ?_
      refine lv_aload_n hx hb dX8_local_43 rfl (lv_at hl 0 rfl) ?_
      refine lv_aload_n hx hb dX8_local_44 rfl (lv_at hl 2 rfl) ?_
      have hO : OKP G h0 a (upd (upd (upd (upd (upd (upd (upd (upd (upd F 2 (nI sz)) 9 (nI at9)) 10 (nI dp)) 11 (nI sg)) 9 (nI ((at6 + 1) + 1))) 2 (nI sz)) 9 (nI ((at6 + 1) + 1))) 10 (nI dp)) 11 (nI sg)) R Z (updA B 10 f7) J K24 w := hO.to rfl
      obtain ⟨_, qr140, hqr141⟩ := hO.2.1 23 _ (sg_23 G h0 a _ _ _ _ _)
      refine pn_V0 (G := G) (As := []) (rest := [.ref q9]) hx hb hml hown hq hE hX pX0_al hP hD hS hA hl.1 (((PE_all l G n).1) h0 a (upd (upd (upd (upd (upd F 2 (nI sz)) 9 (nI at9)) 10 (nI dp)) 11 (nI sg)) 9 (nI ((at6 + 1) + 1))) R Z (updA B 10 f7) J K24 w ((at6 + 1) + 1) sz dp sg 0 (gset g q9 0 0 0) (by omega) (by omega) hdp (by omega) hns34.1 (fun o9 h9 => absurd h9 (by omega)) hO hl0) (gV pw_916 pw_917 pw_918 pw_796 pw_942) hV_X8_expression qr140 5 hqr141 rfl rfl rfl (Nat.le_of_ble_eq_true rfl) dX8_local_45 ⟨(by show 1 + (2 * (sz - ((at6 + 1) + 1)) + 20) ≤ (2 * (sz - at9) + 20); omega), (by show 11 + (11 * (2 * (sz - ((at6 + 1) + 1)) + 20)) ≤ (11 * (2 * (sz - at9) + 20)); omega)⟩ ⟨(by show (40 * n + 40) + 1 ≤ (40 * n + 44); omega), (by show 8 + (3 + 11) + (1300 * n + 1300) ≤ (1300 * n + 1400); omega)⟩ (fun v139 u137 H locs hw138 hP hD hS => ?_) (fun ux ce9 q9 H9 locs9 hux hP9 hD9 hS9 hce hcv hcl => pb_out ux (ThQ.up (Thx.same (Thx.same (Thx.same (Thx.same (Thx.b (Thx.f Thx.rfl (by omega)) (by omega) (by decide)) rfl) rfl) rfl) rfl) RhX.rfl hux) hnt hlocks hce hcv hcl hP9 hD9 hS9 (by show 1 + (2 * (sz - ((at6 + 1) + 1)) + 20) ≤ (2 * (sz - at9) + 20); omega) (by show 11 + (11 * (2 * (sz - ((at6 + 1) + 1)) + 20)) ≤ (11 * (2 * (sz - at9) + 20)); omega))
      obtain ⟨w, r142, K143, g144, at145, sg146, f147⟩ := u137
      obtain ⟨hw138, h148, h149, h150, hO⟩ := hw138
      have h148 : NwR K24 K143 (gset g q9 0 0 0) g144 r142 0 ((at6 + 1) + 1) (5 * (20 - dp) + 6 + (sg146 - sg)) := h148
      have h149 : ((at6 + 1) + 1) + 1 ≤ at145 ∧ at145 ≤ sz := h149
      have h150 : sg ≤ sg146 ∧ sg146 ≤ 60 := h150
      obtain rfl : v139 = some (.ref r142) := hw138
      have hf151 : K143.1 q9 = 1 := (((h148).2.1.1 q9 (by rw [hf26]; decide)).1).trans hf26
      have hf152 : K143.2.1 0 q9 = 22 := (((h148).2.1.1 q9 (by rw [hf26]; decide)).2.1 0).trans hf27
      have hf153 : K143.2.1 2 q9 = (nI at9) := (((h148).2.1.1 q9 (by rw [hf26]; decide)).2.1 2).trans hf28
      have hf154 : K143.2.2.1 0 q9 = none := (((h148).2.1.1 q9 (by rw [hf26]; decide)).2.2.1 0).trans hf29
      have hf155 : K143.2.2.1 1 q9 = none := (((h148).2.1.1 q9 (by rw [hf26]; decide)).2.2.1 1).trans hf30
      have hf156 : K143.2.2.1 2 q9 = none := (((h148).2.1.1 q9 (by rw [hf26]; decide)).2.2.1 2).trans hf31
      have hf157 : K143.2.2.1 3 q9 = none := (((h148).2.1.1 q9 (by rw [hf26]; decide)).2.2.1 3).trans hf32
      have hf158 : K143.2.2.1 4 q9 = none := (((h148).2.1.1 q9 (by rw [hf26]; decide)).2.2.1 4).trans hf33
      have hO : OKP G h0 a (upd (upd (upd (upd F 2 (nI sz)) 9 (nI at145)) 10 (nI dp)) 11 (nI sg146)) R Z (updA B 10 f147) J K143 w := hO.to rfl
      refine W.widen (k := (1 + (2 * (at145 - ((at6 + 1) + 1)) - 1))) (n := (11 + (11 * (2 * (at145 - ((at6 + 1) + 1)) - 1)))) (by show 1 + (2 * (at145 - ((at6 + 1) + 1)) - 1) ≤ (1 + (2 * (at145 - ((at6 + 1) + 1)) - 1)); omega) (by show 11 + (11 * (2 * (at145 - ((at6 + 1) + 1)) - 1)) ≤ (11 + (11 * (2 * (at145 - ((at6 + 1) + 1)) - 1))); omega) ?_
      refine W.eq (g2 := F0 m 48 ls [.ref r142, .ref q9]) rfl ?_
      have hns159 : NwS K K143 g g144 := NwS.call hns34 h148 (fun o9 h9 => absurd h9 (by omega))
      have hf160 : K143.1 r142 = 1 := h148.2.2.1.2.1
      have hg161 : g144 0 q9 = 0 := (h148.2.1.2 q9 (by rw [hf26]; decide) 0).trans hg36
      have hno162 : NoO K143 g144 q9 := NoO.call hno37 h148 hf26 (by omega)
      have hgy163 := h148.2.2.1
      have hgy163a := hgy163.2.2.1
      have hgy163b := hgy163.2.2.2.1
      refine p_put (v := .ref r142) (ty := (.object "JinjaTongue$Node")) (C := RX7) (Tc := TX7) (N := 11) (ci := 13) (K' := (kC K143 0 q9 (some r142))) hx hb hq pin_wsX70 tyX7 tyX7_ok nmX7 hown hE hP hD hS hO (by rw [hf151]; decide) (rep_1 hf151) rfl 6 (by decide) (hq _ pw_938) (fun _ h9 => h9) rfl (by decide +kernel) rfl rfl (Nat.le_of_ble_eq_true rfl) rfl (by rw [rep_1 (show (kC K143 0 q9 (some r142)).1 q9 = 1 from hf151), pc_0] <;> rfl) (fun p9 hp9 => rep_kC hp9) dX8_local_48 (fun H locs w hP hD hS hO => ?_)
      obtain ⟨K164, hK165⟩ : ∃ z : PK, z = (kC K143 0 q9 (some r142)) := ⟨_, rfl⟩
      rw [← hK165] at hO
      have hf166 : K164.1 q9 = 1 := (by rw [hK165]; exact hf151)
      have hf167 : K164.2.1 0 q9 = 22 := (by rw [hK165]; exact hf152)
      have hf168 : K164.2.1 2 q9 = (nI at9) := (by rw [hK165]; exact hf153)
      have hf169 : K164.2.2.1 1 q9 = none := (by rw [hK165]; exact (kC_of (by decide)).trans hf155)
      have hf170 : K164.2.2.1 2 q9 = none := (by rw [hK165]; exact (kC_of (by decide)).trans hf156)
      have hf171 : K164.2.2.1 3 q9 = none := (by rw [hK165]; exact (kC_of (by decide)).trans hf157)
      have hf172 : K164.2.2.1 4 q9 = none := (by rw [hK165]; exact (kC_of (by decide)).trans hf158)
      have hf173 : K164.1 r142 = 1 := (by rw [hK165]; exact hf160)
      have hf174 : K164.2.2.1 0 q9 = some r142 := by rw [hK165]; exact kC_eq
      have hns175 : NwS K K164 g g144 := by rw [hK165]; exact NwS.put hns159 hq35 hg161
      have hno176 : NoO K164 g144 q9 := by rw [hK165]; exact hno162
      refine lv_iload_n hx hb dX8_local_51 rfl (lv_at hl 3 rfl) ?_
      refine lv_if_eq (tgt := 62) hx hb dX8_local_52 (by decide) (fun c177 => ?_) (fun c177 => ?_)
      · have n178 : x = 0 := (nI_eq (a := x) (b := 0) (by omega) (by omega)).mp c177
        refine lv_aload_n hx hb dX8_local_62 rfl (lv_at hl 0 rfl) ?_
        refine W_size (fun hz1 hz2 => ?_)
        refine vx_ret ?_
        obtain ⟨k9, hkI, hkS, hkE, hkM, hkN⟩ : ∃ z : Nat, Itv z ∧ rS z = at9 ∧ rE z = at145 ∧ rM z = at145 ∧ rN z = at145 := ⟨rk at9 at145 at145 at145, Itv.of (by omega), rS_rk (by omega), rE_rk (by omega), rM_rk (by omega), rN_rk (by omega)⟩
        have hkid : ∀ f9 y9 : Nat, f9 ≤ 3 → K164.2.2.1 f9 q9 = some y9 → K164.1 y9 = 1 ∧ 1 ≤ g144 0 y9 ∧ g144 0 y9 < 168 := by
          intro f9 y9 hf9 hy9
          rcases (show f9 = 0 ∨ f9 = 1 ∨ f9 = 2 ∨ f9 = 3 by omega) with rfl | rfl | rfl | rfl
          · rw [hf174] at hy9; cases hy9; exact ⟨hf173, (by omega), by omega⟩
          · rw [hf169] at hy9; cases hy9
          · rw [hf170] at hy9; cases hy9
          · rw [hf171] at hy9; cases hy9
        have hdn := NwS.done1I (q := q9) (L := 168) (O := O) (k := k9) hns175 hq35 hf166 hg161 (by omega) hkI (by rw [hf167]; exact ⟨(fun z => absurd z (by decide)), (fun z => absurd z (by decide)), (fun z => absurd z (by decide)), (fun z => absurd z (by decide)), (fun z => absurd z (by decide))⟩) (fun f9 z => by rw [hf167] at z; rcases z with ⟨z, _⟩ | ⟨z | z | z, _⟩ <;> exact absurd z (by decide)) hkid hf172 hno176 (fun f9 x9 _ _ => Kch.no (by rw [hf167]; decide)) how
        have hz179 : NwR K K164 g (gset g144 q9 168 O k9) q9 O k9 (168) := hdn
        have hz180 : at9 + 2 ≤ at145 ∧ at145 ≤ sz := (by omega)
        have hz181 : sg ≤ sg146 ∧ sg146 ≤ 60 := (by omega)
        have hz182 : rS k9 = at9 ∧ rE k9 ≤ at145 ∧ rS k9 ≤ rE k9 := (by omega)
        have hO : OKP G h0 a (upd (upd (upd (upd F 2 (nI sz)) 9 (nI at145)) 10 (nI dp)) 11 (nI sg146)) R Z (updA B 10 f147) J K164 w := hO.to rfl
        refine W.widen (k := (2 * (sz - at9) + 20)) (n := (11 * (2 * (sz - at9) + 20))) (by omega) (by omega) ?_
        have hzz1 : H.size ≤ s.heap.size + ((2 * (at145 - at9) - 3)) := (by have z : (1 + (2 * (at145 - ((at6 + 1) + 1)) - 1)) ≤ (2 * (at145 - at9) - 3) := (by omega); omega)
        have hzz2 : hSl H ≤ hSl s.heap + ((11 * (2 * (at145 - at9) - 3))) := (by have z : (11 + (11 * (2 * (at145 - ((at6 + 1) + 1)) - 1))) ≤ (11 * (2 * (at145 - at9) - 3)) := (by omega); omega)
        exact W.aret (v := .ref q9) hx hb hr (Or.inl ⟨_, rfl⟩) (Or.inr ⟨_, rfl⟩) (fun t99 ht99 hW99 => ⟨⟨_, (w, (q9, K164, (gset g144 q9 168 O k9), at145, sg146, f147, k9)), rfl, ⟨rfl, hz179, hz180, hz181, hz182, hO⟩, by rw [ht99]; exact hP, hD, by rw [ht99]; exact hzz1, by rw [ht99]; exact hzz2⟩, hS.F ht99⟩) hS.2.2 dX8_local_63
      · have n183 : ¬ (x = 0) := fun h9 => c177 ((nI_eq (a := x) (b := 0) (by omega) (by omega)).mpr h9)
        refine lv_aload_n hx hb dX8_local_55 rfl (lv_at hl 2 rfl) ?_
        refine lv_bipush (v := 38) hx hb dX8_local_56 (by decide) ?_
        have hO : OKW G h0 a (upd (upd (upd (upd (upd (upd (upd (upd F 2 (nI sz)) 9 (nI at9)) 10 (nI dp)) 11 (nI sg)) 9 (nI at145)) 11 (nI sg146)) 2 (nI sz)) 9 (nI at145)) R Z (updA B 10 f147) J K164.1 (fun q99 x99 => x99 = rep G a K164 q99) w := hO.to rfl
        obtain ⟨_, qr187, hqr188⟩ := hO.2.1 23 _ (sg_23 G h0 a _ _ _ _ _)
        refine pn_V0 (G := G) (As := [.int 38]) (rest := []) hx hb hml hown hq hE hX pX0_al hP hD hS hA hl.1 (P_take l G h0 a (upd (upd (upd (upd (upd (upd F 2 (nI sz)) 9 (nI at9)) 10 (nI dp)) 11 (nI sg)) 9 (nI at145)) 11 (nI sg146)) R Z (updA B 10 f147) J K164.1 (fun q99 x99 => x99 = rep G a K164 q99) w 38 at145 sz (by omega) (by omega) (by decide) hO hl0) (gV pw_793 pw_794 pw_795 pw_796 pw_781) hV_X8_take qr187 5 hqr188 rfl rfl rfl (Nat.le_of_ble_eq_true rfl) dX8_local_58 ⟨(by show (1 + (2 * (at145 - ((at6 + 1) + 1)) - 1)) + 1 ≤ (2 * (sz - at9) + 20); omega), (by show (11 + (11 * (2 * (at145 - ((at6 + 1) + 1)) - 1))) + 6 ≤ (11 * (2 * (sz - at9) + 20)); omega)⟩ ⟨(by show 7 + 1 ≤ (40 * n + 44); omega), (by show 8 + (2 + 11) + 122 ≤ (1300 * n + 1400); omega)⟩ (fun v186 u184 H locs hw185 hP hD hS => ?_) (fun ux ce9 q9 H9 locs9 hux hP9 hD9 hS9 hce hcv hcl => pb_out ux (ThQ.up (Thx.same (Thx.same (Thx.b (Thx.f (Thx.f Thx.rfl (by omega)) (by omega)) (by omega) (by decide)) rfl) rfl) RhX.rfl hux) hnt hlocks hce hcv hcl hP9 hD9 hS9 (by show (1 + (2 * (at145 - ((at6 + 1) + 1)) - 1)) + 1 ≤ (2 * (sz - at9) + 20); omega) (by show (11 + (11 * (2 * (at145 - ((at6 + 1) + 1)) - 1))) + 6 ≤ (11 * (2 * (sz - at9) + 20)); omega))
        obtain ⟨w, _⟩ := u184
        obtain ⟨hw185, h189, hO⟩ := hw185
        have h189 : at145 + 1 ≤ sz := h189
        obtain rfl : v186 = some (.int (nI at145)) := hw185
        have hO : OKP G h0 a (upd (upd (upd (upd F 2 (nI sz)) 9 (nI (at145 + 1))) 10 (nI dp)) 11 (nI sg146)) R Z (updA B 10 f147) J K164 w := hO.to rfl
        refine W.widen (k := (1 + (2 * (at145 - ((at6 + 1) + 1)) - 1))) (n := (11 + (11 * (2 * (at145 - ((at6 + 1) + 1)) - 1)))) (by show (1 + (2 * (at145 - ((at6 + 1) + 1)) - 1)) + 0 ≤ (1 + (2 * (at145 - ((at6 + 1) + 1)) - 1)); omega) (by show (11 + (11 * (2 * (at145 - ((at6 + 1) + 1)) - 1))) + 0 ≤ (11 + (11 * (2 * (at145 - ((at6 + 1) + 1)) - 1))); omega) ?_
        refine W.eq (g2 := F0 m 61 ls [.int (nI at145)]) rfl ?_
        refine lv_pop hx hb dX8_local_61 rfl ?_
        refine lv_aload_n hx hb dX8_local_62 rfl (lv_at hl 0 rfl) ?_
        refine W_size (fun hz1 hz2 => ?_)
        refine vx_ret ?_
        obtain ⟨k9, hkI, hkS, hkE, hkM, hkN⟩ : ∃ z : Nat, Itv z ∧ rS z = at9 ∧ rE z = (at145 + 1) ∧ rM z = (at145 + 1) ∧ rN z = (at145 + 1) := ⟨rk at9 (at145 + 1) (at145 + 1) (at145 + 1), Itv.of (by omega), rS_rk (by omega), rE_rk (by omega), rM_rk (by omega), rN_rk (by omega)⟩
        have hkid : ∀ f9 y9 : Nat, f9 ≤ 3 → K164.2.2.1 f9 q9 = some y9 → K164.1 y9 = 1 ∧ 1 ≤ g144 0 y9 ∧ g144 0 y9 < 168 := by
          intro f9 y9 hf9 hy9
          rcases (show f9 = 0 ∨ f9 = 1 ∨ f9 = 2 ∨ f9 = 3 by omega) with rfl | rfl | rfl | rfl
          · rw [hf174] at hy9; cases hy9; exact ⟨hf173, (by omega), by omega⟩
          · rw [hf169] at hy9; cases hy9
          · rw [hf170] at hy9; cases hy9
          · rw [hf171] at hy9; cases hy9
        have hdn := NwS.done1I (q := q9) (L := 168) (O := O) (k := k9) hns175 hq35 hf166 hg161 (by omega) hkI (by rw [hf167]; exact ⟨(fun z => absurd z (by decide)), (fun z => absurd z (by decide)), (fun z => absurd z (by decide)), (fun z => absurd z (by decide)), (fun z => absurd z (by decide))⟩) (fun f9 z => by rw [hf167] at z; rcases z with ⟨z, _⟩ | ⟨z | z | z, _⟩ <;> exact absurd z (by decide)) hkid hf172 hno176 (fun f9 x9 _ _ => Kch.no (by rw [hf167]; decide)) how
        have hz190 : NwR K K164 g (gset g144 q9 168 O k9) q9 O k9 (168) := hdn
        have hz191 : at9 + 2 ≤ (at145 + 1) ∧ (at145 + 1) ≤ sz := (by omega)
        have hz192 : sg ≤ sg146 ∧ sg146 ≤ 60 := (by omega)
        have hz193 : rS k9 = at9 ∧ rE k9 ≤ (at145 + 1) ∧ rS k9 ≤ rE k9 := (by omega)
        have hO : OKP G h0 a (upd (upd (upd (upd F 2 (nI sz)) 9 (nI (at145 + 1))) 10 (nI dp)) 11 (nI sg146)) R Z (updA B 10 f147) J K164 w := hO.to rfl
        refine W.widen (k := (2 * (sz - at9) + 20)) (n := (11 * (2 * (sz - at9) + 20))) (by omega) (by omega) ?_
        have hzz1 : H.size ≤ s.heap.size + ((2 * ((at145 + 1) - at9) - 3)) := (by have z : (1 + (2 * (at145 - ((at6 + 1) + 1)) - 1)) ≤ (2 * ((at145 + 1) - at9) - 3) := (by omega); omega)
        have hzz2 : hSl H ≤ hSl s.heap + ((11 * (2 * ((at145 + 1) - at9) - 3))) := (by have z : (11 + (11 * (2 * (at145 - ((at6 + 1) + 1)) - 1))) ≤ (11 * (2 * ((at145 + 1) - at9) - 3)) := (by omega); omega)
        exact W.aret (v := .ref q9) hx hb hr (Or.inl ⟨_, rfl⟩) (Or.inr ⟨_, rfl⟩) (fun t99 ht99 hW99 => ⟨⟨_, (w, (q9, K164, (gset g144 q9 168 O k9), (at145 + 1), sg146, f147, k9)), rfl, ⟨rfl, hz190, hz191, hz192, hz193, hO⟩, by rw [ht99]; exact hP, hD, by rw [ht99]; exact hzz1, by rw [ht99]; exact hzz2⟩, hS.F ht99⟩) hS.2.2 dX8_local_63
theorem dX8_wordStatement_31 : decode cX8_wordStatement 31 = .ok (.aload_n 3, 1) := by decide +kernel
theorem dX8_wordStatement_32 : decode cX8_wordStatement 32 = .ok (.aload_n 0, 1) := by decide +kernel
theorem dX8_wordStatement_33 : decode cX8_wordStatement 33 = .ok (.invokevirtual 196, 3) := by decide +kernel
theorem dX8_wordStatement_36 : decode cX8_wordStatement 36 = .ok (.putfield 165, 3) := by decide +kernel
set_option maxHeartbeats 20000000 in
set_option maxRecDepth 100000 in
theorem P_word1 (l : Launch) (G : pT) (h0 : Nat) (a : Nat → Nat) (F : Nat → Int32) (R : Nat → Value) (Z : Int64) (B : Nat → Nat → Int32) (J : Nat → Nat → Int64) (K : PK) (w : va_W) (x : Int32) (n : Nat) (at9 : Nat) (sz : Nat) (dp : Nat) (sg : Nat) (O : Nat) (g : Nat → Nat → Nat) (hsz : sz ≤ 5000) (hat : at9 ≤ sz) (hdp : dp + n = 20) (hsg : sg ≤ 60) (hwn : WN K g) (how : ∀ o : Nat, O = o + 1 → K.1 o = 1 ∧ g 0 o = 0 ∧ ¬ K.2.1 0 o = 32) (hle : at9 + 1 ≤ sz) (hx28 : x = 28 ∨ x = 31) (hO : OKP G h0 a (upd (upd (upd (upd F 2 (nI sz)) 9 (nI at9)) 10 (nI dp)) 11 (nI sg)) R Z B J K w) (hl0 : l.stackTraces = false) : PBn l G pX0 yX8_wordStatement cX8_wordStatement 4 (some (.object "JinjaTongue$Node")) ({ frames := (40 * n + 44), cells := (2 * (sz - at9) + 20), slots := (11 * (2 * (sz - at9) + 20)), locals := (1300 * n + 1400) }) [.ref (a 3), .int x, .int 1] w (fun (v : Option Value) (u : va_W × (Nat × PK × (Nat → Nat → Nat) × Nat × Nat × (Nat → Int32) × Nat)) => v = some (.ref u.2.1) ∧ (NwR K u.2.2.1 g u.2.2.2.1 u.2.1 O u.2.2.2.2.2.2.2 ((173 + 3 * (20 - dp)))) ∧ (at9 + 3 ≤ u.2.2.2.2.1 ∧ u.2.2.2.2.1 ≤ sz) ∧ (sg ≤ u.2.2.2.2.2.1 ∧ u.2.2.2.2.2.1 ≤ 60) ∧ (rS u.2.2.2.2.2.2.2 = at9 ∧ rE u.2.2.2.2.2.2.2 ≤ u.2.2.2.2.1 ∧ rS u.2.2.2.2.2.2.2 ≤ rE u.2.2.2.2.2.2.2) ∧ (OKP G h0 a (upd (upd (upd (upd F 2 (nI sz)) 9 (nI u.2.2.2.2.1)) 10 (nI dp)) 11 (nI u.2.2.2.2.2.1)) R Z (updA B 10 u.2.2.2.2.2.2.1) J u.2.2.1 u.1)) (fun u => u.1) (fun (u : va_W × (Nat × PK × (Nat → Nat → Nat) × Nat × Nat × (Nat → Int32) × Nat)) => (2 * (u.2.2.2.2.1 - at9) - 4)) (fun (u : va_W × (Nat × PK × (Nat → Nat → Nat) × Nat × Nat × (Nat → Int32) × Nat)) => (11 * (2 * (u.2.2.2.2.1 - at9) - 4))) (fun (u : va_W × (Nat → Int32) × (Nat → Value) × (Nat → Nat → Int32)) => ThQ G h0 a (upd (upd (upd (upd F 2 (nI sz)) 9 (nI at9)) 10 (nI dp)) 11 (nI sg)) R Z B J u) (fun u => u.1) := by
  intro sz
  refine vx_ofW (cc := cX8_wordStatement) (maxL := 4) (ret := (some (.object "JinjaTongue$Node"))) (by decide) rfl ?_
  intro p e s m args below meth c s₁ B9 hml hnt hv
  obtain ⟨rfl, hsz, hP, hD0, hE, hX⟩ := hv
  have hx := B9.exec
  have hb := B9.bytes
  have hr := B9.returns
  have hts := atoms_spec (ws := Cond.code yX8_wordStatement cX8_wordStatement 4 (some (.object "JinjaTongue$Node")) :: pw) B9.pre
  have hq : ∀ w ∈ pw, w.before _ s = true := fun w h => hts w (List.mem_cons_of_mem _ h)
  have hown : s.vm.findClass RX8 = some m.cls := findClass_of_methodNamed B9.named
  have hlocks := B9.notSynchronized
  subst hsz
  have hD := hD0.self (sz := s.heap.size)
  have hA : ∀ q : Nat, s.heap.size ≤ q → va_A w s.heap.size q := fun q h => Or.inr h
  generalize va_A w s.heap.size = A at hD hE hA ⊢
  have hS : va_S A s.heap s.heap [] := va_S.rf
  have hl := lv_entry ([.ref (a 3), .int x, .int 1]) (n := 4) (Nat.le_of_ble_eq_true rfl)
  rw [lg_entry_eq]
  generalize (lg_sl ([.ref (a 3), .int x, .int 1]) ++ List.replicate (4 - (lg_sl ([.ref (a 3), .int x, .int 1])).length) Slot.unset).toArray = ls at hl ⊢
  have hl : lv_has ls 4 [(0, .ref (a 3)), (1, .int x), (2, .int 1)] := hl
  have hns0 : NwS K K g g := NwS.nil hwn
  rcases hx28 with rfl | rfl
  · skip
    refine p_new (s9 := 1) (C := RX7) (T := TX7) (N := 11) (ci := 13) (fs := [.int 0, .int 0, .int 0, .int 0, .int 0, .int 0, .null, .null, .null, .null, .null]) hx hb hq pin_wsX70 tyX7 tyX7_ok hown (hq _ pw_870) (hq _ pw_871) (hq _ pw_872) hE hP hD hS hA hO rfl nw_X7 (by decide) (fun q => by rw [rep_1 (show (kN K q 1 0).1 q = 1 from if_pos rfl)]; unfold fsNode kN; simp only [if_true]; rfl) (by show 0 + 1 ≤ (2 * (sz - at9) + 20); omega) (by show 0 + 11 ≤ (11 * (2 * (sz - at9) + 20)); omega) dX8_wordStatement_0 (fun q1 H w hq2 hP hD hS hO => ?_)
    have hf3 : (kN K q1 1 0).1 q1 = 1 := if_pos rfl
    refine W.widen (k := 1) (n := 11) (by show 0 + 1 ≤ 1; omega) (by show 0 + 11 ≤ 11; omega) ?_
    refine lv_dup hx hb dX8_wordStatement_3 rfl ?_
    refine lv_iload_n hx hb dX8_wordStatement_4 rfl (lv_at hl 1 rfl) ?_
    refine lv_aload_n hx hb dX8_wordStatement_5 rfl (lv_at hl 0 rfl) ?_
    refine c_get (v := .int (nI at9)) (C := RX8) (Tc := TX8) (N := 5) (ci := 5) hx hb hq pin_wsX80 hown hE hP hO 23 (sg_23 G h0 a _ _ _ _ _) rfl 2 (by decide) (hq _ pw_776) (fun _ h9 => h9) rfl dX8_wordStatement_6 ?_
    refine lv_aload_n hx hb dX8_wordStatement_9 rfl (lv_at hl 0 rfl) ?_
    refine c_get (v := .int (nI at9)) (C := RX8) (Tc := TX8) (N := 5) (ci := 5) hx hb hq pin_wsX80 hown hE hP hO 23 (sg_23 G h0 a _ _ _ _ _) rfl 2 (by decide) (hq _ pw_776) (fun _ h9 => h9) rfl dX8_wordStatement_10 ?_
    have hO : OKP G h0 a (upd (upd (upd (upd F 2 (nI sz)) 9 (nI at9)) 10 (nI dp)) 11 (nI sg)) R Z B J (kN K q1 1 0) w := hO.to rfl
    obtain ⟨qr7, hqr8⟩ := p_recv hO (by rw [hf3]; decide) (rep_1 hf3)
    refine pc_I0 (G := G) (As := [.int 28, .int (nI at9), .int (nI at9)]) (rest := [.ref q1]) hx hb hml hown hq hE hX pX0_al hP hD hS hA hl.1 (N_init l G h0 a (upd (upd (upd (upd F 2 (nI sz)) 9 (nI at9)) 10 (nI dp)) 11 (nI sg)) R Z B J (kN K q1 1 0) w q1 28 (nI at9) (nI at9) (by omega) hO) pw_874 pw_875 pw_872 pw_765 rfl hS_X7_init rfl (Nat.le_of_ble_eq_true rfl) dX8_wordStatement_13 ⟨(by show 1 + 0 ≤ (2 * (sz - at9) + 20); omega), (by show 11 + 0 ≤ (11 * (2 * (sz - at9) + 20)); omega)⟩ ⟨(by show 2 + 1 ≤ (40 * n + 44); omega), (by show 8 + (4 + 11) + 60 ≤ (1300 * n + 1400); omega)⟩ (fun v6 u4 H locs hw5 hP hD hS => ?_)
    obtain ⟨w, _⟩ := u4
    obtain ⟨hw5, hO⟩ := hw5
    obtain rfl : v6 = none := hw5
    have hf9 : (kI (kI (kI (kN K q1 1 0) 0 q1 28) 1 q1 (nI at9)) 2 q1 (nI at9)).1 q1 = 1 := hf3
    have hO : OKP G h0 a (upd (upd (upd (upd F 2 (nI sz)) 9 (nI at9)) 10 (nI dp)) 11 (nI sg)) R Z B J (kI (kI (kI (kN K q1 1 0) 0 q1 28) 1 q1 (nI at9)) 2 q1 (nI at9)) w := hO.to rfl
    refine W.widen (k := 1) (n := 11) (by show 1 + 0 ≤ 1; omega) (by show 11 + 0 ≤ 11; omega) ?_
    refine W.eq (g2 := F0 m 16 ls [.ref q1]) rfl ?_
    change OKP G h0 a (upd (upd (upd (upd F 2 (nI sz)) 9 (nI at9)) 10 (nI dp)) 11 (nI sg)) R Z B J (mkN K q1 28 (nI at9) (nI at9)) w at hO
    obtain ⟨K10, hK11⟩ : ∃ z : PK, z = (mkN K q1 28 (nI at9) (nI at9)) := ⟨_, rfl⟩
    rw [← hK11] at hO
    have hf12 : K10.1 q1 = 1 := by rw [hK11]; exact mkN_T
    have hf13 : K10.2.1 0 q1 = 28 := by rw [hK11]; exact mkN_0
    have hf14 : K10.2.1 2 q1 = (nI at9) := by rw [hK11]; exact mkN_2
    have hf15 : K10.2.2.1 0 q1 = none := by rw [hK11]; exact mkN_C
    have hf16 : K10.2.2.1 1 q1 = none := by rw [hK11]; exact mkN_C
    have hf17 : K10.2.2.1 2 q1 = none := by rw [hK11]; exact mkN_C
    have hf18 : K10.2.2.1 3 q1 = none := by rw [hK11]; exact mkN_C
    have hf19 : K10.2.2.1 4 q1 = none := by rw [hK11]; exact mkN_C
    have hns20 : NwS K K10 g (gset g q1 0 0 0) := by rw [hK11]; exact NwS.node hns0 hq2
    have hq21 : K.1 q1 = 0 := old_T hns0.2.1 hq2
    have hg22 : (gset g q1 0 0 0) 0 q1 = 0 := gset_0
    have hno23 : NoO K10 (gset g q1 0 0 0) q1 := by rw [hK11]; exact NoO.new hns0.1 hq2
    refine lv_astore_n (lv' := [(3, .ref q1), (0, .ref (a 3)), (1, .int 28), (2, .int 1)]) hx hb dX8_wordStatement_16 rfl hl (by decide) rfl (fun ls hl => ?_)
    refine lv_aload_n hx hb dX8_wordStatement_17 rfl (lv_at hl 1 rfl) ?_
    refine lv_dup hx hb dX8_wordStatement_18 rfl ?_
    refine c_get (v := .int (nI at9)) (C := RX8) (Tc := TX8) (N := 5) (ci := 5) hx hb hq pin_wsX80 hown hE hP hO 23 (sg_23 G h0 a _ _ _ _ _) rfl 2 (by decide) (hq _ pw_776) (fun _ h9 => h9) rfl dX8_wordStatement_19 ?_
    refine lv_iconst (v := 1) hx hb dX8_wordStatement_22 (by decide) ?_
    refine lv_iadd hx hb dX8_wordStatement_23 ?_
    refine lv_topi (fun x24 e25 => ?_)
    obtain rfl : x24 = nI (at9 + 1) := e25.trans (nI_add (at9) (1))
    refine c_put (v := .int (nI (at9 + 1))) (ty := .int) (C := RX8) (Tc := TX8) (N := 5) (ci := 5) hx hb hq pin_wsX80 tyX8 tyX8_ok nmX8 hown hE hP hD hS hO 23 (sg_23 G h0 a _ _ _ _ _) rfl 2 (by decide) (hq _ pw_776) (fun _ h9 => h9) rfl (by decide +kernel) rfl rfl (Nat.le_of_ble_eq_true rfl) (sf_9 G h0 a _ _ _ _ _ (nI (at9 + 1))) dX8_wordStatement_24 (fun H locs w hP hD hS hO => ?_)
    refine lv_iload_n hx hb dX8_wordStatement_27 rfl (lv_at hl 3 rfl) ?_
    refine lv_if_eq (tgt := 39) hx hb dX8_wordStatement_28 (by decide) (fun c26 => absurd c26 (by decide)) (fun c26 => ?_)
    refine lv_aload_n hx hb dX8_wordStatement_31 rfl (lv_at hl 0 rfl) ?_
    refine lv_aload_n hx hb dX8_wordStatement_32 rfl (lv_at hl 1 rfl) ?_
    have hO : OKP G h0 a (upd (upd (upd (upd (upd (upd (upd (upd (upd F 2 (nI sz)) 9 (nI at9)) 10 (nI dp)) 11 (nI sg)) 9 (nI (at9 + 1))) 2 (nI sz)) 9 (nI (at9 + 1))) 10 (nI dp)) 11 (nI sg)) R Z B J K10 w := hO.to rfl
    obtain ⟨_, qr30, hqr31⟩ := hO.2.1 23 _ (sg_23 G h0 a _ _ _ _ _)
    refine pn_V0 (G := G) (As := []) (rest := [.ref q1]) hx hb hml hown hq hE hX pX0_al hP hD hS hA hl.1 (((PE_all l G n).1) h0 a (upd (upd (upd (upd (upd F 2 (nI sz)) 9 (nI at9)) 10 (nI dp)) 11 (nI sg)) 9 (nI (at9 + 1))) R Z B J K10 w (at9 + 1) sz dp sg 0 (gset g q1 0 0 0) (by omega) (by omega) hdp (by omega) hns20.1 (fun o9 h9 => absurd h9 (by omega)) hO hl0) (gV pw_916 pw_917 pw_918 pw_796 pw_942) hV_X8_expression qr30 5 hqr31 rfl rfl rfl (Nat.le_of_ble_eq_true rfl) dX8_wordStatement_33 ⟨(by show 1 + (2 * (sz - (at9 + 1)) + 20) ≤ (2 * (sz - at9) + 20); omega), (by show 11 + (11 * (2 * (sz - (at9 + 1)) + 20)) ≤ (11 * (2 * (sz - at9) + 20)); omega)⟩ ⟨(by show (40 * n + 40) + 1 ≤ (40 * n + 44); omega), (by show 8 + (3 + 11) + (1300 * n + 1300) ≤ (1300 * n + 1400); omega)⟩ (fun v29 u27 H locs hw28 hP hD hS => ?_) (fun ux ce9 q9 H9 locs9 hux hP9 hD9 hS9 hce hcv hcl => pb_out ux (ThQ.up (Thx.same (Thx.same (Thx.same (Thx.same (Thx.f Thx.rfl (by omega)) rfl) rfl) rfl) rfl) RhX.rfl hux) hnt hlocks hce hcv hcl hP9 hD9 hS9 (by show 1 + (2 * (sz - (at9 + 1)) + 20) ≤ (2 * (sz - at9) + 20); omega) (by show 11 + (11 * (2 * (sz - (at9 + 1)) + 20)) ≤ (11 * (2 * (sz - at9) + 20)); omega))
    obtain ⟨w, r32, K33, g34, at35, sg36, f37⟩ := u27
    obtain ⟨hw28, h38, h39, h40, hO⟩ := hw28
    have h38 : NwR K10 K33 (gset g q1 0 0 0) g34 r32 0 (at9 + 1) (5 * (20 - dp) + 6 + (sg36 - sg)) := h38
    have h39 : (at9 + 1) + 1 ≤ at35 ∧ at35 ≤ sz := h39
    have h40 : sg ≤ sg36 ∧ sg36 ≤ 60 := h40
    obtain rfl : v29 = some (.ref r32) := hw28
    have hf41 : K33.1 q1 = 1 := (((h38).2.1.1 q1 (by rw [hf12]; decide)).1).trans hf12
    have hf42 : K33.2.1 0 q1 = 28 := (((h38).2.1.1 q1 (by rw [hf12]; decide)).2.1 0).trans hf13
    have hf43 : K33.2.1 2 q1 = (nI at9) := (((h38).2.1.1 q1 (by rw [hf12]; decide)).2.1 2).trans hf14
    have hf44 : K33.2.2.1 0 q1 = none := (((h38).2.1.1 q1 (by rw [hf12]; decide)).2.2.1 0).trans hf15
    have hf45 : K33.2.2.1 1 q1 = none := (((h38).2.1.1 q1 (by rw [hf12]; decide)).2.2.1 1).trans hf16
    have hf46 : K33.2.2.1 2 q1 = none := (((h38).2.1.1 q1 (by rw [hf12]; decide)).2.2.1 2).trans hf17
    have hf47 : K33.2.2.1 3 q1 = none := (((h38).2.1.1 q1 (by rw [hf12]; decide)).2.2.1 3).trans hf18
    have hf48 : K33.2.2.1 4 q1 = none := (((h38).2.1.1 q1 (by rw [hf12]; decide)).2.2.1 4).trans hf19
    have hO : OKP G h0 a (upd (upd (upd (upd F 2 (nI sz)) 9 (nI at35)) 10 (nI dp)) 11 (nI sg36)) R Z (updA B 10 f37) J K33 w := hO.to rfl
    refine W.widen (k := (1 + (2 * (at35 - (at9 + 1)) - 1))) (n := (11 + (11 * (2 * (at35 - (at9 + 1)) - 1)))) (by show 1 + (2 * (at35 - (at9 + 1)) - 1) ≤ (1 + (2 * (at35 - (at9 + 1)) - 1)); omega) (by show 11 + (11 * (2 * (at35 - (at9 + 1)) - 1)) ≤ (11 + (11 * (2 * (at35 - (at9 + 1)) - 1))); omega) ?_
    refine W.eq (g2 := F0 m 36 ls [.ref r32, .ref q1]) rfl ?_
    have hns49 : NwS K K33 g g34 := NwS.call hns20 h38 (fun o9 h9 => absurd h9 (by omega))
    have hf50 : K33.1 r32 = 1 := h38.2.2.1.2.1
    have hg51 : g34 0 q1 = 0 := (h38.2.1.2 q1 (by rw [hf12]; decide) 0).trans hg22
    have hno52 : NoO K33 g34 q1 := NoO.call hno23 h38 hf12 (by omega)
    have hgy53 := h38.2.2.1
    have hgy53a := hgy53.2.2.1
    have hgy53b := hgy53.2.2.2.1
    refine p_put (v := .ref r32) (ty := (.object "JinjaTongue$Node")) (C := RX7) (Tc := TX7) (N := 11) (ci := 13) (K' := (kC K33 0 q1 (some r32))) hx hb hq pin_wsX70 tyX7 tyX7_ok nmX7 hown hE hP hD hS hO (by rw [hf41]; decide) (rep_1 hf41) rfl 6 (by decide) (hq _ pw_938) (fun _ h9 => h9) rfl (by decide +kernel) rfl rfl (Nat.le_of_ble_eq_true rfl) rfl (by rw [rep_1 (show (kC K33 0 q1 (some r32)).1 q1 = 1 from hf41), pc_0] <;> rfl) (fun p9 hp9 => rep_kC hp9) dX8_wordStatement_36 (fun H locs w hP hD hS hO => ?_)
    obtain ⟨K54, hK55⟩ : ∃ z : PK, z = (kC K33 0 q1 (some r32)) := ⟨_, rfl⟩
    rw [← hK55] at hO
    have hf56 : K54.1 q1 = 1 := (by rw [hK55]; exact hf41)
    have hf57 : K54.2.1 0 q1 = 28 := (by rw [hK55]; exact hf42)
    have hf58 : K54.2.1 2 q1 = (nI at9) := (by rw [hK55]; exact hf43)
    have hf59 : K54.2.2.1 1 q1 = none := (by rw [hK55]; exact (kC_of (by decide)).trans hf45)
    have hf60 : K54.2.2.1 2 q1 = none := (by rw [hK55]; exact (kC_of (by decide)).trans hf46)
    have hf61 : K54.2.2.1 3 q1 = none := (by rw [hK55]; exact (kC_of (by decide)).trans hf47)
    have hf62 : K54.2.2.1 4 q1 = none := (by rw [hK55]; exact (kC_of (by decide)).trans hf48)
    have hf63 : K54.1 r32 = 1 := (by rw [hK55]; exact hf50)
    have hf64 : K54.2.2.1 0 q1 = some r32 := by rw [hK55]; exact kC_eq
    have hns65 : NwS K K54 g g34 := by rw [hK55]; exact NwS.put hns49 hq21 hg51
    have hno66 : NoO K54 g34 q1 := by rw [hK55]; exact hno52
    refine lv_aload_n hx hb dX8_wordStatement_39 rfl (lv_at hl 1 rfl) ?_
    refine lv_bipush (v := 38) hx hb dX8_wordStatement_40 (by decide) ?_
    have hO : OKW G h0 a (upd (upd (upd (upd (upd (upd (upd (upd F 2 (nI sz)) 9 (nI at9)) 10 (nI dp)) 11 (nI sg)) 9 (nI at35)) 11 (nI sg36)) 2 (nI sz)) 9 (nI at35)) R Z (updA B 10 f37) J K54.1 (fun q99 x99 => x99 = rep G a K54 q99) w := hO.to rfl
    obtain ⟨_, qr70, hqr71⟩ := hO.2.1 23 _ (sg_23 G h0 a _ _ _ _ _)
    refine pn_V0 (G := G) (As := [.int 38]) (rest := []) hx hb hml hown hq hE hX pX0_al hP hD hS hA hl.1 (P_take l G h0 a (upd (upd (upd (upd (upd (upd F 2 (nI sz)) 9 (nI at9)) 10 (nI dp)) 11 (nI sg)) 9 (nI at35)) 11 (nI sg36)) R Z (updA B 10 f37) J K54.1 (fun q99 x99 => x99 = rep G a K54 q99) w 38 at35 sz (by omega) (by omega) (by decide) hO hl0) (gV pw_793 pw_794 pw_795 pw_796 pw_781) hV_X8_take qr70 5 hqr71 rfl rfl rfl (Nat.le_of_ble_eq_true rfl) dX8_wordStatement_42 ⟨(by show (1 + (2 * (at35 - (at9 + 1)) - 1)) + 1 ≤ (2 * (sz - at9) + 20); omega), (by show (11 + (11 * (2 * (at35 - (at9 + 1)) - 1))) + 6 ≤ (11 * (2 * (sz - at9) + 20)); omega)⟩ ⟨(by show 7 + 1 ≤ (40 * n + 44); omega), (by show 8 + (2 + 11) + 122 ≤ (1300 * n + 1400); omega)⟩ (fun v69 u67 H locs hw68 hP hD hS => ?_) (fun ux ce9 q9 H9 locs9 hux hP9 hD9 hS9 hce hcv hcl => pb_out ux (ThQ.up (Thx.same (Thx.same (Thx.b (Thx.f (Thx.f Thx.rfl (by omega)) (by omega)) (by omega) (by decide)) rfl) rfl) RhX.rfl hux) hnt hlocks hce hcv hcl hP9 hD9 hS9 (by show (1 + (2 * (at35 - (at9 + 1)) - 1)) + 1 ≤ (2 * (sz - at9) + 20); omega) (by show (11 + (11 * (2 * (at35 - (at9 + 1)) - 1))) + 6 ≤ (11 * (2 * (sz - at9) + 20)); omega))
    obtain ⟨w, _⟩ := u67
    obtain ⟨hw68, h72, hO⟩ := hw68
    have h72 : at35 + 1 ≤ sz := h72
    obtain rfl : v69 = some (.int (nI at35)) := hw68
    have hO : OKP G h0 a (upd (upd (upd (upd F 2 (nI sz)) 9 (nI (at35 + 1))) 10 (nI dp)) 11 (nI sg36)) R Z (updA B 10 f37) J K54 w := hO.to rfl
    refine W.widen (k := (1 + (2 * (at35 - (at9 + 1)) - 1))) (n := (11 + (11 * (2 * (at35 - (at9 + 1)) - 1)))) (by show (1 + (2 * (at35 - (at9 + 1)) - 1)) + 0 ≤ (1 + (2 * (at35 - (at9 + 1)) - 1)); omega) (by show (11 + (11 * (2 * (at35 - (at9 + 1)) - 1))) + 0 ≤ (11 + (11 * (2 * (at35 - (at9 + 1)) - 1))); omega) ?_
    refine W.eq (g2 := F0 m 45 ls [.int (nI at35)]) rfl ?_
    refine lv_pop hx hb dX8_wordStatement_45 rfl ?_
    refine lv_aload_n hx hb dX8_wordStatement_46 rfl (lv_at hl 0 rfl) ?_
    refine W_size (fun hz1 hz2 => ?_)
    refine vx_ret ?_
    obtain ⟨k9, hkI, hkS, hkE, hkM, hkN⟩ : ∃ z : Nat, Itv z ∧ rS z = at9 ∧ rE z = (at35 + 1) ∧ rM z = (at35 + 1) ∧ rN z = (at35 + 1) := ⟨rk at9 (at35 + 1) (at35 + 1) (at35 + 1), Itv.of (by omega), rS_rk (by omega), rE_rk (by omega), rM_rk (by omega), rN_rk (by omega)⟩
    have hkid : ∀ f9 y9 : Nat, f9 ≤ 3 → K54.2.2.1 f9 q1 = some y9 → K54.1 y9 = 1 ∧ 1 ≤ g34 0 y9 ∧ g34 0 y9 < (173 + 3 * (20 - dp)) := by
      intro f9 y9 hf9 hy9
      rcases (show f9 = 0 ∨ f9 = 1 ∨ f9 = 2 ∨ f9 = 3 by omega) with rfl | rfl | rfl | rfl
      · rw [hf64] at hy9; cases hy9; exact ⟨hf63, (by omega), by omega⟩
      · rw [hf59] at hy9; cases hy9
      · rw [hf60] at hy9; cases hy9
      · rw [hf61] at hy9; cases hy9
    have hdn := NwS.done1I (q := q1) (L := (173 + 3 * (20 - dp))) (O := O) (k := k9) hns65 hq21 hf56 hg51 (by omega) hkI (by rw [hf57]; exact ⟨(fun z => absurd z (by decide)), (fun z => absurd z (by decide)), (fun z => absurd z (by decide)), (fun z => absurd z (by decide)), (fun z => absurd z (by decide))⟩) (fun f9 z => by rw [hf57] at z; rcases z with ⟨z, _⟩ | ⟨z | z | z, _⟩ <;> exact absurd z (by decide)) hkid hf62 hno66 (fun f9 x9 _ _ => Kch.no (by rw [hf57]; decide)) how
    have hz73 : NwR K K54 g (gset g34 q1 (173 + 3 * (20 - dp)) O k9) q1 O k9 ((173 + 3 * (20 - dp))) := hdn
    have hz74 : at9 + 3 ≤ (at35 + 1) ∧ (at35 + 1) ≤ sz := (by omega)
    have hz75 : sg ≤ sg36 ∧ sg36 ≤ 60 := (by omega)
    have hz76 : rS k9 = at9 ∧ rE k9 ≤ (at35 + 1) ∧ rS k9 ≤ rE k9 := (by omega)
    have hO : OKP G h0 a (upd (upd (upd (upd F 2 (nI sz)) 9 (nI (at35 + 1))) 10 (nI dp)) 11 (nI sg36)) R Z (updA B 10 f37) J K54 w := hO.to rfl
    refine W.widen (k := (2 * (sz - at9) + 20)) (n := (11 * (2 * (sz - at9) + 20))) (by omega) (by omega) ?_
    have hzz1 : H.size ≤ s.heap.size + ((2 * ((at35 + 1) - at9) - 4)) := (by have z : (1 + (2 * (at35 - (at9 + 1)) - 1)) ≤ (2 * ((at35 + 1) - at9) - 4) := (by omega); omega)
    have hzz2 : hSl H ≤ hSl s.heap + ((11 * (2 * ((at35 + 1) - at9) - 4))) := (by have z : (11 + (11 * (2 * (at35 - (at9 + 1)) - 1))) ≤ (11 * (2 * ((at35 + 1) - at9) - 4)) := (by omega); omega)
    exact W.aret (v := .ref q1) hx hb hr (Or.inl ⟨_, rfl⟩) (Or.inr ⟨_, rfl⟩) (fun t99 ht99 hW99 => ⟨⟨_, (w, (q1, K54, (gset g34 q1 (173 + 3 * (20 - dp)) O k9), (at35 + 1), sg36, f37, k9)), rfl, ⟨rfl, hz73, hz74, hz75, hz76, hO⟩, by rw [ht99]; exact hP, hD, by rw [ht99]; exact hzz1, by rw [ht99]; exact hzz2⟩, hS.F ht99⟩) hS.2.2 dX8_wordStatement_47
  · skip
    refine p_new (s9 := 1) (C := RX7) (T := TX7) (N := 11) (ci := 13) (fs := [.int 0, .int 0, .int 0, .int 0, .int 0, .int 0, .null, .null, .null, .null, .null]) hx hb hq pin_wsX70 tyX7 tyX7_ok hown (hq _ pw_870) (hq _ pw_871) (hq _ pw_872) hE hP hD hS hA hO rfl nw_X7 (by decide) (fun q => by rw [rep_1 (show (kN K q 1 0).1 q = 1 from if_pos rfl)]; unfold fsNode kN; simp only [if_true]; rfl) (by show 0 + 1 ≤ (2 * (sz - at9) + 20); omega) (by show 0 + 11 ≤ (11 * (2 * (sz - at9) + 20)); omega) dX8_wordStatement_0 (fun q77 H w hq78 hP hD hS hO => ?_)
    have hf79 : (kN K q77 1 0).1 q77 = 1 := if_pos rfl
    refine W.widen (k := 1) (n := 11) (by show 0 + 1 ≤ 1; omega) (by show 0 + 11 ≤ 11; omega) ?_
    refine lv_dup hx hb dX8_wordStatement_3 rfl ?_
    refine lv_iload_n hx hb dX8_wordStatement_4 rfl (lv_at hl 1 rfl) ?_
    refine lv_aload_n hx hb dX8_wordStatement_5 rfl (lv_at hl 0 rfl) ?_
    refine c_get (v := .int (nI at9)) (C := RX8) (Tc := TX8) (N := 5) (ci := 5) hx hb hq pin_wsX80 hown hE hP hO 23 (sg_23 G h0 a _ _ _ _ _) rfl 2 (by decide) (hq _ pw_776) (fun _ h9 => h9) rfl dX8_wordStatement_6 ?_
    refine lv_aload_n hx hb dX8_wordStatement_9 rfl (lv_at hl 0 rfl) ?_
    refine c_get (v := .int (nI at9)) (C := RX8) (Tc := TX8) (N := 5) (ci := 5) hx hb hq pin_wsX80 hown hE hP hO 23 (sg_23 G h0 a _ _ _ _ _) rfl 2 (by decide) (hq _ pw_776) (fun _ h9 => h9) rfl dX8_wordStatement_10 ?_
    have hO : OKP G h0 a (upd (upd (upd (upd F 2 (nI sz)) 9 (nI at9)) 10 (nI dp)) 11 (nI sg)) R Z B J (kN K q77 1 0) w := hO.to rfl
    obtain ⟨qr83, hqr84⟩ := p_recv hO (by rw [hf79]; decide) (rep_1 hf79)
    refine pc_I0 (G := G) (As := [.int 31, .int (nI at9), .int (nI at9)]) (rest := [.ref q77]) hx hb hml hown hq hE hX pX0_al hP hD hS hA hl.1 (N_init l G h0 a (upd (upd (upd (upd F 2 (nI sz)) 9 (nI at9)) 10 (nI dp)) 11 (nI sg)) R Z B J (kN K q77 1 0) w q77 31 (nI at9) (nI at9) (by omega) hO) pw_874 pw_875 pw_872 pw_765 rfl hS_X7_init rfl (Nat.le_of_ble_eq_true rfl) dX8_wordStatement_13 ⟨(by show 1 + 0 ≤ (2 * (sz - at9) + 20); omega), (by show 11 + 0 ≤ (11 * (2 * (sz - at9) + 20)); omega)⟩ ⟨(by show 2 + 1 ≤ (40 * n + 44); omega), (by show 8 + (4 + 11) + 60 ≤ (1300 * n + 1400); omega)⟩ (fun v82 u80 H locs hw81 hP hD hS => ?_)
    obtain ⟨w, _⟩ := u80
    obtain ⟨hw81, hO⟩ := hw81
    obtain rfl : v82 = none := hw81
    have hf85 : (kI (kI (kI (kN K q77 1 0) 0 q77 31) 1 q77 (nI at9)) 2 q77 (nI at9)).1 q77 = 1 := hf79
    have hO : OKP G h0 a (upd (upd (upd (upd F 2 (nI sz)) 9 (nI at9)) 10 (nI dp)) 11 (nI sg)) R Z B J (kI (kI (kI (kN K q77 1 0) 0 q77 31) 1 q77 (nI at9)) 2 q77 (nI at9)) w := hO.to rfl
    refine W.widen (k := 1) (n := 11) (by show 1 + 0 ≤ 1; omega) (by show 11 + 0 ≤ 11; omega) ?_
    refine W.eq (g2 := F0 m 16 ls [.ref q77]) rfl ?_
    change OKP G h0 a (upd (upd (upd (upd F 2 (nI sz)) 9 (nI at9)) 10 (nI dp)) 11 (nI sg)) R Z B J (mkN K q77 31 (nI at9) (nI at9)) w at hO
    obtain ⟨K86, hK87⟩ : ∃ z : PK, z = (mkN K q77 31 (nI at9) (nI at9)) := ⟨_, rfl⟩
    rw [← hK87] at hO
    have hf88 : K86.1 q77 = 1 := by rw [hK87]; exact mkN_T
    have hf89 : K86.2.1 0 q77 = 31 := by rw [hK87]; exact mkN_0
    have hf90 : K86.2.1 2 q77 = (nI at9) := by rw [hK87]; exact mkN_2
    have hf91 : K86.2.2.1 0 q77 = none := by rw [hK87]; exact mkN_C
    have hf92 : K86.2.2.1 1 q77 = none := by rw [hK87]; exact mkN_C
    have hf93 : K86.2.2.1 2 q77 = none := by rw [hK87]; exact mkN_C
    have hf94 : K86.2.2.1 3 q77 = none := by rw [hK87]; exact mkN_C
    have hf95 : K86.2.2.1 4 q77 = none := by rw [hK87]; exact mkN_C
    have hns96 : NwS K K86 g (gset g q77 0 0 0) := by rw [hK87]; exact NwS.node hns0 hq78
    have hq97 : K.1 q77 = 0 := old_T hns0.2.1 hq78
    have hg98 : (gset g q77 0 0 0) 0 q77 = 0 := gset_0
    have hno99 : NoO K86 (gset g q77 0 0 0) q77 := by rw [hK87]; exact NoO.new hns0.1 hq78
    refine lv_astore_n (lv' := [(3, .ref q77), (0, .ref (a 3)), (1, .int 31), (2, .int 1)]) hx hb dX8_wordStatement_16 rfl hl (by decide) rfl (fun ls hl => ?_)
    refine lv_aload_n hx hb dX8_wordStatement_17 rfl (lv_at hl 1 rfl) ?_
    refine lv_dup hx hb dX8_wordStatement_18 rfl ?_
    refine c_get (v := .int (nI at9)) (C := RX8) (Tc := TX8) (N := 5) (ci := 5) hx hb hq pin_wsX80 hown hE hP hO 23 (sg_23 G h0 a _ _ _ _ _) rfl 2 (by decide) (hq _ pw_776) (fun _ h9 => h9) rfl dX8_wordStatement_19 ?_
    refine lv_iconst (v := 1) hx hb dX8_wordStatement_22 (by decide) ?_
    refine lv_iadd hx hb dX8_wordStatement_23 ?_
    refine lv_topi (fun x100 e101 => ?_)
    obtain rfl : x100 = nI (at9 + 1) := e101.trans (nI_add (at9) (1))
    refine c_put (v := .int (nI (at9 + 1))) (ty := .int) (C := RX8) (Tc := TX8) (N := 5) (ci := 5) hx hb hq pin_wsX80 tyX8 tyX8_ok nmX8 hown hE hP hD hS hO 23 (sg_23 G h0 a _ _ _ _ _) rfl 2 (by decide) (hq _ pw_776) (fun _ h9 => h9) rfl (by decide +kernel) rfl rfl (Nat.le_of_ble_eq_true rfl) (sf_9 G h0 a _ _ _ _ _ (nI (at9 + 1))) dX8_wordStatement_24 (fun H locs w hP hD hS hO => ?_)
    refine lv_iload_n hx hb dX8_wordStatement_27 rfl (lv_at hl 3 rfl) ?_
    refine lv_if_eq (tgt := 39) hx hb dX8_wordStatement_28 (by decide) (fun c102 => absurd c102 (by decide)) (fun c102 => ?_)
    refine lv_aload_n hx hb dX8_wordStatement_31 rfl (lv_at hl 0 rfl) ?_
    refine lv_aload_n hx hb dX8_wordStatement_32 rfl (lv_at hl 1 rfl) ?_
    have hO : OKP G h0 a (upd (upd (upd (upd (upd (upd (upd (upd (upd F 2 (nI sz)) 9 (nI at9)) 10 (nI dp)) 11 (nI sg)) 9 (nI (at9 + 1))) 2 (nI sz)) 9 (nI (at9 + 1))) 10 (nI dp)) 11 (nI sg)) R Z B J K86 w := hO.to rfl
    obtain ⟨_, qr106, hqr107⟩ := hO.2.1 23 _ (sg_23 G h0 a _ _ _ _ _)
    refine pn_V0 (G := G) (As := []) (rest := [.ref q77]) hx hb hml hown hq hE hX pX0_al hP hD hS hA hl.1 (((PE_all l G n).1) h0 a (upd (upd (upd (upd (upd F 2 (nI sz)) 9 (nI at9)) 10 (nI dp)) 11 (nI sg)) 9 (nI (at9 + 1))) R Z B J K86 w (at9 + 1) sz dp sg 0 (gset g q77 0 0 0) (by omega) (by omega) hdp (by omega) hns96.1 (fun o9 h9 => absurd h9 (by omega)) hO hl0) (gV pw_916 pw_917 pw_918 pw_796 pw_942) hV_X8_expression qr106 5 hqr107 rfl rfl rfl (Nat.le_of_ble_eq_true rfl) dX8_wordStatement_33 ⟨(by show 1 + (2 * (sz - (at9 + 1)) + 20) ≤ (2 * (sz - at9) + 20); omega), (by show 11 + (11 * (2 * (sz - (at9 + 1)) + 20)) ≤ (11 * (2 * (sz - at9) + 20)); omega)⟩ ⟨(by show (40 * n + 40) + 1 ≤ (40 * n + 44); omega), (by show 8 + (3 + 11) + (1300 * n + 1300) ≤ (1300 * n + 1400); omega)⟩ (fun v105 u103 H locs hw104 hP hD hS => ?_) (fun ux ce9 q9 H9 locs9 hux hP9 hD9 hS9 hce hcv hcl => pb_out ux (ThQ.up (Thx.same (Thx.same (Thx.same (Thx.same (Thx.f Thx.rfl (by omega)) rfl) rfl) rfl) rfl) RhX.rfl hux) hnt hlocks hce hcv hcl hP9 hD9 hS9 (by show 1 + (2 * (sz - (at9 + 1)) + 20) ≤ (2 * (sz - at9) + 20); omega) (by show 11 + (11 * (2 * (sz - (at9 + 1)) + 20)) ≤ (11 * (2 * (sz - at9) + 20)); omega))
    obtain ⟨w, r108, K109, g110, at111, sg112, f113⟩ := u103
    obtain ⟨hw104, h114, h115, h116, hO⟩ := hw104
    have h114 : NwR K86 K109 (gset g q77 0 0 0) g110 r108 0 (at9 + 1) (5 * (20 - dp) + 6 + (sg112 - sg)) := h114
    have h115 : (at9 + 1) + 1 ≤ at111 ∧ at111 ≤ sz := h115
    have h116 : sg ≤ sg112 ∧ sg112 ≤ 60 := h116
    obtain rfl : v105 = some (.ref r108) := hw104
    have hf117 : K109.1 q77 = 1 := (((h114).2.1.1 q77 (by rw [hf88]; decide)).1).trans hf88
    have hf118 : K109.2.1 0 q77 = 31 := (((h114).2.1.1 q77 (by rw [hf88]; decide)).2.1 0).trans hf89
    have hf119 : K109.2.1 2 q77 = (nI at9) := (((h114).2.1.1 q77 (by rw [hf88]; decide)).2.1 2).trans hf90
    have hf120 : K109.2.2.1 0 q77 = none := (((h114).2.1.1 q77 (by rw [hf88]; decide)).2.2.1 0).trans hf91
    have hf121 : K109.2.2.1 1 q77 = none := (((h114).2.1.1 q77 (by rw [hf88]; decide)).2.2.1 1).trans hf92
    have hf122 : K109.2.2.1 2 q77 = none := (((h114).2.1.1 q77 (by rw [hf88]; decide)).2.2.1 2).trans hf93
    have hf123 : K109.2.2.1 3 q77 = none := (((h114).2.1.1 q77 (by rw [hf88]; decide)).2.2.1 3).trans hf94
    have hf124 : K109.2.2.1 4 q77 = none := (((h114).2.1.1 q77 (by rw [hf88]; decide)).2.2.1 4).trans hf95
    have hO : OKP G h0 a (upd (upd (upd (upd F 2 (nI sz)) 9 (nI at111)) 10 (nI dp)) 11 (nI sg112)) R Z (updA B 10 f113) J K109 w := hO.to rfl
    refine W.widen (k := (1 + (2 * (at111 - (at9 + 1)) - 1))) (n := (11 + (11 * (2 * (at111 - (at9 + 1)) - 1)))) (by show 1 + (2 * (at111 - (at9 + 1)) - 1) ≤ (1 + (2 * (at111 - (at9 + 1)) - 1)); omega) (by show 11 + (11 * (2 * (at111 - (at9 + 1)) - 1)) ≤ (11 + (11 * (2 * (at111 - (at9 + 1)) - 1))); omega) ?_
    refine W.eq (g2 := F0 m 36 ls [.ref r108, .ref q77]) rfl ?_
    have hns125 : NwS K K109 g g110 := NwS.call hns96 h114 (fun o9 h9 => absurd h9 (by omega))
    have hf126 : K109.1 r108 = 1 := h114.2.2.1.2.1
    have hg127 : g110 0 q77 = 0 := (h114.2.1.2 q77 (by rw [hf88]; decide) 0).trans hg98
    have hno128 : NoO K109 g110 q77 := NoO.call hno99 h114 hf88 (by omega)
    have hgy129 := h114.2.2.1
    have hgy129a := hgy129.2.2.1
    have hgy129b := hgy129.2.2.2.1
    refine p_put (v := .ref r108) (ty := (.object "JinjaTongue$Node")) (C := RX7) (Tc := TX7) (N := 11) (ci := 13) (K' := (kC K109 0 q77 (some r108))) hx hb hq pin_wsX70 tyX7 tyX7_ok nmX7 hown hE hP hD hS hO (by rw [hf117]; decide) (rep_1 hf117) rfl 6 (by decide) (hq _ pw_938) (fun _ h9 => h9) rfl (by decide +kernel) rfl rfl (Nat.le_of_ble_eq_true rfl) rfl (by rw [rep_1 (show (kC K109 0 q77 (some r108)).1 q77 = 1 from hf117), pc_0] <;> rfl) (fun p9 hp9 => rep_kC hp9) dX8_wordStatement_36 (fun H locs w hP hD hS hO => ?_)
    obtain ⟨K130, hK131⟩ : ∃ z : PK, z = (kC K109 0 q77 (some r108)) := ⟨_, rfl⟩
    rw [← hK131] at hO
    have hf132 : K130.1 q77 = 1 := (by rw [hK131]; exact hf117)
    have hf133 : K130.2.1 0 q77 = 31 := (by rw [hK131]; exact hf118)
    have hf134 : K130.2.1 2 q77 = (nI at9) := (by rw [hK131]; exact hf119)
    have hf135 : K130.2.2.1 1 q77 = none := (by rw [hK131]; exact (kC_of (by decide)).trans hf121)
    have hf136 : K130.2.2.1 2 q77 = none := (by rw [hK131]; exact (kC_of (by decide)).trans hf122)
    have hf137 : K130.2.2.1 3 q77 = none := (by rw [hK131]; exact (kC_of (by decide)).trans hf123)
    have hf138 : K130.2.2.1 4 q77 = none := (by rw [hK131]; exact (kC_of (by decide)).trans hf124)
    have hf139 : K130.1 r108 = 1 := (by rw [hK131]; exact hf126)
    have hf140 : K130.2.2.1 0 q77 = some r108 := by rw [hK131]; exact kC_eq
    have hns141 : NwS K K130 g g110 := by rw [hK131]; exact NwS.put hns125 hq97 hg127
    have hno142 : NoO K130 g110 q77 := by rw [hK131]; exact hno128
    refine lv_aload_n hx hb dX8_wordStatement_39 rfl (lv_at hl 1 rfl) ?_
    refine lv_bipush (v := 38) hx hb dX8_wordStatement_40 (by decide) ?_
    have hO : OKW G h0 a (upd (upd (upd (upd (upd (upd (upd (upd F 2 (nI sz)) 9 (nI at9)) 10 (nI dp)) 11 (nI sg)) 9 (nI at111)) 11 (nI sg112)) 2 (nI sz)) 9 (nI at111)) R Z (updA B 10 f113) J K130.1 (fun q99 x99 => x99 = rep G a K130 q99) w := hO.to rfl
    obtain ⟨_, qr146, hqr147⟩ := hO.2.1 23 _ (sg_23 G h0 a _ _ _ _ _)
    refine pn_V0 (G := G) (As := [.int 38]) (rest := []) hx hb hml hown hq hE hX pX0_al hP hD hS hA hl.1 (P_take l G h0 a (upd (upd (upd (upd (upd (upd F 2 (nI sz)) 9 (nI at9)) 10 (nI dp)) 11 (nI sg)) 9 (nI at111)) 11 (nI sg112)) R Z (updA B 10 f113) J K130.1 (fun q99 x99 => x99 = rep G a K130 q99) w 38 at111 sz (by omega) (by omega) (by decide) hO hl0) (gV pw_793 pw_794 pw_795 pw_796 pw_781) hV_X8_take qr146 5 hqr147 rfl rfl rfl (Nat.le_of_ble_eq_true rfl) dX8_wordStatement_42 ⟨(by show (1 + (2 * (at111 - (at9 + 1)) - 1)) + 1 ≤ (2 * (sz - at9) + 20); omega), (by show (11 + (11 * (2 * (at111 - (at9 + 1)) - 1))) + 6 ≤ (11 * (2 * (sz - at9) + 20)); omega)⟩ ⟨(by show 7 + 1 ≤ (40 * n + 44); omega), (by show 8 + (2 + 11) + 122 ≤ (1300 * n + 1400); omega)⟩ (fun v145 u143 H locs hw144 hP hD hS => ?_) (fun ux ce9 q9 H9 locs9 hux hP9 hD9 hS9 hce hcv hcl => pb_out ux (ThQ.up (Thx.same (Thx.same (Thx.b (Thx.f (Thx.f Thx.rfl (by omega)) (by omega)) (by omega) (by decide)) rfl) rfl) RhX.rfl hux) hnt hlocks hce hcv hcl hP9 hD9 hS9 (by show (1 + (2 * (at111 - (at9 + 1)) - 1)) + 1 ≤ (2 * (sz - at9) + 20); omega) (by show (11 + (11 * (2 * (at111 - (at9 + 1)) - 1))) + 6 ≤ (11 * (2 * (sz - at9) + 20)); omega))
    obtain ⟨w, _⟩ := u143
    obtain ⟨hw144, h148, hO⟩ := hw144
    have h148 : at111 + 1 ≤ sz := h148
    obtain rfl : v145 = some (.int (nI at111)) := hw144
    have hO : OKP G h0 a (upd (upd (upd (upd F 2 (nI sz)) 9 (nI (at111 + 1))) 10 (nI dp)) 11 (nI sg112)) R Z (updA B 10 f113) J K130 w := hO.to rfl
    refine W.widen (k := (1 + (2 * (at111 - (at9 + 1)) - 1))) (n := (11 + (11 * (2 * (at111 - (at9 + 1)) - 1)))) (by show (1 + (2 * (at111 - (at9 + 1)) - 1)) + 0 ≤ (1 + (2 * (at111 - (at9 + 1)) - 1)); omega) (by show (11 + (11 * (2 * (at111 - (at9 + 1)) - 1))) + 0 ≤ (11 + (11 * (2 * (at111 - (at9 + 1)) - 1))); omega) ?_
    refine W.eq (g2 := F0 m 45 ls [.int (nI at111)]) rfl ?_
    refine lv_pop hx hb dX8_wordStatement_45 rfl ?_
    refine lv_aload_n hx hb dX8_wordStatement_46 rfl (lv_at hl 0 rfl) ?_
    refine W_size (fun hz1 hz2 => ?_)
    refine vx_ret ?_
    obtain ⟨k9, hkI, hkS, hkE, hkM, hkN⟩ : ∃ z : Nat, Itv z ∧ rS z = at9 ∧ rE z = (at111 + 1) ∧ rM z = (at111 + 1) ∧ rN z = (at111 + 1) := ⟨rk at9 (at111 + 1) (at111 + 1) (at111 + 1), Itv.of (by omega), rS_rk (by omega), rE_rk (by omega), rM_rk (by omega), rN_rk (by omega)⟩
    have hkid : ∀ f9 y9 : Nat, f9 ≤ 3 → K130.2.2.1 f9 q77 = some y9 → K130.1 y9 = 1 ∧ 1 ≤ g110 0 y9 ∧ g110 0 y9 < (173 + 3 * (20 - dp)) := by
      intro f9 y9 hf9 hy9
      rcases (show f9 = 0 ∨ f9 = 1 ∨ f9 = 2 ∨ f9 = 3 by omega) with rfl | rfl | rfl | rfl
      · rw [hf140] at hy9; cases hy9; exact ⟨hf139, (by omega), by omega⟩
      · rw [hf135] at hy9; cases hy9
      · rw [hf136] at hy9; cases hy9
      · rw [hf137] at hy9; cases hy9
    have hdn := NwS.done1I (q := q77) (L := (173 + 3 * (20 - dp))) (O := O) (k := k9) hns141 hq97 hf132 hg127 (by omega) hkI (by rw [hf133]; exact ⟨(fun _ => (by show ¬ K130.2.2.1 0 q77 = none; rw [hf140]; intro z; cases z)), (fun z => absurd z (by decide)), (fun z => absurd z (by decide)), (fun z => absurd z (by decide)), (fun z => absurd z (by decide))⟩) (fun f9 z => by rw [hf133] at z; rcases z with ⟨z, _⟩ | ⟨z | z | z, _⟩ <;> exact absurd z (by decide)) hkid hf138 hno142 (fun f9 x9 _ _ => Kch.no (by rw [hf133]; decide)) how
    have hz149 : NwR K K130 g (gset g110 q77 (173 + 3 * (20 - dp)) O k9) q77 O k9 ((173 + 3 * (20 - dp))) := hdn
    have hz150 : at9 + 3 ≤ (at111 + 1) ∧ (at111 + 1) ≤ sz := (by omega)
    have hz151 : sg ≤ sg112 ∧ sg112 ≤ 60 := (by omega)
    have hz152 : rS k9 = at9 ∧ rE k9 ≤ (at111 + 1) ∧ rS k9 ≤ rE k9 := (by omega)
    have hO : OKP G h0 a (upd (upd (upd (upd F 2 (nI sz)) 9 (nI (at111 + 1))) 10 (nI dp)) 11 (nI sg112)) R Z (updA B 10 f113) J K130 w := hO.to rfl
    refine W.widen (k := (2 * (sz - at9) + 20)) (n := (11 * (2 * (sz - at9) + 20))) (by omega) (by omega) ?_
    have hzz1 : H.size ≤ s.heap.size + ((2 * ((at111 + 1) - at9) - 4)) := (by have z : (1 + (2 * (at111 - (at9 + 1)) - 1)) ≤ (2 * ((at111 + 1) - at9) - 4) := (by omega); omega)
    have hzz2 : hSl H ≤ hSl s.heap + ((11 * (2 * ((at111 + 1) - at9) - 4))) := (by have z : (11 + (11 * (2 * (at111 - (at9 + 1)) - 1))) ≤ (11 * (2 * ((at111 + 1) - at9) - 4)) := (by omega); omega)
    exact W.aret (v := .ref q77) hx hb hr (Or.inl ⟨_, rfl⟩) (Or.inr ⟨_, rfl⟩) (fun t99 ht99 hW99 => ⟨⟨_, (w, (q77, K130, (gset g110 q77 (173 + 3 * (20 - dp)) O k9), (at111 + 1), sg112, f113, k9)), rfl, ⟨rfl, hz149, hz150, hz151, hz152, hO⟩, by rw [ht99]; exact hP, hD, by rw [ht99]; exact hzz1, by rw [ht99]; exact hzz2⟩, hS.F ht99⟩) hS.2.2 dX8_wordStatement_47
theorem dX8_printStatement_0 : decode cX8_printStatement 0 = .ok (.new 143, 3) := by decide +kernel
theorem dX8_printStatement_3 : decode cX8_printStatement 3 = .ok (.dup, 1) := by decide +kernel
theorem dX8_printStatement_4 : decode cX8_printStatement 4 = .ok (.bipush 33, 2) := by decide +kernel
theorem dX8_printStatement_6 : decode cX8_printStatement 6 = .ok (.aload_n 0, 1) := by decide +kernel
theorem dX8_printStatement_7 : decode cX8_printStatement 7 = .ok (.getfield 17, 3) := by decide +kernel
theorem dX8_printStatement_10 : decode cX8_printStatement 10 = .ok (.aload_n 0, 1) := by decide +kernel
theorem dX8_printStatement_11 : decode cX8_printStatement 11 = .ok (.getfield 17, 3) := by decide +kernel
theorem dX8_printStatement_14 : decode cX8_printStatement 14 = .ok (.invokespecial 145, 3) := by decide +kernel
theorem dX8_printStatement_17 : decode cX8_printStatement 17 = .ok (.astore_n 1, 1) := by decide +kernel
theorem dX8_printStatement_18 : decode cX8_printStatement 18 = .ok (.aload_n 0, 1) := by decide +kernel
theorem dX8_printStatement_19 : decode cX8_printStatement 19 = .ok (.dup, 1) := by decide +kernel
theorem dX8_printStatement_20 : decode cX8_printStatement 20 = .ok (.getfield 17, 3) := by decide +kernel
theorem dX8_printStatement_23 : decode cX8_printStatement 23 = .ok (.iconst 1, 1) := by decide +kernel
theorem dX8_printStatement_24 : decode cX8_printStatement 24 = .ok (.iadd, 1) := by decide +kernel
theorem dX8_printStatement_25 : decode cX8_printStatement 25 = .ok (.putfield 17, 3) := by decide +kernel
theorem dX8_printStatement_28 : decode cX8_printStatement 28 = .ok (.aload_n 0, 1) := by decide +kernel
theorem dX8_printStatement_29 : decode cX8_printStatement 29 = .ok (.bipush 34, 2) := by decide +kernel
theorem dX8_printStatement_31 : decode cX8_printStatement 31 = .ok (.invokevirtual 53, 3) := by decide +kernel
theorem dX8_printStatement_34 : decode cX8_printStatement 34 = .ok (.pop, 1) := by decide +kernel
theorem dX8_printStatement_35 : decode cX8_printStatement 35 = .ok (.aload_n 1, 1) := by decide +kernel
theorem dX8_printStatement_36 : decode cX8_printStatement 36 = .ok (.aload_n 0, 1) := by decide +kernel
theorem dX8_printStatement_37 : decode cX8_printStatement 37 = .ok (.invokevirtual 196, 3) := by decide +kernel
theorem dX8_printStatement_40 : decode cX8_printStatement 40 = .ok (.putfield 165, 3) := by decide +kernel
theorem dX8_printStatement_43 : decode cX8_printStatement 43 = .ok (.aload_n 0, 1) := by decide +kernel
theorem dX8_printStatement_44 : decode cX8_printStatement 44 = .ok (.bipush 35, 2) := by decide +kernel
theorem dX8_printStatement_46 : decode cX8_printStatement 46 = .ok (.invokevirtual 53, 3) := by decide +kernel
theorem dX8_printStatement_49 : decode cX8_printStatement 49 = .ok (.pop, 1) := by decide +kernel
theorem dX8_printStatement_50 : decode cX8_printStatement 50 = .ok (.aload_n 0, 1) := by decide +kernel
theorem dX8_printStatement_51 : decode cX8_printStatement 51 = .ok (.bipush 38, 2) := by decide +kernel
theorem dX8_printStatement_53 : decode cX8_printStatement 53 = .ok (.invokevirtual 53, 3) := by decide +kernel
theorem dX8_printStatement_56 : decode cX8_printStatement 56 = .ok (.pop, 1) := by decide +kernel
theorem dX8_printStatement_57 : decode cX8_printStatement 57 = .ok (.aload_n 1, 1) := by decide +kernel
theorem dX8_printStatement_58 : decode cX8_printStatement 58 = .ok (.areturn, 1) := by decide +kernel
set_option maxHeartbeats 20000000 in
set_option maxRecDepth 100000 in
theorem P_print (l : Launch) (G : pT) (h0 : Nat) (a : Nat → Nat) (F : Nat → Int32) (R : Nat → Value) (Z : Int64) (B : Nat → Nat → Int32) (J : Nat → Nat → Int64) (K : PK) (w : va_W) (n : Nat) (at9 : Nat) (sz : Nat) (dp : Nat) (sg : Nat) (O : Nat) (g : Nat → Nat → Nat) (hsz : sz ≤ 5000) (hat : at9 ≤ sz) (hdp : dp + n = 20) (hsg : sg ≤ 60) (hwn : WN K g) (how : ∀ o : Nat, O = o + 1 → K.1 o = 1 ∧ g 0 o = 0 ∧ ¬ K.2.1 0 o = 32) (hle : at9 + 1 ≤ sz) (hO : OKP G h0 a (upd (upd (upd (upd F 2 (nI sz)) 9 (nI at9)) 10 (nI dp)) 11 (nI sg)) R Z B J K w) (hl0 : l.stackTraces = false) : PBn l G pX0 yX8_printStatement cX8_printStatement 2 (some (.object "JinjaTongue$Node")) ({ frames := (40 * n + 44), cells := (2 * (sz - at9) + 20), slots := (11 * (2 * (sz - at9) + 20)), locals := (1300 * n + 1400) }) [.ref (a 3)] w (fun (v : Option Value) (u : va_W × (Nat × PK × (Nat → Nat → Nat) × Nat × Nat × (Nat → Int32) × Nat)) => v = some (.ref u.2.1) ∧ (NwR K u.2.2.1 g u.2.2.2.1 u.2.1 O u.2.2.2.2.2.2.2 ((173 + 3 * (20 - dp)))) ∧ (at9 + 5 ≤ u.2.2.2.2.1 ∧ u.2.2.2.2.1 ≤ sz) ∧ (sg ≤ u.2.2.2.2.2.1 ∧ u.2.2.2.2.2.1 ≤ 60) ∧ (rS u.2.2.2.2.2.2.2 = at9 ∧ rE u.2.2.2.2.2.2.2 ≤ u.2.2.2.2.1 ∧ rS u.2.2.2.2.2.2.2 ≤ rE u.2.2.2.2.2.2.2) ∧ (OKP G h0 a (upd (upd (upd (upd F 2 (nI sz)) 9 (nI u.2.2.2.2.1)) 10 (nI dp)) 11 (nI u.2.2.2.2.2.1)) R Z (updA B 10 u.2.2.2.2.2.2.1) J u.2.2.1 u.1)) (fun u => u.1) (fun (u : va_W × (Nat × PK × (Nat → Nat → Nat) × Nat × Nat × (Nat → Int32) × Nat)) => (2 * (u.2.2.2.2.1 - at9) - 5)) (fun (u : va_W × (Nat × PK × (Nat → Nat → Nat) × Nat × Nat × (Nat → Int32) × Nat)) => (11 * (2 * (u.2.2.2.2.1 - at9) - 5))) (fun (u : va_W × (Nat → Int32) × (Nat → Value) × (Nat → Nat → Int32)) => ThQ G h0 a (upd (upd (upd (upd F 2 (nI sz)) 9 (nI at9)) 10 (nI dp)) 11 (nI sg)) R Z B J u) (fun u => u.1) := by
  intro sz
  refine vx_ofW (cc := cX8_printStatement) (maxL := 2) (ret := (some (.object "JinjaTongue$Node"))) (by decide) rfl ?_
  intro p e s m args below meth c s₁ B9 hml hnt hv
  obtain ⟨rfl, hsz, hP, hD0, hE, hX⟩ := hv
  have hx := B9.exec
  have hb := B9.bytes
  have hr := B9.returns
  have hts := atoms_spec (ws := Cond.code yX8_printStatement cX8_printStatement 2 (some (.object "JinjaTongue$Node")) :: pw) B9.pre
  have hq : ∀ w ∈ pw, w.before _ s = true := fun w h => hts w (List.mem_cons_of_mem _ h)
  have hown : s.vm.findClass RX8 = some m.cls := findClass_of_methodNamed B9.named
  have hlocks := B9.notSynchronized
  subst hsz
  have hD := hD0.self (sz := s.heap.size)
  have hA : ∀ q : Nat, s.heap.size ≤ q → va_A w s.heap.size q := fun q h => Or.inr h
  generalize va_A w s.heap.size = A at hD hE hA ⊢
  have hS : va_S A s.heap s.heap [] := va_S.rf
  have hl := lv_entry ([.ref (a 3)]) (n := 2) (Nat.le_of_ble_eq_true rfl)
  rw [lg_entry_eq]
  generalize (lg_sl ([.ref (a 3)]) ++ List.replicate (2 - (lg_sl ([.ref (a 3)])).length) Slot.unset).toArray = ls at hl ⊢
  have hl : lv_has ls 2 [(0, .ref (a 3))] := hl
  have hns0 : NwS K K g g := NwS.nil hwn
  refine p_new (s9 := 1) (C := RX7) (T := TX7) (N := 11) (ci := 13) (fs := [.int 0, .int 0, .int 0, .int 0, .int 0, .int 0, .null, .null, .null, .null, .null]) hx hb hq pin_wsX70 tyX7 tyX7_ok hown (hq _ pw_870) (hq _ pw_871) (hq _ pw_872) hE hP hD hS hA hO rfl nw_X7 (by decide) (fun q => by rw [rep_1 (show (kN K q 1 0).1 q = 1 from if_pos rfl)]; unfold fsNode kN; simp only [if_true]; rfl) (by show 0 + 1 ≤ (2 * (sz - at9) + 20); omega) (by show 0 + 11 ≤ (11 * (2 * (sz - at9) + 20)); omega) dX8_printStatement_0 (fun q1 H w hq2 hP hD hS hO => ?_)
  have hf3 : (kN K q1 1 0).1 q1 = 1 := if_pos rfl
  refine W.widen (k := 1) (n := 11) (by show 0 + 1 ≤ 1; omega) (by show 0 + 11 ≤ 11; omega) ?_
  refine lv_dup hx hb dX8_printStatement_3 rfl ?_
  refine lv_bipush (v := 33) hx hb dX8_printStatement_4 (by decide) ?_
  refine lv_aload_n hx hb dX8_printStatement_6 rfl (lv_at hl 0 rfl) ?_
  refine c_get (v := .int (nI at9)) (C := RX8) (Tc := TX8) (N := 5) (ci := 5) hx hb hq pin_wsX80 hown hE hP hO 23 (sg_23 G h0 a _ _ _ _ _) rfl 2 (by decide) (hq _ pw_776) (fun _ h9 => h9) rfl dX8_printStatement_7 ?_
  refine lv_aload_n hx hb dX8_printStatement_10 rfl (lv_at hl 0 rfl) ?_
  refine c_get (v := .int (nI at9)) (C := RX8) (Tc := TX8) (N := 5) (ci := 5) hx hb hq pin_wsX80 hown hE hP hO 23 (sg_23 G h0 a _ _ _ _ _) rfl 2 (by decide) (hq _ pw_776) (fun _ h9 => h9) rfl dX8_printStatement_11 ?_
  have hO : OKP G h0 a (upd (upd (upd (upd F 2 (nI sz)) 9 (nI at9)) 10 (nI dp)) 11 (nI sg)) R Z B J (kN K q1 1 0) w := hO.to rfl
  obtain ⟨qr7, hqr8⟩ := p_recv hO (by rw [hf3]; decide) (rep_1 hf3)
  refine pc_I0 (G := G) (As := [.int 33, .int (nI at9), .int (nI at9)]) (rest := [.ref q1]) hx hb hml hown hq hE hX pX0_al hP hD hS hA hl.1 (N_init l G h0 a (upd (upd (upd (upd F 2 (nI sz)) 9 (nI at9)) 10 (nI dp)) 11 (nI sg)) R Z B J (kN K q1 1 0) w q1 33 (nI at9) (nI at9) (by omega) hO) pw_874 pw_875 pw_872 pw_765 rfl hS_X7_init rfl (Nat.le_of_ble_eq_true rfl) dX8_printStatement_14 ⟨(by show 1 + 0 ≤ (2 * (sz - at9) + 20); omega), (by show 11 + 0 ≤ (11 * (2 * (sz - at9) + 20)); omega)⟩ ⟨(by show 2 + 1 ≤ (40 * n + 44); omega), (by show 8 + (4 + 11) + 60 ≤ (1300 * n + 1400); omega)⟩ (fun v6 u4 H locs hw5 hP hD hS => ?_)
  obtain ⟨w, _⟩ := u4
  obtain ⟨hw5, hO⟩ := hw5
  obtain rfl : v6 = none := hw5
  have hf9 : (kI (kI (kI (kN K q1 1 0) 0 q1 33) 1 q1 (nI at9)) 2 q1 (nI at9)).1 q1 = 1 := hf3
  have hO : OKP G h0 a (upd (upd (upd (upd F 2 (nI sz)) 9 (nI at9)) 10 (nI dp)) 11 (nI sg)) R Z B J (kI (kI (kI (kN K q1 1 0) 0 q1 33) 1 q1 (nI at9)) 2 q1 (nI at9)) w := hO.to rfl
  refine W.widen (k := 1) (n := 11) (by show 1 + 0 ≤ 1; omega) (by show 11 + 0 ≤ 11; omega) ?_
  refine W.eq (g2 := F0 m 17 ls [.ref q1]) rfl ?_
  change OKP G h0 a (upd (upd (upd (upd F 2 (nI sz)) 9 (nI at9)) 10 (nI dp)) 11 (nI sg)) R Z B J (mkN K q1 33 (nI at9) (nI at9)) w at hO
  obtain ⟨K10, hK11⟩ : ∃ z : PK, z = (mkN K q1 33 (nI at9) (nI at9)) := ⟨_, rfl⟩
  rw [← hK11] at hO
  have hf12 : K10.1 q1 = 1 := by rw [hK11]; exact mkN_T
  have hf13 : K10.2.1 0 q1 = 33 := by rw [hK11]; exact mkN_0
  have hf14 : K10.2.1 2 q1 = (nI at9) := by rw [hK11]; exact mkN_2
  have hf15 : K10.2.2.1 0 q1 = none := by rw [hK11]; exact mkN_C
  have hf16 : K10.2.2.1 1 q1 = none := by rw [hK11]; exact mkN_C
  have hf17 : K10.2.2.1 2 q1 = none := by rw [hK11]; exact mkN_C
  have hf18 : K10.2.2.1 3 q1 = none := by rw [hK11]; exact mkN_C
  have hf19 : K10.2.2.1 4 q1 = none := by rw [hK11]; exact mkN_C
  have hns20 : NwS K K10 g (gset g q1 0 0 0) := by rw [hK11]; exact NwS.node hns0 hq2
  have hq21 : K.1 q1 = 0 := old_T hns0.2.1 hq2
  have hg22 : (gset g q1 0 0 0) 0 q1 = 0 := gset_0
  have hno23 : NoO K10 (gset g q1 0 0 0) q1 := by rw [hK11]; exact NoO.new hns0.1 hq2
  refine lv_astore_n (lv' := [(1, .ref q1), (0, .ref (a 3))]) hx hb dX8_printStatement_17 rfl hl (by decide) rfl (fun ls hl => ?_)
  refine lv_aload_n hx hb dX8_printStatement_18 rfl (lv_at hl 1 rfl) ?_
  refine lv_dup hx hb dX8_printStatement_19 rfl ?_
  refine c_get (v := .int (nI at9)) (C := RX8) (Tc := TX8) (N := 5) (ci := 5) hx hb hq pin_wsX80 hown hE hP hO 23 (sg_23 G h0 a _ _ _ _ _) rfl 2 (by decide) (hq _ pw_776) (fun _ h9 => h9) rfl dX8_printStatement_20 ?_
  refine lv_iconst (v := 1) hx hb dX8_printStatement_23 (by decide) ?_
  refine lv_iadd hx hb dX8_printStatement_24 ?_
  refine lv_topi (fun x24 e25 => ?_)
  obtain rfl : x24 = nI (at9 + 1) := e25.trans (nI_add (at9) (1))
  refine c_put (v := .int (nI (at9 + 1))) (ty := .int) (C := RX8) (Tc := TX8) (N := 5) (ci := 5) hx hb hq pin_wsX80 tyX8 tyX8_ok nmX8 hown hE hP hD hS hO 23 (sg_23 G h0 a _ _ _ _ _) rfl 2 (by decide) (hq _ pw_776) (fun _ h9 => h9) rfl (by decide +kernel) rfl rfl (Nat.le_of_ble_eq_true rfl) (sf_9 G h0 a _ _ _ _ _ (nI (at9 + 1))) dX8_printStatement_25 (fun H locs w hP hD hS hO => ?_)
  refine lv_aload_n hx hb dX8_printStatement_28 rfl (lv_at hl 1 rfl) ?_
  refine lv_bipush (v := 34) hx hb dX8_printStatement_29 (by decide) ?_
  have hO : OKW G h0 a (upd (upd (upd (upd (upd (upd (upd F 2 (nI sz)) 9 (nI at9)) 10 (nI dp)) 11 (nI sg)) 9 (nI (at9 + 1))) 2 (nI sz)) 9 (nI (at9 + 1))) R Z B J K10.1 (fun q99 x99 => x99 = rep G a K10 q99) w := hO.to rfl
  obtain ⟨_, qr29, hqr30⟩ := hO.2.1 23 _ (sg_23 G h0 a _ _ _ _ _)
  refine pn_V0 (G := G) (As := [.int 34]) (rest := []) hx hb hml hown hq hE hX pX0_al hP hD hS hA hl.1 (P_take l G h0 a (upd (upd (upd (upd (upd F 2 (nI sz)) 9 (nI at9)) 10 (nI dp)) 11 (nI sg)) 9 (nI (at9 + 1))) R Z B J K10.1 (fun q99 x99 => x99 = rep G a K10 q99) w 34 (at9 + 1) sz (by omega) (by omega) (by decide) hO hl0) (gV pw_793 pw_794 pw_795 pw_796 pw_781) hV_X8_take qr29 5 hqr30 rfl rfl rfl (Nat.le_of_ble_eq_true rfl) dX8_printStatement_31 ⟨(by show 1 + 1 ≤ (2 * (sz - at9) + 20); omega), (by show 11 + 6 ≤ (11 * (2 * (sz - at9) + 20)); omega)⟩ ⟨(by show 7 + 1 ≤ (40 * n + 44); omega), (by show 8 + (2 + 11) + 122 ≤ (1300 * n + 1400); omega)⟩ (fun v28 u26 H locs hw27 hP hD hS => ?_) (fun ux ce9 q9 H9 locs9 hux hP9 hD9 hS9 hce hcv hcl => pb_out ux (ThQ.up (Thx.same (Thx.same (Thx.f Thx.rfl (by omega)) rfl) rfl) RhX.rfl hux) hnt hlocks hce hcv hcl hP9 hD9 hS9 (by show 1 + 1 ≤ (2 * (sz - at9) + 20); omega) (by show 11 + 6 ≤ (11 * (2 * (sz - at9) + 20)); omega))
  obtain ⟨w, _⟩ := u26
  obtain ⟨hw27, h31, hO⟩ := hw27
  have h31 : (at9 + 1) + 1 ≤ sz := h31
  obtain rfl : v28 = some (.int (nI (at9 + 1))) := hw27
  have hO : OKP G h0 a (upd (upd (upd (upd F 2 (nI sz)) 9 (nI ((at9 + 1) + 1))) 10 (nI dp)) 11 (nI sg)) R Z B J K10 w := hO.to rfl
  refine W.widen (k := 1) (n := 11) (by show 1 + 0 ≤ 1; omega) (by show 11 + 0 ≤ 11; omega) ?_
  refine W.eq (g2 := F0 m 34 ls [.int (nI (at9 + 1))]) rfl ?_
  refine lv_pop hx hb dX8_printStatement_34 rfl ?_
  refine lv_aload_n hx hb dX8_printStatement_35 rfl (lv_at hl 0 rfl) ?_
  refine lv_aload_n hx hb dX8_printStatement_36 rfl (lv_at hl 1 rfl) ?_
  have hO : OKP G h0 a (upd (upd (upd (upd (upd (upd (upd (upd (upd F 2 (nI sz)) 9 (nI at9)) 10 (nI dp)) 11 (nI sg)) 9 (nI ((at9 + 1) + 1))) 2 (nI sz)) 9 (nI ((at9 + 1) + 1))) 10 (nI dp)) 11 (nI sg)) R Z B J K10 w := hO.to rfl
  obtain ⟨_, qr35, hqr36⟩ := hO.2.1 23 _ (sg_23 G h0 a _ _ _ _ _)
  refine pn_V0 (G := G) (As := []) (rest := [.ref q1]) hx hb hml hown hq hE hX pX0_al hP hD hS hA hl.1 (((PE_all l G n).1) h0 a (upd (upd (upd (upd (upd F 2 (nI sz)) 9 (nI at9)) 10 (nI dp)) 11 (nI sg)) 9 (nI ((at9 + 1) + 1))) R Z B J K10 w ((at9 + 1) + 1) sz dp sg 0 (gset g q1 0 0 0) (by omega) (by omega) hdp (by omega) hns20.1 (fun o9 h9 => absurd h9 (by omega)) hO hl0) (gV pw_916 pw_917 pw_918 pw_796 pw_942) hV_X8_expression qr35 5 hqr36 rfl rfl rfl (Nat.le_of_ble_eq_true rfl) dX8_printStatement_37 ⟨(by show 1 + (2 * (sz - ((at9 + 1) + 1)) + 20) ≤ (2 * (sz - at9) + 20); omega), (by show 11 + (11 * (2 * (sz - ((at9 + 1) + 1)) + 20)) ≤ (11 * (2 * (sz - at9) + 20)); omega)⟩ ⟨(by show (40 * n + 40) + 1 ≤ (40 * n + 44); omega), (by show 8 + (3 + 11) + (1300 * n + 1300) ≤ (1300 * n + 1400); omega)⟩ (fun v34 u32 H locs hw33 hP hD hS => ?_) (fun ux ce9 q9 H9 locs9 hux hP9 hD9 hS9 hce hcv hcl => pb_out ux (ThQ.up (Thx.same (Thx.same (Thx.same (Thx.same (Thx.f Thx.rfl (by omega)) rfl) rfl) rfl) rfl) RhX.rfl hux) hnt hlocks hce hcv hcl hP9 hD9 hS9 (by show 1 + (2 * (sz - ((at9 + 1) + 1)) + 20) ≤ (2 * (sz - at9) + 20); omega) (by show 11 + (11 * (2 * (sz - ((at9 + 1) + 1)) + 20)) ≤ (11 * (2 * (sz - at9) + 20)); omega))
  obtain ⟨w, r37, K38, g39, at40, sg41, f42⟩ := u32
  obtain ⟨hw33, h43, h44, h45, hO⟩ := hw33
  have h43 : NwR K10 K38 (gset g q1 0 0 0) g39 r37 0 ((at9 + 1) + 1) (5 * (20 - dp) + 6 + (sg41 - sg)) := h43
  have h44 : ((at9 + 1) + 1) + 1 ≤ at40 ∧ at40 ≤ sz := h44
  have h45 : sg ≤ sg41 ∧ sg41 ≤ 60 := h45
  obtain rfl : v34 = some (.ref r37) := hw33
  have hf46 : K38.1 q1 = 1 := (((h43).2.1.1 q1 (by rw [hf12]; decide)).1).trans hf12
  have hf47 : K38.2.1 0 q1 = 33 := (((h43).2.1.1 q1 (by rw [hf12]; decide)).2.1 0).trans hf13
  have hf48 : K38.2.1 2 q1 = (nI at9) := (((h43).2.1.1 q1 (by rw [hf12]; decide)).2.1 2).trans hf14
  have hf49 : K38.2.2.1 0 q1 = none := (((h43).2.1.1 q1 (by rw [hf12]; decide)).2.2.1 0).trans hf15
  have hf50 : K38.2.2.1 1 q1 = none := (((h43).2.1.1 q1 (by rw [hf12]; decide)).2.2.1 1).trans hf16
  have hf51 : K38.2.2.1 2 q1 = none := (((h43).2.1.1 q1 (by rw [hf12]; decide)).2.2.1 2).trans hf17
  have hf52 : K38.2.2.1 3 q1 = none := (((h43).2.1.1 q1 (by rw [hf12]; decide)).2.2.1 3).trans hf18
  have hf53 : K38.2.2.1 4 q1 = none := (((h43).2.1.1 q1 (by rw [hf12]; decide)).2.2.1 4).trans hf19
  have hO : OKP G h0 a (upd (upd (upd (upd F 2 (nI sz)) 9 (nI at40)) 10 (nI dp)) 11 (nI sg41)) R Z (updA B 10 f42) J K38 w := hO.to rfl
  refine W.widen (k := (1 + (2 * (at40 - ((at9 + 1) + 1)) - 1))) (n := (11 + (11 * (2 * (at40 - ((at9 + 1) + 1)) - 1)))) (by show 1 + (2 * (at40 - ((at9 + 1) + 1)) - 1) ≤ (1 + (2 * (at40 - ((at9 + 1) + 1)) - 1)); omega) (by show 11 + (11 * (2 * (at40 - ((at9 + 1) + 1)) - 1)) ≤ (11 + (11 * (2 * (at40 - ((at9 + 1) + 1)) - 1))); omega) ?_
  refine W.eq (g2 := F0 m 40 ls [.ref r37, .ref q1]) rfl ?_
  have hns54 : NwS K K38 g g39 := NwS.call hns20 h43 (fun o9 h9 => absurd h9 (by omega))
  have hf55 : K38.1 r37 = 1 := h43.2.2.1.2.1
  have hg56 : g39 0 q1 = 0 := (h43.2.1.2 q1 (by rw [hf12]; decide) 0).trans hg22
  have hno57 : NoO K38 g39 q1 := NoO.call hno23 h43 hf12 (by omega)
  have hgy58 := h43.2.2.1
  have hgy58a := hgy58.2.2.1
  have hgy58b := hgy58.2.2.2.1
  refine p_put (v := .ref r37) (ty := (.object "JinjaTongue$Node")) (C := RX7) (Tc := TX7) (N := 11) (ci := 13) (K' := (kC K38 0 q1 (some r37))) hx hb hq pin_wsX70 tyX7 tyX7_ok nmX7 hown hE hP hD hS hO (by rw [hf46]; decide) (rep_1 hf46) rfl 6 (by decide) (hq _ pw_938) (fun _ h9 => h9) rfl (by decide +kernel) rfl rfl (Nat.le_of_ble_eq_true rfl) rfl (by rw [rep_1 (show (kC K38 0 q1 (some r37)).1 q1 = 1 from hf46), pc_0] <;> rfl) (fun p9 hp9 => rep_kC hp9) dX8_printStatement_40 (fun H locs w hP hD hS hO => ?_)
  obtain ⟨K59, hK60⟩ : ∃ z : PK, z = (kC K38 0 q1 (some r37)) := ⟨_, rfl⟩
  rw [← hK60] at hO
  have hf61 : K59.1 q1 = 1 := (by rw [hK60]; exact hf46)
  have hf62 : K59.2.1 0 q1 = 33 := (by rw [hK60]; exact hf47)
  have hf63 : K59.2.1 2 q1 = (nI at9) := (by rw [hK60]; exact hf48)
  have hf64 : K59.2.2.1 1 q1 = none := (by rw [hK60]; exact (kC_of (by decide)).trans hf50)
  have hf65 : K59.2.2.1 2 q1 = none := (by rw [hK60]; exact (kC_of (by decide)).trans hf51)
  have hf66 : K59.2.2.1 3 q1 = none := (by rw [hK60]; exact (kC_of (by decide)).trans hf52)
  have hf67 : K59.2.2.1 4 q1 = none := (by rw [hK60]; exact (kC_of (by decide)).trans hf53)
  have hf68 : K59.1 r37 = 1 := (by rw [hK60]; exact hf55)
  have hf69 : K59.2.2.1 0 q1 = some r37 := by rw [hK60]; exact kC_eq
  have hns70 : NwS K K59 g g39 := by rw [hK60]; exact NwS.put hns54 hq21 hg56
  have hno71 : NoO K59 g39 q1 := by rw [hK60]; exact hno57
  refine lv_aload_n hx hb dX8_printStatement_43 rfl (lv_at hl 1 rfl) ?_
  refine lv_bipush (v := 35) hx hb dX8_printStatement_44 (by decide) ?_
  have hO : OKW G h0 a (upd (upd (upd (upd (upd (upd (upd (upd F 2 (nI sz)) 9 (nI at9)) 10 (nI dp)) 11 (nI sg)) 9 (nI at40)) 11 (nI sg41)) 2 (nI sz)) 9 (nI at40)) R Z (updA B 10 f42) J K59.1 (fun q99 x99 => x99 = rep G a K59 q99) w := hO.to rfl
  obtain ⟨_, qr75, hqr76⟩ := hO.2.1 23 _ (sg_23 G h0 a _ _ _ _ _)
  refine pn_V0 (G := G) (As := [.int 35]) (rest := []) hx hb hml hown hq hE hX pX0_al hP hD hS hA hl.1 (P_take l G h0 a (upd (upd (upd (upd (upd (upd F 2 (nI sz)) 9 (nI at9)) 10 (nI dp)) 11 (nI sg)) 9 (nI at40)) 11 (nI sg41)) R Z (updA B 10 f42) J K59.1 (fun q99 x99 => x99 = rep G a K59 q99) w 35 at40 sz (by omega) (by omega) (by decide) hO hl0) (gV pw_793 pw_794 pw_795 pw_796 pw_781) hV_X8_take qr75 5 hqr76 rfl rfl rfl (Nat.le_of_ble_eq_true rfl) dX8_printStatement_46 ⟨(by show (1 + (2 * (at40 - ((at9 + 1) + 1)) - 1)) + 1 ≤ (2 * (sz - at9) + 20); omega), (by show (11 + (11 * (2 * (at40 - ((at9 + 1) + 1)) - 1))) + 6 ≤ (11 * (2 * (sz - at9) + 20)); omega)⟩ ⟨(by show 7 + 1 ≤ (40 * n + 44); omega), (by show 8 + (2 + 11) + 122 ≤ (1300 * n + 1400); omega)⟩ (fun v74 u72 H locs hw73 hP hD hS => ?_) (fun ux ce9 q9 H9 locs9 hux hP9 hD9 hS9 hce hcv hcl => pb_out ux (ThQ.up (Thx.same (Thx.same (Thx.b (Thx.f (Thx.f Thx.rfl (by omega)) (by omega)) (by omega) (by decide)) rfl) rfl) RhX.rfl hux) hnt hlocks hce hcv hcl hP9 hD9 hS9 (by show (1 + (2 * (at40 - ((at9 + 1) + 1)) - 1)) + 1 ≤ (2 * (sz - at9) + 20); omega) (by show (11 + (11 * (2 * (at40 - ((at9 + 1) + 1)) - 1))) + 6 ≤ (11 * (2 * (sz - at9) + 20)); omega))
  obtain ⟨w, _⟩ := u72
  obtain ⟨hw73, h77, hO⟩ := hw73
  have h77 : at40 + 1 ≤ sz := h77
  obtain rfl : v74 = some (.int (nI at40)) := hw73
  have hO : OKP G h0 a (upd (upd (upd (upd F 2 (nI sz)) 9 (nI (at40 + 1))) 10 (nI dp)) 11 (nI sg41)) R Z (updA B 10 f42) J K59 w := hO.to rfl
  refine W.widen (k := (1 + (2 * (at40 - ((at9 + 1) + 1)) - 1))) (n := (11 + (11 * (2 * (at40 - ((at9 + 1) + 1)) - 1)))) (by show (1 + (2 * (at40 - ((at9 + 1) + 1)) - 1)) + 0 ≤ (1 + (2 * (at40 - ((at9 + 1) + 1)) - 1)); omega) (by show (11 + (11 * (2 * (at40 - ((at9 + 1) + 1)) - 1))) + 0 ≤ (11 + (11 * (2 * (at40 - ((at9 + 1) + 1)) - 1))); omega) ?_
  refine W.eq (g2 := F0 m 49 ls [.int (nI at40)]) rfl ?_
  refine lv_pop hx hb dX8_printStatement_49 rfl ?_
  refine lv_aload_n hx hb dX8_printStatement_50 rfl (lv_at hl 1 rfl) ?_
  refine lv_bipush (v := 38) hx hb dX8_printStatement_51 (by decide) ?_
  have hO : OKW G h0 a (upd (upd (upd (upd (upd (upd (upd (upd F 2 (nI sz)) 9 (nI at9)) 10 (nI dp)) 11 (nI sg)) 9 (nI (at40 + 1))) 11 (nI sg41)) 2 (nI sz)) 9 (nI (at40 + 1))) R Z (updA B 10 f42) J K59.1 (fun q99 x99 => x99 = rep G a K59 q99) w := hO.to rfl
  obtain ⟨_, qr81, hqr82⟩ := hO.2.1 23 _ (sg_23 G h0 a _ _ _ _ _)
  refine pn_V0 (G := G) (As := [.int 38]) (rest := []) hx hb hml hown hq hE hX pX0_al hP hD hS hA hl.1 (P_take l G h0 a (upd (upd (upd (upd (upd (upd F 2 (nI sz)) 9 (nI at9)) 10 (nI dp)) 11 (nI sg)) 9 (nI (at40 + 1))) 11 (nI sg41)) R Z (updA B 10 f42) J K59.1 (fun q99 x99 => x99 = rep G a K59 q99) w 38 (at40 + 1) sz (by omega) (by omega) (by decide) hO hl0) (gV pw_793 pw_794 pw_795 pw_796 pw_781) hV_X8_take qr81 5 hqr82 rfl rfl rfl (Nat.le_of_ble_eq_true rfl) dX8_printStatement_53 ⟨(by show (1 + (2 * (at40 - ((at9 + 1) + 1)) - 1)) + 1 ≤ (2 * (sz - at9) + 20); omega), (by show (11 + (11 * (2 * (at40 - ((at9 + 1) + 1)) - 1))) + 6 ≤ (11 * (2 * (sz - at9) + 20)); omega)⟩ ⟨(by show 7 + 1 ≤ (40 * n + 44); omega), (by show 8 + (2 + 11) + 122 ≤ (1300 * n + 1400); omega)⟩ (fun v80 u78 H locs hw79 hP hD hS => ?_) (fun ux ce9 q9 H9 locs9 hux hP9 hD9 hS9 hce hcv hcl => pb_out ux (ThQ.up (Thx.same (Thx.same (Thx.b (Thx.f (Thx.f Thx.rfl (by omega)) (by omega)) (by omega) (by decide)) rfl) rfl) RhX.rfl hux) hnt hlocks hce hcv hcl hP9 hD9 hS9 (by show (1 + (2 * (at40 - ((at9 + 1) + 1)) - 1)) + 1 ≤ (2 * (sz - at9) + 20); omega) (by show (11 + (11 * (2 * (at40 - ((at9 + 1) + 1)) - 1))) + 6 ≤ (11 * (2 * (sz - at9) + 20)); omega))
  obtain ⟨w, _⟩ := u78
  obtain ⟨hw79, h83, hO⟩ := hw79
  have h83 : (at40 + 1) + 1 ≤ sz := h83
  obtain rfl : v80 = some (.int (nI (at40 + 1))) := hw79
  have hO : OKP G h0 a (upd (upd (upd (upd F 2 (nI sz)) 9 (nI ((at40 + 1) + 1))) 10 (nI dp)) 11 (nI sg41)) R Z (updA B 10 f42) J K59 w := hO.to rfl
  refine W.widen (k := (1 + (2 * (at40 - ((at9 + 1) + 1)) - 1))) (n := (11 + (11 * (2 * (at40 - ((at9 + 1) + 1)) - 1)))) (by show (1 + (2 * (at40 - ((at9 + 1) + 1)) - 1)) + 0 ≤ (1 + (2 * (at40 - ((at9 + 1) + 1)) - 1)); omega) (by show (11 + (11 * (2 * (at40 - ((at9 + 1) + 1)) - 1))) + 0 ≤ (11 + (11 * (2 * (at40 - ((at9 + 1) + 1)) - 1))); omega) ?_
  refine W.eq (g2 := F0 m 56 ls [.int (nI (at40 + 1))]) rfl ?_
  refine lv_pop hx hb dX8_printStatement_56 rfl ?_
  refine lv_aload_n hx hb dX8_printStatement_57 rfl (lv_at hl 0 rfl) ?_
  refine W_size (fun hz1 hz2 => ?_)
  refine vx_ret ?_
  obtain ⟨k9, hkI, hkS, hkE, hkM, hkN⟩ : ∃ z : Nat, Itv z ∧ rS z = at9 ∧ rE z = ((at40 + 1) + 1) ∧ rM z = ((at40 + 1) + 1) ∧ rN z = ((at40 + 1) + 1) := ⟨rk at9 ((at40 + 1) + 1) ((at40 + 1) + 1) ((at40 + 1) + 1), Itv.of (by omega), rS_rk (by omega), rE_rk (by omega), rM_rk (by omega), rN_rk (by omega)⟩
  have hkid : ∀ f9 y9 : Nat, f9 ≤ 3 → K59.2.2.1 f9 q1 = some y9 → K59.1 y9 = 1 ∧ 1 ≤ g39 0 y9 ∧ g39 0 y9 < (173 + 3 * (20 - dp)) := by
    intro f9 y9 hf9 hy9
    rcases (show f9 = 0 ∨ f9 = 1 ∨ f9 = 2 ∨ f9 = 3 by omega) with rfl | rfl | rfl | rfl
    · rw [hf69] at hy9; cases hy9; exact ⟨hf68, (by omega), by omega⟩
    · rw [hf64] at hy9; cases hy9
    · rw [hf65] at hy9; cases hy9
    · rw [hf66] at hy9; cases hy9
  have hdn := NwS.done1I (q := q1) (L := (173 + 3 * (20 - dp))) (O := O) (k := k9) hns70 hq21 hf61 hg56 (by omega) hkI (by rw [hf62]; exact ⟨(fun _ => (by show ¬ K59.2.2.1 0 q1 = none; rw [hf69]; intro z; cases z)), (fun z => absurd z (by decide)), (fun z => absurd z (by decide)), (fun z => absurd z (by decide)), (fun z => absurd z (by decide))⟩) (fun f9 z => by rw [hf62] at z; rcases z with ⟨z, _⟩ | ⟨z | z | z, _⟩ <;> exact absurd z (by decide)) hkid hf67 hno71 (fun f9 x9 _ _ => Kch.no (by rw [hf62]; decide)) how
  have hz84 : NwR K K59 g (gset g39 q1 (173 + 3 * (20 - dp)) O k9) q1 O k9 ((173 + 3 * (20 - dp))) := hdn
  have hz85 : at9 + 5 ≤ ((at40 + 1) + 1) ∧ ((at40 + 1) + 1) ≤ sz := (by omega)
  have hz86 : sg ≤ sg41 ∧ sg41 ≤ 60 := (by omega)
  have hz87 : rS k9 = at9 ∧ rE k9 ≤ ((at40 + 1) + 1) ∧ rS k9 ≤ rE k9 := (by omega)
  have hO : OKP G h0 a (upd (upd (upd (upd F 2 (nI sz)) 9 (nI ((at40 + 1) + 1))) 10 (nI dp)) 11 (nI sg41)) R Z (updA B 10 f42) J K59 w := hO.to rfl
  refine W.widen (k := (2 * (sz - at9) + 20)) (n := (11 * (2 * (sz - at9) + 20))) (by omega) (by omega) ?_
  have hzz1 : H.size ≤ s.heap.size + ((2 * (((at40 + 1) + 1) - at9) - 5)) := (by have z : (1 + (2 * (at40 - ((at9 + 1) + 1)) - 1)) ≤ (2 * (((at40 + 1) + 1) - at9) - 5) := (by omega); omega)
  have hzz2 : hSl H ≤ hSl s.heap + ((11 * (2 * (((at40 + 1) + 1) - at9) - 5))) := (by have z : (11 + (11 * (2 * (at40 - ((at9 + 1) + 1)) - 1))) ≤ (11 * (2 * (((at40 + 1) + 1) - at9) - 5)) := (by omega); omega)
  exact W.aret (v := .ref q1) hx hb hr (Or.inl ⟨_, rfl⟩) (Or.inr ⟨_, rfl⟩) (fun t99 ht99 hW99 => ⟨⟨_, (w, (q1, K59, (gset g39 q1 (173 + 3 * (20 - dp)) O k9), ((at40 + 1) + 1), sg41, f42, k9)), rfl, ⟨rfl, hz84, hz85, hz86, hz87, hO⟩, by rw [ht99]; exact hP, hD, by rw [ht99]; exact hzz1, by rw [ht99]; exact hzz2⟩, hS.F ht99⟩) hS.2.2 dX8_printStatement_58
theorem dX8_simple_0 : decode cX8_simple 0 = .ok (.aload_n 0, 1) := by decide +kernel
theorem dX8_simple_1 : decode cX8_simple 1 = .ok (.getfield 17, 3) := by decide +kernel
theorem dX8_simple_4 : decode cX8_simple 4 = .ok (.istore_n 2, 1) := by decide +kernel
theorem dX8_simple_5 : decode cX8_simple 5 = .ok (.aload_n 0, 1) := by decide +kernel
theorem dX8_simple_6 : decode cX8_simple 6 = .ok (.invokevirtual 221, 3) := by decide +kernel
theorem dX8_simple_9 : decode cX8_simple 9 = .ok (.astore_n 3, 1) := by decide +kernel
theorem dX8_simple_10 : decode cX8_simple 10 = .ok (.iload_n 1, 1) := by decide +kernel
theorem dX8_simple_11 : decode cX8_simple 11 = .ok (.ifCond .eq 32, 3) := by decide +kernel
theorem dX8_simple_43 : decode cX8_simple 43 = .ok (.aload_n 3, 1) := by decide +kernel
theorem dX8_simple_44 : decode cX8_simple 44 = .ok (.invokevirtual 227, 3) := by decide +kernel
theorem dX8_simple_47 : decode cX8_simple 47 = .ok (.ifCond .ne 7, 3) := by decide +kernel
theorem dX8_simple_54 : decode cX8_simple 54 = .ok (.new 143, 3) := by decide +kernel
theorem dX8_simple_57 : decode cX8_simple 57 = .ok (.dup, 1) := by decide +kernel
theorem dX8_simple_58 : decode cX8_simple 58 = .ok (.bipush 23, 2) := by decide +kernel
theorem dX8_simple_60 : decode cX8_simple 60 = .ok (.aload_n 0, 1) := by decide +kernel
theorem dX8_simple_61 : decode cX8_simple 61 = .ok (.bipush 43, 2) := by decide +kernel
theorem dX8_simple_63 : decode cX8_simple 63 = .ok (.invokevirtual 53, 3) := by decide +kernel
theorem dX8_simple_66 : decode cX8_simple 66 = .ok (.iload_n 2, 1) := by decide +kernel
theorem dX8_simple_67 : decode cX8_simple 67 = .ok (.invokespecial 145, 3) := by decide +kernel
theorem dX8_simple_70 : decode cX8_simple 70 = .ok (.astore 4, 2) := by decide +kernel
theorem dX8_simple_72 : decode cX8_simple 72 = .ok (.aload 4, 2) := by decide +kernel
theorem dX8_simple_74 : decode cX8_simple 74 = .ok (.aload_n 3, 1) := by decide +kernel
theorem dX8_simple_75 : decode cX8_simple 75 = .ok (.putfield 165, 3) := by decide +kernel
theorem dX8_simple_78 : decode cX8_simple 78 = .ok (.aload 4, 2) := by decide +kernel
theorem dX8_simple_80 : decode cX8_simple 80 = .ok (.aload_n 0, 1) := by decide +kernel
theorem dX8_simple_81 : decode cX8_simple 81 = .ok (.invokevirtual 196, 3) := by decide +kernel
theorem dX8_simple_84 : decode cX8_simple 84 = .ok (.putfield 230, 3) := by decide +kernel
theorem dX8_simple_87 : decode cX8_simple 87 = .ok (.aload 4, 2) := by decide +kernel
theorem dX8_simple_89 : decode cX8_simple 89 = .ok (.areturn, 1) := by decide +kernel
theorem dX8_simple_50 : decode cX8_simple 50 = .ok (.aload_n 0, 1) := by decide +kernel
theorem dX8_simple_51 : decode cX8_simple 51 = .ok (.invokevirtual 67, 3) := by decide +kernel
theorem dX8_simple_14 : decode cX8_simple 14 = .ok (.aload_n 3, 1) := by decide +kernel
theorem dX8_simple_15 : decode cX8_simple 15 = .ok (.invokevirtual 224, 3) := by decide +kernel
theorem dX8_simple_18 : decode cX8_simple 18 = .ok (.ifCond .eq 25, 3) := by decide +kernel
theorem dX8_simple_21 : decode cX8_simple 21 = .ok (.new 143, 3) := by decide +kernel
theorem dX8_simple_24 : decode cX8_simple 24 = .ok (.dup, 1) := by decide +kernel
theorem dX8_simple_25 : decode cX8_simple 25 = .ok (.bipush 24, 2) := by decide +kernel
theorem dX8_simple_27 : decode cX8_simple 27 = .ok (.iload_n 2, 1) := by decide +kernel
theorem dX8_simple_28 : decode cX8_simple 28 = .ok (.iload_n 2, 1) := by decide +kernel
theorem dX8_simple_29 : decode cX8_simple 29 = .ok (.invokespecial 145, 3) := by decide +kernel
theorem dX8_simple_32 : decode cX8_simple 32 = .ok (.astore 4, 2) := by decide +kernel
theorem dX8_simple_34 : decode cX8_simple 34 = .ok (.aload 4, 2) := by decide +kernel
theorem dX8_simple_36 : decode cX8_simple 36 = .ok (.aload_n 3, 1) := by decide +kernel
theorem dX8_simple_37 : decode cX8_simple 37 = .ok (.putfield 165, 3) := by decide +kernel
theorem dX8_simple_40 : decode cX8_simple 40 = .ok (.aload 4, 2) := by decide +kernel
theorem dX8_simple_42 : decode cX8_simple 42 = .ok (.areturn, 1) := by decide +kernel
theorem hV_X7_isPlace : yX7_isPlace.cls = RX7 ∧ yX7_isPlace.cls ≠ "java/lang/invoke/MethodHandle" ∧ yX7_isPlace.cls ≠ "java/lang/invoke/VarHandle" ∧ (parseMethodDescriptor yX7_isPlace.desc).map (fun d => d.parameters.length) = some 0 := by decide +kernel
theorem hV_X7_isCall : yX7_isCall.cls = RX7 ∧ yX7_isCall.cls ≠ "java/lang/invoke/MethodHandle" ∧ yX7_isCall.cls ≠ "java/lang/invoke/VarHandle" ∧ (parseMethodDescriptor yX7_isCall.desc).map (fun d => d.parameters.length) = some 0 := by decide +kernel
set_option maxHeartbeats 20000000 in
set_option maxRecDepth 100000 in
theorem P_simple (l : Launch) (G : pT) (h0 : Nat) (a : Nat → Nat) (F : Nat → Int32) (R : Nat → Value) (Z : Int64) (B : Nat → Nat → Int32) (J : Nat → Nat → Int64) (K : PK) (w : va_W) (x : Nat) (n : Nat) (at9 : Nat) (sz : Nat) (dp : Nat) (sg : Nat) (O : Nat) (g : Nat → Nat → Nat) (hsz : sz ≤ 5000) (hat : at9 ≤ sz) (hdp : dp + n = 20) (hsg : sg ≤ 60) (hwn : WN K g) (how : ∀ o : Nat, O = o + 1 → K.1 o = 1 ∧ g 0 o = 0 ∧ ¬ K.2.1 0 o = 32) (hx1x : x ≤ 1) (hO : OKP G h0 a (upd (upd (upd (upd F 2 (nI sz)) 9 (nI at9)) 10 (nI dp)) 11 (nI sg)) R Z B J K w) (hl0 : l.stackTraces = false) : PBn l G pX0 yX8_simple cX8_simple 5 (some (.object "JinjaTongue$Node")) ({ frames := (40 * n + 44), cells := (2 * (sz - at9) + 20), slots := (11 * (2 * (sz - at9) + 20)), locals := (1300 * n + 1400) }) [.ref (a 3), .int (nI x)] w (fun (v : Option Value) (u : va_W × (Nat × PK × (Nat → Nat → Nat) × Nat × Nat × (Nat → Int32) × Nat)) => v = some (.ref u.2.1) ∧ (NwR K u.2.2.1 g u.2.2.2.1 u.2.1 O u.2.2.2.2.2.2.2 (168)) ∧ (at9 + 1 ≤ u.2.2.2.2.1 ∧ u.2.2.2.2.1 ≤ sz) ∧ (sg ≤ u.2.2.2.2.2.1 ∧ u.2.2.2.2.2.1 ≤ 60) ∧ (rS u.2.2.2.2.2.2.2 = at9 ∧ rE u.2.2.2.2.2.2.2 ≤ u.2.2.2.2.1 ∧ rS u.2.2.2.2.2.2.2 ≤ rE u.2.2.2.2.2.2.2) ∧ (OKP G h0 a (upd (upd (upd (upd F 2 (nI sz)) 9 (nI u.2.2.2.2.1)) 10 (nI dp)) 11 (nI u.2.2.2.2.2.1)) R Z (updA B 10 u.2.2.2.2.2.2.1) J u.2.2.1 u.1)) (fun u => u.1) (fun (u : va_W × (Nat × PK × (Nat → Nat → Nat) × Nat × Nat × (Nat → Int32) × Nat)) => (2 * (u.2.2.2.2.1 - at9) - 0)) (fun (u : va_W × (Nat × PK × (Nat → Nat → Nat) × Nat × Nat × (Nat → Int32) × Nat)) => (11 * (2 * (u.2.2.2.2.1 - at9) - 0))) (fun (u : va_W × (Nat → Int32) × (Nat → Value) × (Nat → Nat → Int32)) => ThQ G h0 a (upd (upd (upd (upd F 2 (nI sz)) 9 (nI at9)) 10 (nI dp)) 11 (nI sg)) R Z B J u) (fun u => u.1) := by
  intro sz
  refine vx_ofW (cc := cX8_simple) (maxL := 5) (ret := (some (.object "JinjaTongue$Node"))) (by decide) rfl ?_
  intro p e s m args below meth c s₁ B9 hml hnt hv
  obtain ⟨rfl, hsz, hP, hD0, hE, hX⟩ := hv
  have hx := B9.exec
  have hb := B9.bytes
  have hr := B9.returns
  have hts := atoms_spec (ws := Cond.code yX8_simple cX8_simple 5 (some (.object "JinjaTongue$Node")) :: pw) B9.pre
  have hq : ∀ w ∈ pw, w.before _ s = true := fun w h => hts w (List.mem_cons_of_mem _ h)
  have hown : s.vm.findClass RX8 = some m.cls := findClass_of_methodNamed B9.named
  have hlocks := B9.notSynchronized
  subst hsz
  have hD := hD0.self (sz := s.heap.size)
  have hA : ∀ q : Nat, s.heap.size ≤ q → va_A w s.heap.size q := fun q h => Or.inr h
  generalize va_A w s.heap.size = A at hD hE hA ⊢
  have hS : va_S A s.heap s.heap [] := va_S.rf
  have hl := lv_entry ([.ref (a 3), .int (nI x)]) (n := 5) (Nat.le_of_ble_eq_true rfl)
  rw [lg_entry_eq]
  generalize (lg_sl ([.ref (a 3), .int (nI x)]) ++ List.replicate (5 - (lg_sl ([.ref (a 3), .int (nI x)])).length) Slot.unset).toArray = ls at hl ⊢
  have hl : lv_has ls 5 [(0, .ref (a 3)), (1, .int (nI x))] := hl
  have hns0 : NwS K K g g := NwS.nil hwn
  refine lv_aload_n hx hb dX8_simple_0 rfl (lv_at hl 0 rfl) ?_
  refine c_get (v := .int (nI at9)) (C := RX8) (Tc := TX8) (N := 5) (ci := 5) hx hb hq pin_wsX80 hown hE hP hO 23 (sg_23 G h0 a _ _ _ _ _) rfl 2 (by decide) (hq _ pw_776) (fun _ h9 => h9) rfl dX8_simple_1 ?_
  refine lv_istore_n (lv' := [(2, .int (nI at9)), (0, .ref (a 3)), (1, .int (nI x))]) hx hb dX8_simple_4 rfl hl (by decide) rfl (fun ls hl => ?_)
  refine lv_aload_n hx hb dX8_simple_5 rfl (lv_at hl 1 rfl) ?_
  have hO : OKP G h0 a (upd (upd (upd (upd (upd (upd (upd (upd F 2 (nI sz)) 9 (nI at9)) 10 (nI dp)) 11 (nI sg)) 2 (nI sz)) 9 (nI at9)) 10 (nI dp)) 11 (nI sg)) R Z B J K w := hO.to rfl
  obtain ⟨_, qr4, hqr5⟩ := hO.2.1 23 _ (sg_23 G h0 a _ _ _ _ _)
  refine pn_V0 (G := G) (As := []) (rest := []) hx hb hml hown hq hE hX pX0_al hP hD hS hA hl.1 (P_chain l G h0 a (upd (upd (upd (upd F 2 (nI sz)) 9 (nI at9)) 10 (nI dp)) 11 (nI sg)) R Z B J K w n at9 sz dp sg 0 g (by omega) (by omega) hdp (by omega) hns0.1 (fun o9 h9 => absurd h9 (by omega)) (IhE.all l G n) hO hl0) (gV pw_973 pw_974 pw_975 pw_796 pw_923) hV_X8_chain qr4 5 hqr5 rfl rfl rfl (Nat.le_of_ble_eq_true rfl) dX8_simple_6 ⟨(by show 0 + (2 * (sz - at9) + 19) ≤ (2 * (sz - at9) + 20); omega), (by show 0 + (11 * (2 * (sz - at9) + 19)) ≤ (11 * (2 * (sz - at9) + 20)); omega)⟩ ⟨(by show (40 * n + 20) + 1 ≤ (40 * n + 44); omega), (by show 8 + (3 + 11) + (1300 * n + 520) ≤ (1300 * n + 1400); omega)⟩ (fun v3 u1 H locs hw2 hP hD hS => ?_) (fun ux ce9 q9 H9 locs9 hux hP9 hD9 hS9 hce hcv hcl => pb_out ux (ThQ.up (Thx.same (Thx.same (Thx.same (Thx.same Thx.rfl rfl) rfl) rfl) rfl) RhX.rfl hux) hnt hlocks hce hcv hcl hP9 hD9 hS9 (by show 0 + (2 * (sz - at9) + 19) ≤ (2 * (sz - at9) + 20); omega) (by show 0 + (11 * (2 * (sz - at9) + 19)) ≤ (11 * (2 * (sz - at9) + 20)); omega))
  obtain ⟨w, r6, K7, g8, at10, sg11, f12⟩ := u1
  obtain ⟨hw2, h13, h14, h15, hO⟩ := hw2
  have h13 : NwR K K7 g g8 r6 0 at9 ((5 * (20 - dp) + 3 + (sg11 - sg))) := h13
  have h14 : at9 + 1 ≤ at10 ∧ at10 ≤ sz := h14
  have h15 : sg ≤ sg11 ∧ sg11 ≤ 60 := h15
  obtain rfl : v3 = some (.ref r6) := hw2
  have hO : OKP G h0 a (upd (upd (upd (upd F 2 (nI sz)) 9 (nI at10)) 10 (nI dp)) 11 (nI sg11)) R Z (updA B 10 f12) J K7 w := hO.to rfl
  refine W.widen (k := (2 * (at10 - at9) - 1)) (n := (11 * (2 * (at10 - at9) - 1))) (by show 0 + (2 * (at10 - at9) - 1) ≤ (2 * (at10 - at9) - 1); omega) (by show 0 + (11 * (2 * (at10 - at9) - 1)) ≤ (11 * (2 * (at10 - at9) - 1)); omega) ?_
  refine W.eq (g2 := F0 m 9 ls [.ref r6]) rfl ?_
  have hns16 : NwS K K7 g g8 := NwS.call hns0 h13 (fun o9 h9 => absurd h9 (by omega))
  have hf17 : K7.1 r6 = 1 := h13.2.2.1.2.1
  have hgy18 := h13.2.2.1
  have hgy18a := hgy18.2.2.1
  have hgy18b := hgy18.2.2.2.1
  obtain ⟨kd9, hkd9⟩ : ∃ z : Int32, K7.2.1 0 r6 = z := ⟨_, rfl⟩
  refine lv_astore_n (lv' := [(3, .ref r6), (2, .int (nI at9)), (0, .ref (a 3)), (1, .int (nI x))]) hx hb dX8_simple_9 rfl hl (by decide) rfl (fun ls hl => ?_)
  refine lv_iload_n hx hb dX8_simple_10 rfl (lv_at hl 3 rfl) ?_
  refine lv_if_eq (tgt := 43) hx hb dX8_simple_11 (by decide) (fun c19 => ?_) (fun c19 => ?_)
  · have n20 : x = 0 := (nI_eq (a := x) (b := 0) (by omega) (by omega)).mp c19
    refine lv_aload_n hx hb dX8_simple_43 rfl (lv_at hl 0 rfl) ?_
    have hO : OKP G h0 a (upd (upd (upd (upd F 2 (nI sz)) 9 (nI at10)) 10 (nI dp)) 11 (nI sg11)) R Z (updA B 10 f12) J K7 w := hO.to rfl
    obtain ⟨qr24, hqr25⟩ := p_recv hO (by rw [hf17]; decide) (rep_1 hf17)
    refine pc_V0 (G := G) (As := []) (rest := []) hx hb hml hown hq hE hX pX0_al hP hD hS hA hl.1 (N_isPlace l G h0 a (upd (upd (upd (upd F 2 (nI sz)) 9 (nI at10)) 10 (nI dp)) 11 (nI sg11)) R Z (updA B 10 f12) J K7 w r6 hf17 hO) (gV pw_991 pw_992 pw_993 pw_872 pw_770) hV_X7_isPlace qr24 13 hqr25 rfl rfl rfl (Nat.le_of_ble_eq_true rfl) dX8_simple_44 ⟨(by show (2 * (at10 - at9) - 1) + 0 ≤ (2 * (sz - at9) + 20); omega), (by show (11 * (2 * (at10 - at9) - 1)) + 0 ≤ (11 * (2 * (sz - at9) + 20)); omega)⟩ ⟨(by show 2 + 1 ≤ (40 * n + 44); omega), (by show 8 + (1 + 11) + 60 ≤ (1300 * n + 1400); omega)⟩ (fun v23 u21 H locs hw22 hP hD hS => ?_)
    obtain ⟨w, r26⟩ := u21
    obtain ⟨hw22, h27, h28, hO⟩ := hw22
    have h27 : r26 ≤ 1 := h27
    have h28 : If (r26 = 1) (K7.2.1 0 r6 = 5 ∨ K7.2.1 0 r6 = 12 ∨ K7.2.1 0 r6 = 14) := h28
    obtain rfl : v23 = some (.int (nI r26)) := hw22
    have hO : OKP G h0 a (upd (upd (upd (upd F 2 (nI sz)) 9 (nI at10)) 10 (nI dp)) 11 (nI sg11)) R Z (updA B 10 f12) J K7 w := hO.to rfl
    refine W.widen (k := (2 * (at10 - at9) - 1)) (n := (11 * (2 * (at10 - at9) - 1))) (by show (2 * (at10 - at9) - 1) + 0 ≤ (2 * (at10 - at9) - 1); omega) (by show (11 * (2 * (at10 - at9) - 1)) + 0 ≤ (11 * (2 * (at10 - at9) - 1)); omega) ?_
    refine W.eq (g2 := F0 m 47 ls [.int (nI r26)]) rfl ?_
    have hpl0 := h28
    rw [hkd9] at hpl0
    refine lv_if_ne (tgt := 54) hx hb dX8_simple_47 (by decide) (fun c29 => ?_) (fun c29 => ?_)
    · have n30 : ¬ (r26 = 0) := fun h9 => c29 ((nI_eq (a := r26) (b := 0) (by omega) (by omega)).mpr h9)
      refine p_new (s9 := 1) (C := RX7) (T := TX7) (N := 11) (ci := 13) (fs := [.int 0, .int 0, .int 0, .int 0, .int 0, .int 0, .null, .null, .null, .null, .null]) hx hb hq pin_wsX70 tyX7 tyX7_ok hown (hq _ pw_870) (hq _ pw_871) (hq _ pw_872) hE hP hD hS hA hO rfl nw_X7 (by decide) (fun q => by rw [rep_1 (show (kN K7 q 1 0).1 q = 1 from if_pos rfl)]; unfold fsNode kN; simp only [if_true]; rfl) (by show (2 * (at10 - at9) - 1) + 1 ≤ (2 * (sz - at9) + 20); omega) (by show (11 * (2 * (at10 - at9) - 1)) + 11 ≤ (11 * (2 * (sz - at9) + 20)); omega) dX8_simple_54 (fun q31 H w hq32 hP hD hS hO => ?_)
      have hf33 : (kN K7 q31 1 0).1 r6 = 1 := (if_neg (fun z => by have z2 := hf17; rw [z, hq32] at z2; exact absurd z2 (by decide))).trans hf17
      have hf34 : (kN K7 q31 1 0).2.1 0 r6 = kd9 := (if_neg (fun z => by have z2 := hf17; rw [z, hq32] at z2; exact absurd z2 (by decide))).trans hkd9
      have hf35 : (kN K7 q31 1 0).1 q31 = 1 := if_pos rfl
      refine W.widen (k := ((2 * (at10 - at9) - 1) + 1)) (n := ((11 * (2 * (at10 - at9) - 1)) + 11)) (by show (2 * (at10 - at9) - 1) + 1 ≤ ((2 * (at10 - at9) - 1) + 1); omega) (by show (11 * (2 * (at10 - at9) - 1)) + 11 ≤ ((11 * (2 * (at10 - at9) - 1)) + 11); omega) ?_
      refine lv_dup hx hb dX8_simple_57 rfl ?_
      refine lv_bipush (v := 23) hx hb dX8_simple_58 (by decide) ?_
      refine lv_aload_n hx hb dX8_simple_60 rfl (lv_at hl 2 rfl) ?_
      refine lv_bipush (v := 43) hx hb dX8_simple_61 (by decide) ?_
      have hO : OKW G h0 a (upd (upd (upd (upd (upd (upd (upd (upd F 2 (nI sz)) 9 (nI at9)) 10 (nI dp)) 11 (nI sg)) 9 (nI at10)) 11 (nI sg11)) 2 (nI sz)) 9 (nI at10)) R Z (updA B 10 f12) J ((kN K7 q31 1 0).1) (fun q99 x99 => x99 = rep G a (kN K7 q31 1 0) q99) w := hO.to rfl
      obtain ⟨_, qr39, hqr40⟩ := hO.2.1 23 _ (sg_23 G h0 a _ _ _ _ _)
      refine pn_V0 (G := G) (As := [.int 43]) (rest := [.int 23, .ref q31, .ref q31]) hx hb hml hown hq hE hX pX0_al hP hD hS hA hl.1 (P_take l G h0 a (upd (upd (upd (upd (upd (upd F 2 (nI sz)) 9 (nI at9)) 10 (nI dp)) 11 (nI sg)) 9 (nI at10)) 11 (nI sg11)) R Z (updA B 10 f12) J ((kN K7 q31 1 0).1) (fun q99 x99 => x99 = rep G a (kN K7 q31 1 0) q99) w 43 at10 sz (by omega) (by omega) (by decide) hO hl0) (gV pw_793 pw_794 pw_795 pw_796 pw_781) hV_X8_take qr39 5 hqr40 rfl rfl rfl (Nat.le_of_ble_eq_true rfl) dX8_simple_63 ⟨(by show ((2 * (at10 - at9) - 1) + 1) + 1 ≤ (2 * (sz - at9) + 20); omega), (by show ((11 * (2 * (at10 - at9) - 1)) + 11) + 6 ≤ (11 * (2 * (sz - at9) + 20)); omega)⟩ ⟨(by show 7 + 1 ≤ (40 * n + 44); omega), (by show 8 + (2 + 11) + 122 ≤ (1300 * n + 1400); omega)⟩ (fun v38 u36 H locs hw37 hP hD hS => ?_) (fun ux ce9 q9 H9 locs9 hux hP9 hD9 hS9 hce hcv hcl => pb_out ux (ThQ.up (Thx.same (Thx.same (Thx.b (Thx.f (Thx.f Thx.rfl (by omega)) (by omega)) (by omega) (by decide)) rfl) rfl) RhX.rfl hux) hnt hlocks hce hcv hcl hP9 hD9 hS9 (by show ((2 * (at10 - at9) - 1) + 1) + 1 ≤ (2 * (sz - at9) + 20); omega) (by show ((11 * (2 * (at10 - at9) - 1)) + 11) + 6 ≤ (11 * (2 * (sz - at9) + 20)); omega))
      obtain ⟨w, _⟩ := u36
      obtain ⟨hw37, h41, hO⟩ := hw37
      have h41 : at10 + 1 ≤ sz := h41
      obtain rfl : v38 = some (.int (nI at10)) := hw37
      have hO : OKP G h0 a (upd (upd (upd (upd F 2 (nI sz)) 9 (nI (at10 + 1))) 10 (nI dp)) 11 (nI sg11)) R Z (updA B 10 f12) J (kN K7 q31 1 0) w := hO.to rfl
      refine W.widen (k := ((2 * (at10 - at9) - 1) + 1)) (n := ((11 * (2 * (at10 - at9) - 1)) + 11)) (by show ((2 * (at10 - at9) - 1) + 1) + 0 ≤ ((2 * (at10 - at9) - 1) + 1); omega) (by show ((11 * (2 * (at10 - at9) - 1)) + 11) + 0 ≤ ((11 * (2 * (at10 - at9) - 1)) + 11); omega) ?_
      refine W.eq (g2 := F0 m 66 ls [.int (nI at10), .int 23, .ref q31, .ref q31]) rfl ?_
      refine lv_iload_n hx hb dX8_simple_66 rfl (lv_at hl 1 rfl) ?_
      have hO : OKP G h0 a (upd (upd (upd (upd F 2 (nI sz)) 9 (nI (at10 + 1))) 10 (nI dp)) 11 (nI sg11)) R Z (updA B 10 f12) J (kN K7 q31 1 0) w := hO.to rfl
      obtain ⟨qr45, hqr46⟩ := p_recv hO (by rw [hf35]; decide) (rep_1 hf35)
      refine pc_I0 (G := G) (As := [.int 23, .int (nI at10), .int (nI at9)]) (rest := [.ref q31]) hx hb hml hown hq hE hX pX0_al hP hD hS hA hl.1 (N_init l G h0 a (upd (upd (upd (upd F 2 (nI sz)) 9 (nI (at10 + 1))) 10 (nI dp)) 11 (nI sg11)) R Z (updA B 10 f12) J (kN K7 q31 1 0) w q31 23 (nI at10) (nI at9) (by omega) hO) pw_874 pw_875 pw_872 pw_765 rfl hS_X7_init rfl (Nat.le_of_ble_eq_true rfl) dX8_simple_67 ⟨(by show ((2 * (at10 - at9) - 1) + 1) + 0 ≤ (2 * (sz - at9) + 20); omega), (by show ((11 * (2 * (at10 - at9) - 1)) + 11) + 0 ≤ (11 * (2 * (sz - at9) + 20)); omega)⟩ ⟨(by show 2 + 1 ≤ (40 * n + 44); omega), (by show 8 + (4 + 11) + 60 ≤ (1300 * n + 1400); omega)⟩ (fun v44 u42 H locs hw43 hP hD hS => ?_)
      obtain ⟨w, _⟩ := u42
      obtain ⟨hw43, hO⟩ := hw43
      obtain rfl : v44 = none := hw43
      have hf47 : (kI (kI (kI (kN K7 q31 1 0) 0 q31 23) 1 q31 (nI at10)) 2 q31 (nI at9)).1 r6 = 1 := hf33
      have hf48 : (kI (kI (kI (kN K7 q31 1 0) 0 q31 23) 1 q31 (nI at10)) 2 q31 (nI at9)).1 q31 = 1 := hf35
      have hO : OKP G h0 a (upd (upd (upd (upd F 2 (nI sz)) 9 (nI (at10 + 1))) 10 (nI dp)) 11 (nI sg11)) R Z (updA B 10 f12) J (kI (kI (kI (kN K7 q31 1 0) 0 q31 23) 1 q31 (nI at10)) 2 q31 (nI at9)) w := hO.to rfl
      refine W.widen (k := ((2 * (at10 - at9) - 1) + 1)) (n := ((11 * (2 * (at10 - at9) - 1)) + 11)) (by show ((2 * (at10 - at9) - 1) + 1) + 0 ≤ ((2 * (at10 - at9) - 1) + 1); omega) (by show ((11 * (2 * (at10 - at9) - 1)) + 11) + 0 ≤ ((11 * (2 * (at10 - at9) - 1)) + 11); omega) ?_
      refine W.eq (g2 := F0 m 70 ls [.ref q31]) rfl ?_
      change OKP G h0 a (upd (upd (upd (upd F 2 (nI sz)) 9 (nI (at10 + 1))) 10 (nI dp)) 11 (nI sg11)) R Z (updA B 10 f12) J (mkN K7 q31 23 (nI at10) (nI at9)) w at hO
      obtain ⟨K49, hK50⟩ : ∃ z : PK, z = (mkN K7 q31 23 (nI at10) (nI at9)) := ⟨_, rfl⟩
      rw [← hK50] at hO
      have hf51 : K49.1 q31 = 1 := by rw [hK50]; exact mkN_T
      have hf52 : K49.2.1 0 q31 = 23 := by rw [hK50]; exact mkN_0
      have hf53 : K49.2.1 2 q31 = (nI at9) := by rw [hK50]; exact mkN_2
      have hf54 : K49.2.2.1 0 q31 = none := by rw [hK50]; exact mkN_C
      have hf55 : K49.2.2.1 1 q31 = none := by rw [hK50]; exact mkN_C
      have hf56 : K49.2.2.1 2 q31 = none := by rw [hK50]; exact mkN_C
      have hf57 : K49.2.2.1 3 q31 = none := by rw [hK50]; exact mkN_C
      have hf58 : K49.2.2.1 4 q31 = none := by rw [hK50]; exact mkN_C
      have hf59 : K49.1 r6 = 1 := by rw [hK50]; exact ((mkN_ext hq32 r6 (by rw [hf17]; decide)).1).trans hf17
      have hf60 : K49.2.1 0 r6 = kd9 := by rw [hK50]; exact ((mkN_ext hq32 r6 (by rw [hf17]; decide)).2.1 0).trans hkd9
      have hns61 : NwS K K49 g (gset g8 q31 0 0 0) := by rw [hK50]; exact NwS.node hns16 hq32
      have hq62 : K.1 q31 = 0 := old_T hns16.2.1 hq32
      have hg63 : (gset g8 q31 0 0 0) 0 q31 = 0 := gset_0
      have hno64 : NoO K49 (gset g8 q31 0 0 0) q31 := by rw [hK50]; exact NoO.new hns16.1 hq32
      have hxq65 : ¬ r6 = q31 := fun z => by have z2 := hf17; rw [z, hq32] at z2; exact absurd z2 (by decide)
      have hgz66 : (gset g8 q31 0 0 0) 0 r6 = g8 0 r6 := gset_ne hxq65
      refine lv_astore (lv' := [(4, .ref q31), (3, .ref r6), (2, .int (nI at9)), (0, .ref (a 3)), (1, .int (nI x))]) hx hb dX8_simple_70 hl (by decide) rfl (fun ls hl => ?_)
      refine lv_aload hx hb dX8_simple_72 (lv_at hl 0 rfl) ?_
      refine lv_aload_n hx hb dX8_simple_74 rfl (lv_at hl 1 rfl) ?_
      refine p_put (v := .ref r6) (ty := (.object "JinjaTongue$Node")) (C := RX7) (Tc := TX7) (N := 11) (ci := 13) (K' := (kC K49 0 q31 (some r6))) hx hb hq pin_wsX70 tyX7 tyX7_ok nmX7 hown hE hP hD hS hO (by rw [hf51]; decide) (rep_1 hf51) rfl 6 (by decide) (hq _ pw_938) (fun _ h9 => h9) rfl (by decide +kernel) rfl rfl (Nat.le_of_ble_eq_true rfl) rfl (by rw [rep_1 (show (kC K49 0 q31 (some r6)).1 q31 = 1 from hf51), pc_0] <;> rfl) (fun p9 hp9 => rep_kC hp9) dX8_simple_75 (fun H locs w hP hD hS hO => ?_)
      obtain ⟨K67, hK68⟩ : ∃ z : PK, z = (kC K49 0 q31 (some r6)) := ⟨_, rfl⟩
      rw [← hK68] at hO
      have hf69 : K67.1 q31 = 1 := (by rw [hK68]; exact hf51)
      have hf70 : K67.2.1 0 q31 = 23 := (by rw [hK68]; exact hf52)
      have hf71 : K67.2.1 2 q31 = (nI at9) := (by rw [hK68]; exact hf53)
      have hf72 : K67.2.2.1 1 q31 = none := (by rw [hK68]; exact (kC_of (by decide)).trans hf55)
      have hf73 : K67.2.2.1 2 q31 = none := (by rw [hK68]; exact (kC_of (by decide)).trans hf56)
      have hf74 : K67.2.2.1 3 q31 = none := (by rw [hK68]; exact (kC_of (by decide)).trans hf57)
      have hf75 : K67.2.2.1 4 q31 = none := (by rw [hK68]; exact (kC_of (by decide)).trans hf58)
      have hf76 : K67.1 r6 = 1 := (by rw [hK68]; exact hf59)
      have hf77 : K67.2.1 0 r6 = kd9 := (by rw [hK68]; exact hf60)
      have hf78 : K67.2.2.1 0 q31 = some r6 := by rw [hK68]; exact kC_eq
      have hns79 : NwS K K67 g (gset g8 q31 0 0 0) := by rw [hK68]; exact NwS.put hns61 hq62 hg63
      have hno80 : NoO K67 (gset g8 q31 0 0 0) q31 := by rw [hK68]; exact hno64
      refine lv_aload hx hb dX8_simple_78 (lv_at hl 0 rfl) ?_
      refine lv_aload_n hx hb dX8_simple_80 rfl (lv_at hl 3 rfl) ?_
      have hO : OKP G h0 a (upd (upd (upd (upd (upd (upd (upd (upd (upd (upd F 2 (nI sz)) 9 (nI at9)) 10 (nI dp)) 11 (nI sg)) 9 (nI (at10 + 1))) 11 (nI sg11)) 2 (nI sz)) 9 (nI (at10 + 1))) 10 (nI dp)) 11 (nI sg11)) R Z (updA B 10 f12) J K67 w := hO.to rfl
      obtain ⟨_, qr84, hqr85⟩ := hO.2.1 23 _ (sg_23 G h0 a _ _ _ _ _)
      refine pn_V0 (G := G) (As := []) (rest := [.ref q31]) hx hb hml hown hq hE hX pX0_al hP hD hS hA hl.1 (((PE_all l G n).1) h0 a (upd (upd (upd (upd (upd (upd F 2 (nI sz)) 9 (nI at9)) 10 (nI dp)) 11 (nI sg)) 9 (nI (at10 + 1))) 11 (nI sg11)) R Z (updA B 10 f12) J K67 w (at10 + 1) sz dp sg11 0 (gset g8 q31 0 0 0) (by omega) (by omega) hdp (by omega) hns79.1 (fun o9 h9 => absurd h9 (by omega)) hO hl0) (gV pw_916 pw_917 pw_918 pw_796 pw_942) hV_X8_expression qr84 5 hqr85 rfl rfl rfl (Nat.le_of_ble_eq_true rfl) dX8_simple_81 ⟨(by show ((2 * (at10 - at9) - 1) + 1) + (2 * (sz - (at10 + 1)) + 20) ≤ (2 * (sz - at9) + 20); omega), (by show ((11 * (2 * (at10 - at9) - 1)) + 11) + (11 * (2 * (sz - (at10 + 1)) + 20)) ≤ (11 * (2 * (sz - at9) + 20)); omega)⟩ ⟨(by show (40 * n + 40) + 1 ≤ (40 * n + 44); omega), (by show 8 + (3 + 11) + (1300 * n + 1300) ≤ (1300 * n + 1400); omega)⟩ (fun v83 u81 H locs hw82 hP hD hS => ?_) (fun ux ce9 q9 H9 locs9 hux hP9 hD9 hS9 hce hcv hcl => pb_out ux (ThQ.up (Thx.same (Thx.same (Thx.same (Thx.same (Thx.b (Thx.f (Thx.f Thx.rfl (by omega)) (by omega)) (by omega) (by decide)) rfl) rfl) rfl) rfl) RhX.rfl hux) hnt hlocks hce hcv hcl hP9 hD9 hS9 (by show ((2 * (at10 - at9) - 1) + 1) + (2 * (sz - (at10 + 1)) + 20) ≤ (2 * (sz - at9) + 20); omega) (by show ((11 * (2 * (at10 - at9) - 1)) + 11) + (11 * (2 * (sz - (at10 + 1)) + 20)) ≤ (11 * (2 * (sz - at9) + 20)); omega))
      obtain ⟨w, r86, K87, g88, at89, sg90, f91⟩ := u81
      obtain ⟨hw82, h92, h93, h94, hO⟩ := hw82
      have h92 : NwR K67 K87 (gset g8 q31 0 0 0) g88 r86 0 (at10 + 1) (5 * (20 - dp) + 6 + (sg90 - sg11)) := h92
      have h93 : (at10 + 1) + 1 ≤ at89 ∧ at89 ≤ sz := h93
      have h94 : sg11 ≤ sg90 ∧ sg90 ≤ 60 := h94
      obtain rfl : v83 = some (.ref r86) := hw82
      have hf95 : K87.1 q31 = 1 := (((h92).2.1.1 q31 (by rw [hf69]; decide)).1).trans hf69
      have hf96 : K87.2.1 0 q31 = 23 := (((h92).2.1.1 q31 (by rw [hf69]; decide)).2.1 0).trans hf70
      have hf97 : K87.2.1 2 q31 = (nI at9) := (((h92).2.1.1 q31 (by rw [hf69]; decide)).2.1 2).trans hf71
      have hf98 : K87.2.2.1 1 q31 = none := (((h92).2.1.1 q31 (by rw [hf69]; decide)).2.2.1 1).trans hf72
      have hf99 : K87.2.2.1 2 q31 = none := (((h92).2.1.1 q31 (by rw [hf69]; decide)).2.2.1 2).trans hf73
      have hf100 : K87.2.2.1 3 q31 = none := (((h92).2.1.1 q31 (by rw [hf69]; decide)).2.2.1 3).trans hf74
      have hf101 : K87.2.2.1 4 q31 = none := (((h92).2.1.1 q31 (by rw [hf69]; decide)).2.2.1 4).trans hf75
      have hf102 : K87.1 r6 = 1 := (((h92).2.1.1 r6 (by rw [hf76]; decide)).1).trans hf76
      have hf103 : K87.2.1 0 r6 = kd9 := (((h92).2.1.1 r6 (by rw [hf76]; decide)).2.1 0).trans hf77
      have hf104 : K87.2.2.1 0 q31 = some r6 := (((h92).2.1.1 q31 (by rw [hf69]; decide)).2.2.1 0).trans hf78
      have hO : OKP G h0 a (upd (upd (upd (upd F 2 (nI sz)) 9 (nI at89)) 10 (nI dp)) 11 (nI sg90)) R Z (updA B 10 f91) J K87 w := hO.to rfl
      refine W.widen (k := (((2 * (at10 - at9) - 1) + 1) + (2 * (at89 - (at10 + 1)) - 1))) (n := (((11 * (2 * (at10 - at9) - 1)) + 11) + (11 * (2 * (at89 - (at10 + 1)) - 1)))) (by show ((2 * (at10 - at9) - 1) + 1) + (2 * (at89 - (at10 + 1)) - 1) ≤ (((2 * (at10 - at9) - 1) + 1) + (2 * (at89 - (at10 + 1)) - 1)); omega) (by show ((11 * (2 * (at10 - at9) - 1)) + 11) + (11 * (2 * (at89 - (at10 + 1)) - 1)) ≤ (((11 * (2 * (at10 - at9) - 1)) + 11) + (11 * (2 * (at89 - (at10 + 1)) - 1))); omega) ?_
      refine W.eq (g2 := F0 m 84 ls [.ref r86, .ref q31]) rfl ?_
      have hns105 : NwS K K87 g g88 := NwS.call hns79 h92 (fun o9 h9 => absurd h9 (by omega))
      have hf106 : K87.1 r86 = 1 := h92.2.2.1.2.1
      have hg107 : g88 0 q31 = 0 := (h92.2.1.2 q31 (by rw [hf69]; decide) 0).trans hg63
      have hno108 : NoO K87 g88 q31 := NoO.call hno80 h92 hf69 (by omega)
      have hgz109 : g88 0 r6 = (gset g8 q31 0 0 0) 0 r6 := h92.2.1.2 r6 (by rw [hf76]; decide) 0
      have hgy110 := h92.2.2.1
      have hgy110a := hgy110.2.2.1
      have hgy110b := hgy110.2.2.2.1
      refine p_put (v := .ref r86) (ty := (.object "JinjaTongue$Node")) (C := RX7) (Tc := TX7) (N := 11) (ci := 13) (K' := (kC K87 1 q31 (some r86))) hx hb hq pin_wsX70 tyX7 tyX7_ok nmX7 hown hE hP hD hS hO (by rw [hf95]; decide) (rep_1 hf95) rfl 7 (by decide) (hq _ pw_910) (fun _ h9 => h9) rfl (by decide +kernel) rfl rfl (Nat.le_of_ble_eq_true rfl) rfl (by rw [rep_1 (show (kC K87 1 q31 (some r86)).1 q31 = 1 from hf95), pc_1] <;> rfl) (fun p9 hp9 => rep_kC hp9) dX8_simple_84 (fun H locs w hP hD hS hO => ?_)
      obtain ⟨K111, hK112⟩ : ∃ z : PK, z = (kC K87 1 q31 (some r86)) := ⟨_, rfl⟩
      rw [← hK112] at hO
      have hf113 : K111.1 q31 = 1 := (by rw [hK112]; exact hf95)
      have hf114 : K111.2.1 0 q31 = 23 := (by rw [hK112]; exact hf96)
      have hf115 : K111.2.1 2 q31 = (nI at9) := (by rw [hK112]; exact hf97)
      have hf116 : K111.2.2.1 2 q31 = none := (by rw [hK112]; exact (kC_of (by decide)).trans hf99)
      have hf117 : K111.2.2.1 3 q31 = none := (by rw [hK112]; exact (kC_of (by decide)).trans hf100)
      have hf118 : K111.2.2.1 4 q31 = none := (by rw [hK112]; exact (kC_of (by decide)).trans hf101)
      have hf119 : K111.1 r6 = 1 := (by rw [hK112]; exact hf102)
      have hf120 : K111.2.1 0 r6 = kd9 := (by rw [hK112]; exact hf103)
      have hf121 : K111.2.2.1 0 q31 = some r6 := (by rw [hK112]; exact (kC_of (by decide)).trans hf104)
      have hf122 : K111.1 r86 = 1 := (by rw [hK112]; exact hf106)
      have hf123 : K111.2.2.1 1 q31 = some r86 := by rw [hK112]; exact kC_eq
      have hns124 : NwS K K111 g g88 := by rw [hK112]; exact NwS.put hns105 hq62 hg107
      have hno125 : NoO K111 g88 q31 := by rw [hK112]; exact hno108
      refine lv_aload hx hb dX8_simple_87 (lv_at hl 0 rfl) ?_
      refine W_size (fun hz1 hz2 => ?_)
      refine vx_ret ?_
      have hpl := hpl0 (show r26 = 1 by omega)
      obtain ⟨k9, hkI, hkS, hkE, hkM, hkN⟩ : ∃ z : Nat, Itv z ∧ rS z = at9 ∧ rE z = at89 ∧ rM z = at89 ∧ rN z = at89 := ⟨rk at9 at89 at89 at89, Itv.of (by omega), rS_rk (by omega), rE_rk (by omega), rM_rk (by omega), rN_rk (by omega)⟩
      have hkid : ∀ f9 y9 : Nat, f9 ≤ 3 → K111.2.2.1 f9 q31 = some y9 → K111.1 y9 = 1 ∧ 1 ≤ g88 0 y9 ∧ g88 0 y9 < 168 := by
        intro f9 y9 hf9 hy9
        rcases (show f9 = 0 ∨ f9 = 1 ∨ f9 = 2 ∨ f9 = 3 by omega) with rfl | rfl | rfl | rfl
        · rw [hf121] at hy9; cases hy9; exact ⟨hf119, (by omega), by omega⟩
        · rw [hf123] at hy9; cases hy9; exact ⟨hf122, (by omega), by omega⟩
        · rw [hf116] at hy9; cases hy9
        · rw [hf117] at hy9; cases hy9
      have hdn := NwS.done1I (q := q31) (L := 168) (O := O) (k := k9) hns124 hq62 hf113 hg107 (by omega) hkI (by rw [hf114]; exact ⟨(fun z => absurd z (by decide)), (fun _ => ⟨(by show ¬ K111.2.2.1 0 q31 = none; rw [hf121]; intro z; cases z), (by show ¬ K111.2.2.1 1 q31 = none; rw [hf123]; intro z; cases z)⟩), (fun z => absurd z (by decide)), (fun z => absurd z (by decide)), (fun z => absurd z (by decide))⟩) (fun f9 z => by rw [hf114] at z; rcases z with ⟨z, _⟩ | ⟨z | z | z, _⟩ <;> exact absurd z (by decide)) hkid hf118 hno125 (fun f9 y9 h9 e9 => by rw [hf114]; exact Kch.k23 (fun z0 => by subst z0; rw [hf121] at e9; cases e9; rw [hf120]; exact hpl)) how
      have hz126 : NwR K K111 g (gset g88 q31 168 O k9) q31 O k9 (168) := hdn
      have hz127 : at9 + 1 ≤ at89 ∧ at89 ≤ sz := (by omega)
      have hz128 : sg ≤ sg90 ∧ sg90 ≤ 60 := (by omega)
      have hz129 : rS k9 = at9 ∧ rE k9 ≤ at89 ∧ rS k9 ≤ rE k9 := (by omega)
      have hO : OKP G h0 a (upd (upd (upd (upd F 2 (nI sz)) 9 (nI at89)) 10 (nI dp)) 11 (nI sg90)) R Z (updA B 10 f91) J K111 w := hO.to rfl
      refine W.widen (k := (2 * (sz - at9) + 20)) (n := (11 * (2 * (sz - at9) + 20))) (by omega) (by omega) ?_
      have hzz1 : H.size ≤ s.heap.size + ((2 * (at89 - at9) - 0)) := (by have z : (((2 * (at10 - at9) - 1) + 1) + (2 * (at89 - (at10 + 1)) - 1)) ≤ (2 * (at89 - at9) - 0) := (by omega); omega)
      have hzz2 : hSl H ≤ hSl s.heap + ((11 * (2 * (at89 - at9) - 0))) := (by have z : (((11 * (2 * (at10 - at9) - 1)) + 11) + (11 * (2 * (at89 - (at10 + 1)) - 1))) ≤ (11 * (2 * (at89 - at9) - 0)) := (by omega); omega)
      exact W.aret (v := .ref q31) hx hb hr (Or.inl ⟨_, rfl⟩) (Or.inr ⟨_, rfl⟩) (fun t99 ht99 hW99 => ⟨⟨_, (w, (q31, K111, (gset g88 q31 168 O k9), at89, sg90, f91, k9)), rfl, ⟨rfl, hz126, hz127, hz128, hz129, hO⟩, by rw [ht99]; exact hP, hD, by rw [ht99]; exact hzz1, by rw [ht99]; exact hzz2⟩, hS.F ht99⟩) hS.2.2 dX8_simple_89
    · have n130 : r26 = 0 := (nI_eq (a := r26) (b := 0) (by omega) (by omega)).mp c29
      refine lv_aload_n hx hb dX8_simple_50 rfl (lv_at hl 2 rfl) ?_
      have hO : OKW G h0 a (upd (upd (upd (upd (upd (upd (upd (upd F 2 (nI sz)) 9 (nI at9)) 10 (nI dp)) 11 (nI sg)) 9 (nI at10)) 11 (nI sg11)) 2 (nI sz)) 9 (nI at10)) R Z (updA B 10 f12) J K7.1 (fun q99 x99 => x99 = rep G a K7 q99) w := hO.to rfl
      obtain ⟨_, qr134, hqr135⟩ := hO.2.1 23 _ (sg_23 G h0 a _ _ _ _ _)
      refine pn_V0 (G := G) (As := []) (rest := []) hx hb hml hown hq hE hX pX0_al hP hD hS hA hl.1 (P_refuse l G h0 a (upd (upd (upd (upd (upd (upd F 2 (nI sz)) 9 (nI at9)) 10 (nI dp)) 11 (nI sg)) 9 (nI at10)) 11 (nI sg11)) R Z (updA B 10 f12) J K7.1 (fun q99 x99 => x99 = rep G a K7 q99) w at10 sz (by omega) (by omega) hO hl0) (gV pw_806 pw_807 pw_808 pw_796 pw_778) hV_X8_refuse qr134 5 hqr135 rfl rfl rfl (Nat.le_of_ble_eq_true rfl) dX8_simple_51 ⟨(by show (2 * (at10 - at9) - 1) + 1 ≤ (2 * (sz - at9) + 20); omega), (by show (11 * (2 * (at10 - at9) - 1)) + 6 ≤ (11 * (2 * (sz - at9) + 20)); omega)⟩ ⟨(by show 7 + 1 ≤ (40 * n + 44); omega), (by show 8 + (1 + 11) + 122 ≤ (1300 * n + 1400); omega)⟩ (fun v133 u131 H locs hw132 hP hD hS => hw132.elim) (fun ux ce9 q9 H9 locs9 hux hP9 hD9 hS9 hce hcv hcl => pb_out ux (ThQ.up (Thx.same (Thx.same (Thx.b (Thx.f (Thx.f Thx.rfl (by omega)) (by omega)) (by omega) (by decide)) rfl) rfl) RhX.rfl hux) hnt hlocks hce hcv hcl hP9 hD9 hS9 (by show (2 * (at10 - at9) - 1) + 1 ≤ (2 * (sz - at9) + 20); omega) (by show (11 * (2 * (at10 - at9) - 1)) + 6 ≤ (11 * (2 * (sz - at9) + 20)); omega))
  · have n136 : ¬ (x = 0) := fun h9 => c19 ((nI_eq (a := x) (b := 0) (by omega) (by omega)).mpr h9)
    refine lv_aload_n hx hb dX8_simple_14 rfl (lv_at hl 0 rfl) ?_
    have hO : OKP G h0 a (upd (upd (upd (upd F 2 (nI sz)) 9 (nI at10)) 10 (nI dp)) 11 (nI sg11)) R Z (updA B 10 f12) J K7 w := hO.to rfl
    obtain ⟨qr140, hqr141⟩ := p_recv hO (by rw [hf17]; decide) (rep_1 hf17)
    refine pc_V0 (G := G) (As := []) (rest := []) hx hb hml hown hq hE hX pX0_al hP hD hS hA hl.1 (N_isCall l G h0 a (upd (upd (upd (upd F 2 (nI sz)) 9 (nI at10)) 10 (nI dp)) 11 (nI sg11)) R Z (updA B 10 f12) J K7 w r6 hf17 hO) (gV pw_988 pw_989 pw_990 pw_872 pw_771) hV_X7_isCall qr140 13 hqr141 rfl rfl rfl (Nat.le_of_ble_eq_true rfl) dX8_simple_15 ⟨(by show (2 * (at10 - at9) - 1) + 0 ≤ (2 * (sz - at9) + 20); omega), (by show (11 * (2 * (at10 - at9) - 1)) + 0 ≤ (11 * (2 * (sz - at9) + 20)); omega)⟩ ⟨(by show 2 + 1 ≤ (40 * n + 44); omega), (by show 8 + (1 + 11) + 60 ≤ (1300 * n + 1400); omega)⟩ (fun v139 u137 H locs hw138 hP hD hS => ?_)
    obtain ⟨w, r142⟩ := u137
    obtain ⟨hw138, h143, h144, hO⟩ := hw138
    have h143 : r142 ≤ 1 := h143
    have h144 : If (r142 = 1) (K7.2.1 0 r6 = 10 ∨ K7.2.1 0 r6 = 11) := h144
    obtain rfl : v139 = some (.int (nI r142)) := hw138
    have hO : OKP G h0 a (upd (upd (upd (upd F 2 (nI sz)) 9 (nI at10)) 10 (nI dp)) 11 (nI sg11)) R Z (updA B 10 f12) J K7 w := hO.to rfl
    refine W.widen (k := (2 * (at10 - at9) - 1)) (n := (11 * (2 * (at10 - at9) - 1))) (by show (2 * (at10 - at9) - 1) + 0 ≤ (2 * (at10 - at9) - 1); omega) (by show (11 * (2 * (at10 - at9) - 1)) + 0 ≤ (11 * (2 * (at10 - at9) - 1)); omega) ?_
    refine W.eq (g2 := F0 m 18 ls [.int (nI r142)]) rfl ?_
    refine lv_if_eq (tgt := 43) hx hb dX8_simple_18 (by decide) (fun c145 => ?_) (fun c145 => ?_)
    · have n146 : r142 = 0 := (nI_eq (a := r142) (b := 0) (by omega) (by omega)).mp c145
      refine lv_aload_n hx hb dX8_simple_43 rfl (lv_at hl 0 rfl) ?_
      have hO : OKP G h0 a (upd (upd (upd (upd F 2 (nI sz)) 9 (nI at10)) 10 (nI dp)) 11 (nI sg11)) R Z (updA B 10 f12) J K7 w := hO.to rfl
      obtain ⟨qr150, hqr151⟩ := p_recv hO (by rw [hf17]; decide) (rep_1 hf17)
      refine pc_V0 (G := G) (As := []) (rest := []) hx hb hml hown hq hE hX pX0_al hP hD hS hA hl.1 (N_isPlace l G h0 a (upd (upd (upd (upd F 2 (nI sz)) 9 (nI at10)) 10 (nI dp)) 11 (nI sg11)) R Z (updA B 10 f12) J K7 w r6 hf17 hO) (gV pw_991 pw_992 pw_993 pw_872 pw_770) hV_X7_isPlace qr150 13 hqr151 rfl rfl rfl (Nat.le_of_ble_eq_true rfl) dX8_simple_44 ⟨(by show (2 * (at10 - at9) - 1) + 0 ≤ (2 * (sz - at9) + 20); omega), (by show (11 * (2 * (at10 - at9) - 1)) + 0 ≤ (11 * (2 * (sz - at9) + 20)); omega)⟩ ⟨(by show 2 + 1 ≤ (40 * n + 44); omega), (by show 8 + (1 + 11) + 60 ≤ (1300 * n + 1400); omega)⟩ (fun v149 u147 H locs hw148 hP hD hS => ?_)
      obtain ⟨w, r152⟩ := u147
      obtain ⟨hw148, h153, h154, hO⟩ := hw148
      have h153 : r152 ≤ 1 := h153
      have h154 : If (r152 = 1) (K7.2.1 0 r6 = 5 ∨ K7.2.1 0 r6 = 12 ∨ K7.2.1 0 r6 = 14) := h154
      obtain rfl : v149 = some (.int (nI r152)) := hw148
      have hO : OKP G h0 a (upd (upd (upd (upd F 2 (nI sz)) 9 (nI at10)) 10 (nI dp)) 11 (nI sg11)) R Z (updA B 10 f12) J K7 w := hO.to rfl
      refine W.widen (k := (2 * (at10 - at9) - 1)) (n := (11 * (2 * (at10 - at9) - 1))) (by show (2 * (at10 - at9) - 1) + 0 ≤ (2 * (at10 - at9) - 1); omega) (by show (11 * (2 * (at10 - at9) - 1)) + 0 ≤ (11 * (2 * (at10 - at9) - 1)); omega) ?_
      refine W.eq (g2 := F0 m 47 ls [.int (nI r152)]) rfl ?_
      have hpl0 := h154
      rw [hkd9] at hpl0
      refine lv_if_ne (tgt := 54) hx hb dX8_simple_47 (by decide) (fun c155 => ?_) (fun c155 => ?_)
      · have n156 : ¬ (r152 = 0) := fun h9 => c155 ((nI_eq (a := r152) (b := 0) (by omega) (by omega)).mpr h9)
        refine p_new (s9 := 1) (C := RX7) (T := TX7) (N := 11) (ci := 13) (fs := [.int 0, .int 0, .int 0, .int 0, .int 0, .int 0, .null, .null, .null, .null, .null]) hx hb hq pin_wsX70 tyX7 tyX7_ok hown (hq _ pw_870) (hq _ pw_871) (hq _ pw_872) hE hP hD hS hA hO rfl nw_X7 (by decide) (fun q => by rw [rep_1 (show (kN K7 q 1 0).1 q = 1 from if_pos rfl)]; unfold fsNode kN; simp only [if_true]; rfl) (by show (2 * (at10 - at9) - 1) + 1 ≤ (2 * (sz - at9) + 20); omega) (by show (11 * (2 * (at10 - at9) - 1)) + 11 ≤ (11 * (2 * (sz - at9) + 20)); omega) dX8_simple_54 (fun q157 H w hq158 hP hD hS hO => ?_)
        have hf159 : (kN K7 q157 1 0).1 r6 = 1 := (if_neg (fun z => by have z2 := hf17; rw [z, hq158] at z2; exact absurd z2 (by decide))).trans hf17
        have hf160 : (kN K7 q157 1 0).2.1 0 r6 = kd9 := (if_neg (fun z => by have z2 := hf17; rw [z, hq158] at z2; exact absurd z2 (by decide))).trans hkd9
        have hf161 : (kN K7 q157 1 0).1 q157 = 1 := if_pos rfl
        refine W.widen (k := ((2 * (at10 - at9) - 1) + 1)) (n := ((11 * (2 * (at10 - at9) - 1)) + 11)) (by show (2 * (at10 - at9) - 1) + 1 ≤ ((2 * (at10 - at9) - 1) + 1); omega) (by show (11 * (2 * (at10 - at9) - 1)) + 11 ≤ ((11 * (2 * (at10 - at9) - 1)) + 11); omega) ?_
        refine lv_dup hx hb dX8_simple_57 rfl ?_
        refine lv_bipush (v := 23) hx hb dX8_simple_58 (by decide) ?_
        refine lv_aload_n hx hb dX8_simple_60 rfl (lv_at hl 2 rfl) ?_
        refine lv_bipush (v := 43) hx hb dX8_simple_61 (by decide) ?_
        have hO : OKW G h0 a (upd (upd (upd (upd (upd (upd (upd (upd F 2 (nI sz)) 9 (nI at9)) 10 (nI dp)) 11 (nI sg)) 9 (nI at10)) 11 (nI sg11)) 2 (nI sz)) 9 (nI at10)) R Z (updA B 10 f12) J ((kN K7 q157 1 0).1) (fun q99 x99 => x99 = rep G a (kN K7 q157 1 0) q99) w := hO.to rfl
        obtain ⟨_, qr165, hqr166⟩ := hO.2.1 23 _ (sg_23 G h0 a _ _ _ _ _)
        refine pn_V0 (G := G) (As := [.int 43]) (rest := [.int 23, .ref q157, .ref q157]) hx hb hml hown hq hE hX pX0_al hP hD hS hA hl.1 (P_take l G h0 a (upd (upd (upd (upd (upd (upd F 2 (nI sz)) 9 (nI at9)) 10 (nI dp)) 11 (nI sg)) 9 (nI at10)) 11 (nI sg11)) R Z (updA B 10 f12) J ((kN K7 q157 1 0).1) (fun q99 x99 => x99 = rep G a (kN K7 q157 1 0) q99) w 43 at10 sz (by omega) (by omega) (by decide) hO hl0) (gV pw_793 pw_794 pw_795 pw_796 pw_781) hV_X8_take qr165 5 hqr166 rfl rfl rfl (Nat.le_of_ble_eq_true rfl) dX8_simple_63 ⟨(by show ((2 * (at10 - at9) - 1) + 1) + 1 ≤ (2 * (sz - at9) + 20); omega), (by show ((11 * (2 * (at10 - at9) - 1)) + 11) + 6 ≤ (11 * (2 * (sz - at9) + 20)); omega)⟩ ⟨(by show 7 + 1 ≤ (40 * n + 44); omega), (by show 8 + (2 + 11) + 122 ≤ (1300 * n + 1400); omega)⟩ (fun v164 u162 H locs hw163 hP hD hS => ?_) (fun ux ce9 q9 H9 locs9 hux hP9 hD9 hS9 hce hcv hcl => pb_out ux (ThQ.up (Thx.same (Thx.same (Thx.b (Thx.f (Thx.f Thx.rfl (by omega)) (by omega)) (by omega) (by decide)) rfl) rfl) RhX.rfl hux) hnt hlocks hce hcv hcl hP9 hD9 hS9 (by show ((2 * (at10 - at9) - 1) + 1) + 1 ≤ (2 * (sz - at9) + 20); omega) (by show ((11 * (2 * (at10 - at9) - 1)) + 11) + 6 ≤ (11 * (2 * (sz - at9) + 20)); omega))
        obtain ⟨w, _⟩ := u162
        obtain ⟨hw163, h167, hO⟩ := hw163
        have h167 : at10 + 1 ≤ sz := h167
        obtain rfl : v164 = some (.int (nI at10)) := hw163
        have hO : OKP G h0 a (upd (upd (upd (upd F 2 (nI sz)) 9 (nI (at10 + 1))) 10 (nI dp)) 11 (nI sg11)) R Z (updA B 10 f12) J (kN K7 q157 1 0) w := hO.to rfl
        refine W.widen (k := ((2 * (at10 - at9) - 1) + 1)) (n := ((11 * (2 * (at10 - at9) - 1)) + 11)) (by show ((2 * (at10 - at9) - 1) + 1) + 0 ≤ ((2 * (at10 - at9) - 1) + 1); omega) (by show ((11 * (2 * (at10 - at9) - 1)) + 11) + 0 ≤ ((11 * (2 * (at10 - at9) - 1)) + 11); omega) ?_
        refine W.eq (g2 := F0 m 66 ls [.int (nI at10), .int 23, .ref q157, .ref q157]) rfl ?_
        refine lv_iload_n hx hb dX8_simple_66 rfl (lv_at hl 1 rfl) ?_
        have hO : OKP G h0 a (upd (upd (upd (upd F 2 (nI sz)) 9 (nI (at10 + 1))) 10 (nI dp)) 11 (nI sg11)) R Z (updA B 10 f12) J (kN K7 q157 1 0) w := hO.to rfl
        obtain ⟨qr171, hqr172⟩ := p_recv hO (by rw [hf161]; decide) (rep_1 hf161)
        refine pc_I0 (G := G) (As := [.int 23, .int (nI at10), .int (nI at9)]) (rest := [.ref q157]) hx hb hml hown hq hE hX pX0_al hP hD hS hA hl.1 (N_init l G h0 a (upd (upd (upd (upd F 2 (nI sz)) 9 (nI (at10 + 1))) 10 (nI dp)) 11 (nI sg11)) R Z (updA B 10 f12) J (kN K7 q157 1 0) w q157 23 (nI at10) (nI at9) (by omega) hO) pw_874 pw_875 pw_872 pw_765 rfl hS_X7_init rfl (Nat.le_of_ble_eq_true rfl) dX8_simple_67 ⟨(by show ((2 * (at10 - at9) - 1) + 1) + 0 ≤ (2 * (sz - at9) + 20); omega), (by show ((11 * (2 * (at10 - at9) - 1)) + 11) + 0 ≤ (11 * (2 * (sz - at9) + 20)); omega)⟩ ⟨(by show 2 + 1 ≤ (40 * n + 44); omega), (by show 8 + (4 + 11) + 60 ≤ (1300 * n + 1400); omega)⟩ (fun v170 u168 H locs hw169 hP hD hS => ?_)
        obtain ⟨w, _⟩ := u168
        obtain ⟨hw169, hO⟩ := hw169
        obtain rfl : v170 = none := hw169
        have hf173 : (kI (kI (kI (kN K7 q157 1 0) 0 q157 23) 1 q157 (nI at10)) 2 q157 (nI at9)).1 r6 = 1 := hf159
        have hf174 : (kI (kI (kI (kN K7 q157 1 0) 0 q157 23) 1 q157 (nI at10)) 2 q157 (nI at9)).1 q157 = 1 := hf161
        have hO : OKP G h0 a (upd (upd (upd (upd F 2 (nI sz)) 9 (nI (at10 + 1))) 10 (nI dp)) 11 (nI sg11)) R Z (updA B 10 f12) J (kI (kI (kI (kN K7 q157 1 0) 0 q157 23) 1 q157 (nI at10)) 2 q157 (nI at9)) w := hO.to rfl
        refine W.widen (k := ((2 * (at10 - at9) - 1) + 1)) (n := ((11 * (2 * (at10 - at9) - 1)) + 11)) (by show ((2 * (at10 - at9) - 1) + 1) + 0 ≤ ((2 * (at10 - at9) - 1) + 1); omega) (by show ((11 * (2 * (at10 - at9) - 1)) + 11) + 0 ≤ ((11 * (2 * (at10 - at9) - 1)) + 11); omega) ?_
        refine W.eq (g2 := F0 m 70 ls [.ref q157]) rfl ?_
        change OKP G h0 a (upd (upd (upd (upd F 2 (nI sz)) 9 (nI (at10 + 1))) 10 (nI dp)) 11 (nI sg11)) R Z (updA B 10 f12) J (mkN K7 q157 23 (nI at10) (nI at9)) w at hO
        obtain ⟨K175, hK176⟩ : ∃ z : PK, z = (mkN K7 q157 23 (nI at10) (nI at9)) := ⟨_, rfl⟩
        rw [← hK176] at hO
        have hf177 : K175.1 q157 = 1 := by rw [hK176]; exact mkN_T
        have hf178 : K175.2.1 0 q157 = 23 := by rw [hK176]; exact mkN_0
        have hf179 : K175.2.1 2 q157 = (nI at9) := by rw [hK176]; exact mkN_2
        have hf180 : K175.2.2.1 0 q157 = none := by rw [hK176]; exact mkN_C
        have hf181 : K175.2.2.1 1 q157 = none := by rw [hK176]; exact mkN_C
        have hf182 : K175.2.2.1 2 q157 = none := by rw [hK176]; exact mkN_C
        have hf183 : K175.2.2.1 3 q157 = none := by rw [hK176]; exact mkN_C
        have hf184 : K175.2.2.1 4 q157 = none := by rw [hK176]; exact mkN_C
        have hf185 : K175.1 r6 = 1 := by rw [hK176]; exact ((mkN_ext hq158 r6 (by rw [hf17]; decide)).1).trans hf17
        have hf186 : K175.2.1 0 r6 = kd9 := by rw [hK176]; exact ((mkN_ext hq158 r6 (by rw [hf17]; decide)).2.1 0).trans hkd9
        have hns187 : NwS K K175 g (gset g8 q157 0 0 0) := by rw [hK176]; exact NwS.node hns16 hq158
        have hq188 : K.1 q157 = 0 := old_T hns16.2.1 hq158
        have hg189 : (gset g8 q157 0 0 0) 0 q157 = 0 := gset_0
        have hno190 : NoO K175 (gset g8 q157 0 0 0) q157 := by rw [hK176]; exact NoO.new hns16.1 hq158
        have hxq191 : ¬ r6 = q157 := fun z => by have z2 := hf17; rw [z, hq158] at z2; exact absurd z2 (by decide)
        have hgz192 : (gset g8 q157 0 0 0) 0 r6 = g8 0 r6 := gset_ne hxq191
        refine lv_astore (lv' := [(4, .ref q157), (3, .ref r6), (2, .int (nI at9)), (0, .ref (a 3)), (1, .int (nI x))]) hx hb dX8_simple_70 hl (by decide) rfl (fun ls hl => ?_)
        refine lv_aload hx hb dX8_simple_72 (lv_at hl 0 rfl) ?_
        refine lv_aload_n hx hb dX8_simple_74 rfl (lv_at hl 1 rfl) ?_
        refine p_put (v := .ref r6) (ty := (.object "JinjaTongue$Node")) (C := RX7) (Tc := TX7) (N := 11) (ci := 13) (K' := (kC K175 0 q157 (some r6))) hx hb hq pin_wsX70 tyX7 tyX7_ok nmX7 hown hE hP hD hS hO (by rw [hf177]; decide) (rep_1 hf177) rfl 6 (by decide) (hq _ pw_938) (fun _ h9 => h9) rfl (by decide +kernel) rfl rfl (Nat.le_of_ble_eq_true rfl) rfl (by rw [rep_1 (show (kC K175 0 q157 (some r6)).1 q157 = 1 from hf177), pc_0] <;> rfl) (fun p9 hp9 => rep_kC hp9) dX8_simple_75 (fun H locs w hP hD hS hO => ?_)
        obtain ⟨K193, hK194⟩ : ∃ z : PK, z = (kC K175 0 q157 (some r6)) := ⟨_, rfl⟩
        rw [← hK194] at hO
        have hf195 : K193.1 q157 = 1 := (by rw [hK194]; exact hf177)
        have hf196 : K193.2.1 0 q157 = 23 := (by rw [hK194]; exact hf178)
        have hf197 : K193.2.1 2 q157 = (nI at9) := (by rw [hK194]; exact hf179)
        have hf198 : K193.2.2.1 1 q157 = none := (by rw [hK194]; exact (kC_of (by decide)).trans hf181)
        have hf199 : K193.2.2.1 2 q157 = none := (by rw [hK194]; exact (kC_of (by decide)).trans hf182)
        have hf200 : K193.2.2.1 3 q157 = none := (by rw [hK194]; exact (kC_of (by decide)).trans hf183)
        have hf201 : K193.2.2.1 4 q157 = none := (by rw [hK194]; exact (kC_of (by decide)).trans hf184)
        have hf202 : K193.1 r6 = 1 := (by rw [hK194]; exact hf185)
        have hf203 : K193.2.1 0 r6 = kd9 := (by rw [hK194]; exact hf186)
        have hf204 : K193.2.2.1 0 q157 = some r6 := by rw [hK194]; exact kC_eq
        have hns205 : NwS K K193 g (gset g8 q157 0 0 0) := by rw [hK194]; exact NwS.put hns187 hq188 hg189
        have hno206 : NoO K193 (gset g8 q157 0 0 0) q157 := by rw [hK194]; exact hno190
        refine lv_aload hx hb dX8_simple_78 (lv_at hl 0 rfl) ?_
        refine lv_aload_n hx hb dX8_simple_80 rfl (lv_at hl 3 rfl) ?_
        have hO : OKP G h0 a (upd (upd (upd (upd (upd (upd (upd (upd (upd (upd F 2 (nI sz)) 9 (nI at9)) 10 (nI dp)) 11 (nI sg)) 9 (nI (at10 + 1))) 11 (nI sg11)) 2 (nI sz)) 9 (nI (at10 + 1))) 10 (nI dp)) 11 (nI sg11)) R Z (updA B 10 f12) J K193 w := hO.to rfl
        obtain ⟨_, qr210, hqr211⟩ := hO.2.1 23 _ (sg_23 G h0 a _ _ _ _ _)
        refine pn_V0 (G := G) (As := []) (rest := [.ref q157]) hx hb hml hown hq hE hX pX0_al hP hD hS hA hl.1 (((PE_all l G n).1) h0 a (upd (upd (upd (upd (upd (upd F 2 (nI sz)) 9 (nI at9)) 10 (nI dp)) 11 (nI sg)) 9 (nI (at10 + 1))) 11 (nI sg11)) R Z (updA B 10 f12) J K193 w (at10 + 1) sz dp sg11 0 (gset g8 q157 0 0 0) (by omega) (by omega) hdp (by omega) hns205.1 (fun o9 h9 => absurd h9 (by omega)) hO hl0) (gV pw_916 pw_917 pw_918 pw_796 pw_942) hV_X8_expression qr210 5 hqr211 rfl rfl rfl (Nat.le_of_ble_eq_true rfl) dX8_simple_81 ⟨(by show ((2 * (at10 - at9) - 1) + 1) + (2 * (sz - (at10 + 1)) + 20) ≤ (2 * (sz - at9) + 20); omega), (by show ((11 * (2 * (at10 - at9) - 1)) + 11) + (11 * (2 * (sz - (at10 + 1)) + 20)) ≤ (11 * (2 * (sz - at9) + 20)); omega)⟩ ⟨(by show (40 * n + 40) + 1 ≤ (40 * n + 44); omega), (by show 8 + (3 + 11) + (1300 * n + 1300) ≤ (1300 * n + 1400); omega)⟩ (fun v209 u207 H locs hw208 hP hD hS => ?_) (fun ux ce9 q9 H9 locs9 hux hP9 hD9 hS9 hce hcv hcl => pb_out ux (ThQ.up (Thx.same (Thx.same (Thx.same (Thx.same (Thx.b (Thx.f (Thx.f Thx.rfl (by omega)) (by omega)) (by omega) (by decide)) rfl) rfl) rfl) rfl) RhX.rfl hux) hnt hlocks hce hcv hcl hP9 hD9 hS9 (by show ((2 * (at10 - at9) - 1) + 1) + (2 * (sz - (at10 + 1)) + 20) ≤ (2 * (sz - at9) + 20); omega) (by show ((11 * (2 * (at10 - at9) - 1)) + 11) + (11 * (2 * (sz - (at10 + 1)) + 20)) ≤ (11 * (2 * (sz - at9) + 20)); omega))
        obtain ⟨w, r212, K213, g214, at215, sg216, f217⟩ := u207
        obtain ⟨hw208, h218, h219, h220, hO⟩ := hw208
        have h218 : NwR K193 K213 (gset g8 q157 0 0 0) g214 r212 0 (at10 + 1) (5 * (20 - dp) + 6 + (sg216 - sg11)) := h218
        have h219 : (at10 + 1) + 1 ≤ at215 ∧ at215 ≤ sz := h219
        have h220 : sg11 ≤ sg216 ∧ sg216 ≤ 60 := h220
        obtain rfl : v209 = some (.ref r212) := hw208
        have hf221 : K213.1 q157 = 1 := (((h218).2.1.1 q157 (by rw [hf195]; decide)).1).trans hf195
        have hf222 : K213.2.1 0 q157 = 23 := (((h218).2.1.1 q157 (by rw [hf195]; decide)).2.1 0).trans hf196
        have hf223 : K213.2.1 2 q157 = (nI at9) := (((h218).2.1.1 q157 (by rw [hf195]; decide)).2.1 2).trans hf197
        have hf224 : K213.2.2.1 1 q157 = none := (((h218).2.1.1 q157 (by rw [hf195]; decide)).2.2.1 1).trans hf198
        have hf225 : K213.2.2.1 2 q157 = none := (((h218).2.1.1 q157 (by rw [hf195]; decide)).2.2.1 2).trans hf199
        have hf226 : K213.2.2.1 3 q157 = none := (((h218).2.1.1 q157 (by rw [hf195]; decide)).2.2.1 3).trans hf200
        have hf227 : K213.2.2.1 4 q157 = none := (((h218).2.1.1 q157 (by rw [hf195]; decide)).2.2.1 4).trans hf201
        have hf228 : K213.1 r6 = 1 := (((h218).2.1.1 r6 (by rw [hf202]; decide)).1).trans hf202
        have hf229 : K213.2.1 0 r6 = kd9 := (((h218).2.1.1 r6 (by rw [hf202]; decide)).2.1 0).trans hf203
        have hf230 : K213.2.2.1 0 q157 = some r6 := (((h218).2.1.1 q157 (by rw [hf195]; decide)).2.2.1 0).trans hf204
        have hO : OKP G h0 a (upd (upd (upd (upd F 2 (nI sz)) 9 (nI at215)) 10 (nI dp)) 11 (nI sg216)) R Z (updA B 10 f217) J K213 w := hO.to rfl
        refine W.widen (k := (((2 * (at10 - at9) - 1) + 1) + (2 * (at215 - (at10 + 1)) - 1))) (n := (((11 * (2 * (at10 - at9) - 1)) + 11) + (11 * (2 * (at215 - (at10 + 1)) - 1)))) (by show ((2 * (at10 - at9) - 1) + 1) + (2 * (at215 - (at10 + 1)) - 1) ≤ (((2 * (at10 - at9) - 1) + 1) + (2 * (at215 - (at10 + 1)) - 1)); omega) (by show ((11 * (2 * (at10 - at9) - 1)) + 11) + (11 * (2 * (at215 - (at10 + 1)) - 1)) ≤ (((11 * (2 * (at10 - at9) - 1)) + 11) + (11 * (2 * (at215 - (at10 + 1)) - 1))); omega) ?_
        refine W.eq (g2 := F0 m 84 ls [.ref r212, .ref q157]) rfl ?_
        have hns231 : NwS K K213 g g214 := NwS.call hns205 h218 (fun o9 h9 => absurd h9 (by omega))
        have hf232 : K213.1 r212 = 1 := h218.2.2.1.2.1
        have hg233 : g214 0 q157 = 0 := (h218.2.1.2 q157 (by rw [hf195]; decide) 0).trans hg189
        have hno234 : NoO K213 g214 q157 := NoO.call hno206 h218 hf195 (by omega)
        have hgz235 : g214 0 r6 = (gset g8 q157 0 0 0) 0 r6 := h218.2.1.2 r6 (by rw [hf202]; decide) 0
        have hgy236 := h218.2.2.1
        have hgy236a := hgy236.2.2.1
        have hgy236b := hgy236.2.2.2.1
        refine p_put (v := .ref r212) (ty := (.object "JinjaTongue$Node")) (C := RX7) (Tc := TX7) (N := 11) (ci := 13) (K' := (kC K213 1 q157 (some r212))) hx hb hq pin_wsX70 tyX7 tyX7_ok nmX7 hown hE hP hD hS hO (by rw [hf221]; decide) (rep_1 hf221) rfl 7 (by decide) (hq _ pw_910) (fun _ h9 => h9) rfl (by decide +kernel) rfl rfl (Nat.le_of_ble_eq_true rfl) rfl (by rw [rep_1 (show (kC K213 1 q157 (some r212)).1 q157 = 1 from hf221), pc_1] <;> rfl) (fun p9 hp9 => rep_kC hp9) dX8_simple_84 (fun H locs w hP hD hS hO => ?_)
        obtain ⟨K237, hK238⟩ : ∃ z : PK, z = (kC K213 1 q157 (some r212)) := ⟨_, rfl⟩
        rw [← hK238] at hO
        have hf239 : K237.1 q157 = 1 := (by rw [hK238]; exact hf221)
        have hf240 : K237.2.1 0 q157 = 23 := (by rw [hK238]; exact hf222)
        have hf241 : K237.2.1 2 q157 = (nI at9) := (by rw [hK238]; exact hf223)
        have hf242 : K237.2.2.1 2 q157 = none := (by rw [hK238]; exact (kC_of (by decide)).trans hf225)
        have hf243 : K237.2.2.1 3 q157 = none := (by rw [hK238]; exact (kC_of (by decide)).trans hf226)
        have hf244 : K237.2.2.1 4 q157 = none := (by rw [hK238]; exact (kC_of (by decide)).trans hf227)
        have hf245 : K237.1 r6 = 1 := (by rw [hK238]; exact hf228)
        have hf246 : K237.2.1 0 r6 = kd9 := (by rw [hK238]; exact hf229)
        have hf247 : K237.2.2.1 0 q157 = some r6 := (by rw [hK238]; exact (kC_of (by decide)).trans hf230)
        have hf248 : K237.1 r212 = 1 := (by rw [hK238]; exact hf232)
        have hf249 : K237.2.2.1 1 q157 = some r212 := by rw [hK238]; exact kC_eq
        have hns250 : NwS K K237 g g214 := by rw [hK238]; exact NwS.put hns231 hq188 hg233
        have hno251 : NoO K237 g214 q157 := by rw [hK238]; exact hno234
        refine lv_aload hx hb dX8_simple_87 (lv_at hl 0 rfl) ?_
        refine W_size (fun hz1 hz2 => ?_)
        refine vx_ret ?_
        have hpl := hpl0 (show r152 = 1 by omega)
        obtain ⟨k9, hkI, hkS, hkE, hkM, hkN⟩ : ∃ z : Nat, Itv z ∧ rS z = at9 ∧ rE z = at215 ∧ rM z = at215 ∧ rN z = at215 := ⟨rk at9 at215 at215 at215, Itv.of (by omega), rS_rk (by omega), rE_rk (by omega), rM_rk (by omega), rN_rk (by omega)⟩
        have hkid : ∀ f9 y9 : Nat, f9 ≤ 3 → K237.2.2.1 f9 q157 = some y9 → K237.1 y9 = 1 ∧ 1 ≤ g214 0 y9 ∧ g214 0 y9 < 168 := by
          intro f9 y9 hf9 hy9
          rcases (show f9 = 0 ∨ f9 = 1 ∨ f9 = 2 ∨ f9 = 3 by omega) with rfl | rfl | rfl | rfl
          · rw [hf247] at hy9; cases hy9; exact ⟨hf245, (by omega), by omega⟩
          · rw [hf249] at hy9; cases hy9; exact ⟨hf248, (by omega), by omega⟩
          · rw [hf242] at hy9; cases hy9
          · rw [hf243] at hy9; cases hy9
        have hdn := NwS.done1I (q := q157) (L := 168) (O := O) (k := k9) hns250 hq188 hf239 hg233 (by omega) hkI (by rw [hf240]; exact ⟨(fun z => absurd z (by decide)), (fun _ => ⟨(by show ¬ K237.2.2.1 0 q157 = none; rw [hf247]; intro z; cases z), (by show ¬ K237.2.2.1 1 q157 = none; rw [hf249]; intro z; cases z)⟩), (fun z => absurd z (by decide)), (fun z => absurd z (by decide)), (fun z => absurd z (by decide))⟩) (fun f9 z => by rw [hf240] at z; rcases z with ⟨z, _⟩ | ⟨z | z | z, _⟩ <;> exact absurd z (by decide)) hkid hf244 hno251 (fun f9 y9 h9 e9 => by rw [hf240]; exact Kch.k23 (fun z0 => by subst z0; rw [hf247] at e9; cases e9; rw [hf246]; exact hpl)) how
        have hz252 : NwR K K237 g (gset g214 q157 168 O k9) q157 O k9 (168) := hdn
        have hz253 : at9 + 1 ≤ at215 ∧ at215 ≤ sz := (by omega)
        have hz254 : sg ≤ sg216 ∧ sg216 ≤ 60 := (by omega)
        have hz255 : rS k9 = at9 ∧ rE k9 ≤ at215 ∧ rS k9 ≤ rE k9 := (by omega)
        have hO : OKP G h0 a (upd (upd (upd (upd F 2 (nI sz)) 9 (nI at215)) 10 (nI dp)) 11 (nI sg216)) R Z (updA B 10 f217) J K237 w := hO.to rfl
        refine W.widen (k := (2 * (sz - at9) + 20)) (n := (11 * (2 * (sz - at9) + 20))) (by omega) (by omega) ?_
        have hzz1 : H.size ≤ s.heap.size + ((2 * (at215 - at9) - 0)) := (by have z : (((2 * (at10 - at9) - 1) + 1) + (2 * (at215 - (at10 + 1)) - 1)) ≤ (2 * (at215 - at9) - 0) := (by omega); omega)
        have hzz2 : hSl H ≤ hSl s.heap + ((11 * (2 * (at215 - at9) - 0))) := (by have z : (((11 * (2 * (at10 - at9) - 1)) + 11) + (11 * (2 * (at215 - (at10 + 1)) - 1))) ≤ (11 * (2 * (at215 - at9) - 0)) := (by omega); omega)
        exact W.aret (v := .ref q157) hx hb hr (Or.inl ⟨_, rfl⟩) (Or.inr ⟨_, rfl⟩) (fun t99 ht99 hW99 => ⟨⟨_, (w, (q157, K237, (gset g214 q157 168 O k9), at215, sg216, f217, k9)), rfl, ⟨rfl, hz252, hz253, hz254, hz255, hO⟩, by rw [ht99]; exact hP, hD, by rw [ht99]; exact hzz1, by rw [ht99]; exact hzz2⟩, hS.F ht99⟩) hS.2.2 dX8_simple_89
      · have n256 : r152 = 0 := (nI_eq (a := r152) (b := 0) (by omega) (by omega)).mp c155
        refine lv_aload_n hx hb dX8_simple_50 rfl (lv_at hl 2 rfl) ?_
        have hO : OKW G h0 a (upd (upd (upd (upd (upd (upd (upd (upd F 2 (nI sz)) 9 (nI at9)) 10 (nI dp)) 11 (nI sg)) 9 (nI at10)) 11 (nI sg11)) 2 (nI sz)) 9 (nI at10)) R Z (updA B 10 f12) J K7.1 (fun q99 x99 => x99 = rep G a K7 q99) w := hO.to rfl
        obtain ⟨_, qr260, hqr261⟩ := hO.2.1 23 _ (sg_23 G h0 a _ _ _ _ _)
        refine pn_V0 (G := G) (As := []) (rest := []) hx hb hml hown hq hE hX pX0_al hP hD hS hA hl.1 (P_refuse l G h0 a (upd (upd (upd (upd (upd (upd F 2 (nI sz)) 9 (nI at9)) 10 (nI dp)) 11 (nI sg)) 9 (nI at10)) 11 (nI sg11)) R Z (updA B 10 f12) J K7.1 (fun q99 x99 => x99 = rep G a K7 q99) w at10 sz (by omega) (by omega) hO hl0) (gV pw_806 pw_807 pw_808 pw_796 pw_778) hV_X8_refuse qr260 5 hqr261 rfl rfl rfl (Nat.le_of_ble_eq_true rfl) dX8_simple_51 ⟨(by show (2 * (at10 - at9) - 1) + 1 ≤ (2 * (sz - at9) + 20); omega), (by show (11 * (2 * (at10 - at9) - 1)) + 6 ≤ (11 * (2 * (sz - at9) + 20)); omega)⟩ ⟨(by show 7 + 1 ≤ (40 * n + 44); omega), (by show 8 + (1 + 11) + 122 ≤ (1300 * n + 1400); omega)⟩ (fun v259 u257 H locs hw258 hP hD hS => hw258.elim) (fun ux ce9 q9 H9 locs9 hux hP9 hD9 hS9 hce hcv hcl => pb_out ux (ThQ.up (Thx.same (Thx.same (Thx.b (Thx.f (Thx.f Thx.rfl (by omega)) (by omega)) (by omega) (by decide)) rfl) rfl) RhX.rfl hux) hnt hlocks hce hcv hcl hP9 hD9 hS9 (by show (2 * (at10 - at9) - 1) + 1 ≤ (2 * (sz - at9) + 20); omega) (by show (11 * (2 * (at10 - at9) - 1)) + 6 ≤ (11 * (2 * (sz - at9) + 20)); omega))
    · have n262 : ¬ (r142 = 0) := fun h9 => c145 ((nI_eq (a := r142) (b := 0) (by omega) (by omega)).mpr h9)
      refine p_new (s9 := 1) (C := RX7) (T := TX7) (N := 11) (ci := 13) (fs := [.int 0, .int 0, .int 0, .int 0, .int 0, .int 0, .null, .null, .null, .null, .null]) hx hb hq pin_wsX70 tyX7 tyX7_ok hown (hq _ pw_870) (hq _ pw_871) (hq _ pw_872) hE hP hD hS hA hO rfl nw_X7 (by decide) (fun q => by rw [rep_1 (show (kN K7 q 1 0).1 q = 1 from if_pos rfl)]; unfold fsNode kN; simp only [if_true]; rfl) (by show (2 * (at10 - at9) - 1) + 1 ≤ (2 * (sz - at9) + 20); omega) (by show (11 * (2 * (at10 - at9) - 1)) + 11 ≤ (11 * (2 * (sz - at9) + 20)); omega) dX8_simple_21 (fun q263 H w hq264 hP hD hS hO => ?_)
      have hf265 : (kN K7 q263 1 0).1 r6 = 1 := (if_neg (fun z => by have z2 := hf17; rw [z, hq264] at z2; exact absurd z2 (by decide))).trans hf17
      have hf266 : (kN K7 q263 1 0).2.1 0 r6 = kd9 := (if_neg (fun z => by have z2 := hf17; rw [z, hq264] at z2; exact absurd z2 (by decide))).trans hkd9
      have hf267 : (kN K7 q263 1 0).1 q263 = 1 := if_pos rfl
      refine W.widen (k := ((2 * (at10 - at9) - 1) + 1)) (n := ((11 * (2 * (at10 - at9) - 1)) + 11)) (by show (2 * (at10 - at9) - 1) + 1 ≤ ((2 * (at10 - at9) - 1) + 1); omega) (by show (11 * (2 * (at10 - at9) - 1)) + 11 ≤ ((11 * (2 * (at10 - at9) - 1)) + 11); omega) ?_
      refine lv_dup hx hb dX8_simple_24 rfl ?_
      refine lv_bipush (v := 24) hx hb dX8_simple_25 (by decide) ?_
      refine lv_iload_n hx hb dX8_simple_27 rfl (lv_at hl 1 rfl) ?_
      refine lv_iload_n hx hb dX8_simple_28 rfl (lv_at hl 1 rfl) ?_
      have hO : OKP G h0 a (upd (upd (upd (upd F 2 (nI sz)) 9 (nI at10)) 10 (nI dp)) 11 (nI sg11)) R Z (updA B 10 f12) J (kN K7 q263 1 0) w := hO.to rfl
      obtain ⟨qr271, hqr272⟩ := p_recv hO (by rw [hf267]; decide) (rep_1 hf267)
      refine pc_I0 (G := G) (As := [.int 24, .int (nI at9), .int (nI at9)]) (rest := [.ref q263]) hx hb hml hown hq hE hX pX0_al hP hD hS hA hl.1 (N_init l G h0 a (upd (upd (upd (upd F 2 (nI sz)) 9 (nI at10)) 10 (nI dp)) 11 (nI sg11)) R Z (updA B 10 f12) J (kN K7 q263 1 0) w q263 24 (nI at9) (nI at9) (by omega) hO) pw_874 pw_875 pw_872 pw_765 rfl hS_X7_init rfl (Nat.le_of_ble_eq_true rfl) dX8_simple_29 ⟨(by show ((2 * (at10 - at9) - 1) + 1) + 0 ≤ (2 * (sz - at9) + 20); omega), (by show ((11 * (2 * (at10 - at9) - 1)) + 11) + 0 ≤ (11 * (2 * (sz - at9) + 20)); omega)⟩ ⟨(by show 2 + 1 ≤ (40 * n + 44); omega), (by show 8 + (4 + 11) + 60 ≤ (1300 * n + 1400); omega)⟩ (fun v270 u268 H locs hw269 hP hD hS => ?_)
      obtain ⟨w, _⟩ := u268
      obtain ⟨hw269, hO⟩ := hw269
      obtain rfl : v270 = none := hw269
      have hf273 : (kI (kI (kI (kN K7 q263 1 0) 0 q263 24) 1 q263 (nI at9)) 2 q263 (nI at9)).1 r6 = 1 := hf265
      have hf274 : (kI (kI (kI (kN K7 q263 1 0) 0 q263 24) 1 q263 (nI at9)) 2 q263 (nI at9)).1 q263 = 1 := hf267
      have hO : OKP G h0 a (upd (upd (upd (upd F 2 (nI sz)) 9 (nI at10)) 10 (nI dp)) 11 (nI sg11)) R Z (updA B 10 f12) J (kI (kI (kI (kN K7 q263 1 0) 0 q263 24) 1 q263 (nI at9)) 2 q263 (nI at9)) w := hO.to rfl
      refine W.widen (k := ((2 * (at10 - at9) - 1) + 1)) (n := ((11 * (2 * (at10 - at9) - 1)) + 11)) (by show ((2 * (at10 - at9) - 1) + 1) + 0 ≤ ((2 * (at10 - at9) - 1) + 1); omega) (by show ((11 * (2 * (at10 - at9) - 1)) + 11) + 0 ≤ ((11 * (2 * (at10 - at9) - 1)) + 11); omega) ?_
      refine W.eq (g2 := F0 m 32 ls [.ref q263]) rfl ?_
      change OKP G h0 a (upd (upd (upd (upd F 2 (nI sz)) 9 (nI at10)) 10 (nI dp)) 11 (nI sg11)) R Z (updA B 10 f12) J (mkN K7 q263 24 (nI at9) (nI at9)) w at hO
      obtain ⟨K275, hK276⟩ : ∃ z : PK, z = (mkN K7 q263 24 (nI at9) (nI at9)) := ⟨_, rfl⟩
      rw [← hK276] at hO
      have hf277 : K275.1 q263 = 1 := by rw [hK276]; exact mkN_T
      have hf278 : K275.2.1 0 q263 = 24 := by rw [hK276]; exact mkN_0
      have hf279 : K275.2.1 2 q263 = (nI at9) := by rw [hK276]; exact mkN_2
      have hf280 : K275.2.2.1 0 q263 = none := by rw [hK276]; exact mkN_C
      have hf281 : K275.2.2.1 1 q263 = none := by rw [hK276]; exact mkN_C
      have hf282 : K275.2.2.1 2 q263 = none := by rw [hK276]; exact mkN_C
      have hf283 : K275.2.2.1 3 q263 = none := by rw [hK276]; exact mkN_C
      have hf284 : K275.2.2.1 4 q263 = none := by rw [hK276]; exact mkN_C
      have hf285 : K275.1 r6 = 1 := by rw [hK276]; exact ((mkN_ext hq264 r6 (by rw [hf17]; decide)).1).trans hf17
      have hf286 : K275.2.1 0 r6 = kd9 := by rw [hK276]; exact ((mkN_ext hq264 r6 (by rw [hf17]; decide)).2.1 0).trans hkd9
      have hns287 : NwS K K275 g (gset g8 q263 0 0 0) := by rw [hK276]; exact NwS.node hns16 hq264
      have hq288 : K.1 q263 = 0 := old_T hns16.2.1 hq264
      have hg289 : (gset g8 q263 0 0 0) 0 q263 = 0 := gset_0
      have hno290 : NoO K275 (gset g8 q263 0 0 0) q263 := by rw [hK276]; exact NoO.new hns16.1 hq264
      have hxq291 : ¬ r6 = q263 := fun z => by have z2 := hf17; rw [z, hq264] at z2; exact absurd z2 (by decide)
      have hgz292 : (gset g8 q263 0 0 0) 0 r6 = g8 0 r6 := gset_ne hxq291
      refine lv_astore (lv' := [(4, .ref q263), (3, .ref r6), (2, .int (nI at9)), (0, .ref (a 3)), (1, .int (nI x))]) hx hb dX8_simple_32 hl (by decide) rfl (fun ls hl => ?_)
      refine lv_aload hx hb dX8_simple_34 (lv_at hl 0 rfl) ?_
      refine lv_aload_n hx hb dX8_simple_36 rfl (lv_at hl 1 rfl) ?_
      refine p_put (v := .ref r6) (ty := (.object "JinjaTongue$Node")) (C := RX7) (Tc := TX7) (N := 11) (ci := 13) (K' := (kC K275 0 q263 (some r6))) hx hb hq pin_wsX70 tyX7 tyX7_ok nmX7 hown hE hP hD hS hO (by rw [hf277]; decide) (rep_1 hf277) rfl 6 (by decide) (hq _ pw_938) (fun _ h9 => h9) rfl (by decide +kernel) rfl rfl (Nat.le_of_ble_eq_true rfl) rfl (by rw [rep_1 (show (kC K275 0 q263 (some r6)).1 q263 = 1 from hf277), pc_0] <;> rfl) (fun p9 hp9 => rep_kC hp9) dX8_simple_37 (fun H locs w hP hD hS hO => ?_)
      obtain ⟨K293, hK294⟩ : ∃ z : PK, z = (kC K275 0 q263 (some r6)) := ⟨_, rfl⟩
      rw [← hK294] at hO
      have hf295 : K293.1 q263 = 1 := (by rw [hK294]; exact hf277)
      have hf296 : K293.2.1 0 q263 = 24 := (by rw [hK294]; exact hf278)
      have hf297 : K293.2.1 2 q263 = (nI at9) := (by rw [hK294]; exact hf279)
      have hf298 : K293.2.2.1 1 q263 = none := (by rw [hK294]; exact (kC_of (by decide)).trans hf281)
      have hf299 : K293.2.2.1 2 q263 = none := (by rw [hK294]; exact (kC_of (by decide)).trans hf282)
      have hf300 : K293.2.2.1 3 q263 = none := (by rw [hK294]; exact (kC_of (by decide)).trans hf283)
      have hf301 : K293.2.2.1 4 q263 = none := (by rw [hK294]; exact (kC_of (by decide)).trans hf284)
      have hf302 : K293.1 r6 = 1 := (by rw [hK294]; exact hf285)
      have hf303 : K293.2.1 0 r6 = kd9 := (by rw [hK294]; exact hf286)
      have hf304 : K293.2.2.1 0 q263 = some r6 := by rw [hK294]; exact kC_eq
      have hns305 : NwS K K293 g (gset g8 q263 0 0 0) := by rw [hK294]; exact NwS.put hns287 hq288 hg289
      have hno306 : NoO K293 (gset g8 q263 0 0 0) q263 := by rw [hK294]; exact hno290
      refine lv_aload hx hb dX8_simple_40 (lv_at hl 0 rfl) ?_
      refine W_size (fun hz1 hz2 => ?_)
      refine vx_ret ?_
      obtain ⟨k9, hkI, hkS, hkE, hkM, hkN⟩ : ∃ z : Nat, Itv z ∧ rS z = at9 ∧ rE z = at10 ∧ rM z = at10 ∧ rN z = at10 := ⟨rk at9 at10 at10 at10, Itv.of (by omega), rS_rk (by omega), rE_rk (by omega), rM_rk (by omega), rN_rk (by omega)⟩
      have hkid : ∀ f9 y9 : Nat, f9 ≤ 3 → K293.2.2.1 f9 q263 = some y9 → K293.1 y9 = 1 ∧ 1 ≤ (gset g8 q263 0 0 0) 0 y9 ∧ (gset g8 q263 0 0 0) 0 y9 < 168 := by
        intro f9 y9 hf9 hy9
        rcases (show f9 = 0 ∨ f9 = 1 ∨ f9 = 2 ∨ f9 = 3 by omega) with rfl | rfl | rfl | rfl
        · rw [hf304] at hy9; cases hy9; exact ⟨hf302, (by omega), by omega⟩
        · rw [hf298] at hy9; cases hy9
        · rw [hf299] at hy9; cases hy9
        · rw [hf300] at hy9; cases hy9
      have hdn := NwS.done1I (q := q263) (L := 168) (O := O) (k := k9) hns305 hq288 hf295 hg289 (by omega) hkI (by rw [hf296]; exact ⟨(fun _ => (by show ¬ K293.2.2.1 0 q263 = none; rw [hf304]; intro z; cases z)), (fun z => absurd z (by decide)), (fun z => absurd z (by decide)), (fun z => absurd z (by decide)), (fun z => absurd z (by decide))⟩) (fun f9 z => by rw [hf296] at z; rcases z with ⟨z, _⟩ | ⟨z | z | z, _⟩ <;> exact absurd z (by decide)) hkid hf301 hno306 (fun f9 x9 _ _ => Kch.no (by rw [hf296]; decide)) how
      have hz307 : NwR K K293 g (gset (gset g8 q263 0 0 0) q263 168 O k9) q263 O k9 (168) := hdn
      have hz308 : at9 + 1 ≤ at10 ∧ at10 ≤ sz := (by omega)
      have hz309 : sg ≤ sg11 ∧ sg11 ≤ 60 := (by omega)
      have hz310 : rS k9 = at9 ∧ rE k9 ≤ at10 ∧ rS k9 ≤ rE k9 := (by omega)
      have hO : OKP G h0 a (upd (upd (upd (upd F 2 (nI sz)) 9 (nI at10)) 10 (nI dp)) 11 (nI sg11)) R Z (updA B 10 f12) J K293 w := hO.to rfl
      refine W.widen (k := (2 * (sz - at9) + 20)) (n := (11 * (2 * (sz - at9) + 20))) (by omega) (by omega) ?_
      have hzz1 : H.size ≤ s.heap.size + ((2 * (at10 - at9) - 0)) := (by have z : ((2 * (at10 - at9) - 1) + 1) ≤ (2 * (at10 - at9) - 0) := (by omega); omega)
      have hzz2 : hSl H ≤ hSl s.heap + ((11 * (2 * (at10 - at9) - 0))) := (by have z : ((11 * (2 * (at10 - at9) - 1)) + 11) ≤ (11 * (2 * (at10 - at9) - 0)) := (by omega); omega)
      exact W.aret (v := .ref q263) hx hb hr (Or.inl ⟨_, rfl⟩) (Or.inr ⟨_, rfl⟩) (fun t99 ht99 hW99 => ⟨⟨_, (w, (q263, K293, (gset (gset g8 q263 0 0 0) q263 168 O k9), at10, sg11, f12, k9)), rfl, ⟨rfl, hz307, hz308, hz309, hz310, hO⟩, by rw [ht99]; exact hP, hD, by rw [ht99]; exact hzz1, by rw [ht99]; exact hzz2⟩, hS.F ht99⟩) hS.2.2 dX8_simple_42

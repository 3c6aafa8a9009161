theorem dX8_superCall_0 : decode cX8_superCall 0 = .ok (.aload_n 0, 1) := by decide +kernel
theorem dX8_superCall_1 : decode cX8_superCall 1 = .ok (.bipush 22, 2) := by decide +kernel
theorem dX8_superCall_3 : decode cX8_superCall 3 = .ok (.invokevirtual 53, 3) := by decide +kernel
theorem dX8_superCall_6 : decode cX8_superCall 6 = .ok (.istore_n 1, 1) := by decide +kernel
theorem dX8_superCall_7 : decode cX8_superCall 7 = .ok (.aload_n 0, 1) := by decide +kernel
theorem dX8_superCall_8 : decode cX8_superCall 8 = .ok (.bipush 40, 2) := by decide +kernel
theorem dX8_superCall_10 : decode cX8_superCall 10 = .ok (.invokevirtual 53, 3) := by decide +kernel
theorem dX8_superCall_13 : decode cX8_superCall 13 = .ok (.pop, 1) := by decide +kernel
theorem dX8_superCall_14 : decode cX8_superCall 14 = .ok (.new 143, 3) := by decide +kernel
theorem dX8_superCall_17 : decode cX8_superCall 17 = .ok (.dup, 1) := by decide +kernel
theorem dX8_superCall_18 : decode cX8_superCall 18 = .ok (.bipush 11, 2) := by decide +kernel
theorem dX8_superCall_20 : decode cX8_superCall 20 = .ok (.aload_n 0, 1) := by decide +kernel
theorem dX8_superCall_21 : decode cX8_superCall 21 = .ok (.bipush 65, 2) := by decide +kernel
theorem dX8_superCall_23 : decode cX8_superCall 23 = .ok (.invokevirtual 53, 3) := by decide +kernel
theorem dX8_superCall_26 : decode cX8_superCall 26 = .ok (.iload_n 1, 1) := by decide +kernel
theorem dX8_superCall_27 : decode cX8_superCall 27 = .ok (.invokespecial 145, 3) := by decide +kernel
theorem dX8_superCall_30 : decode cX8_superCall 30 = .ok (.astore_n 2, 1) := by decide +kernel
theorem dX8_superCall_31 : decode cX8_superCall 31 = .ok (.aload_n 0, 1) := by decide +kernel
theorem dX8_superCall_32 : decode cX8_superCall 32 = .ok (.aload_n 2, 1) := by decide +kernel
theorem dX8_superCall_33 : decode cX8_superCall 33 = .ok (.invokevirtual 276, 3) := by decide +kernel
theorem dX8_superCall_36 : decode cX8_superCall 36 = .ok (.aload_n 2, 1) := by decide +kernel
theorem dX8_superCall_37 : decode cX8_superCall 37 = .ok (.areturn, 1) := by decide +kernel
set_option maxHeartbeats 16000000 in
set_option maxRecDepth 100000 in
theorem P_superCall (l : Launch) (G : pT) (h0 : Nat) (a : Nat → Nat) (F : Nat → Int32) (R : Nat → Value) (Z : Int64) (B : Nat → Nat → Int32) (J : Nat → Nat → Int64) (K : PK) (w : va_W) (n : Nat) (at9 : Nat) (sz : Nat) (dp : Nat) (sg : Nat) (O : Nat) (g : Nat → Nat → Nat) (hsz : sz ≤ 5000) (hat : at9 ≤ sz) (hdp : dp + n = 20) (hsg : sg ≤ 60) (hwn : WN K g) (how : ∀ o : Nat, O = o + 1 → K.1 o = 1 ∧ g 0 o = 0 ∧ ¬ K.2.1 0 o = 32) (ihe : IhE l G n) (hO : OKP G h0 a (upd (upd (upd (upd F 2 (nI sz)) 9 (nI at9)) 10 (nI dp)) 11 (nI sg)) R Z B J K w) (hl0 : l.stackTraces = false) : PBn l G pX0 yX8_superCall cX8_superCall 3 (some (.object "JinjaTongue$Node")) ({ frames := (40 * n + 14), cells := (2 * (sz - at9) + 19), slots := (11 * (2 * (sz - at9) + 19)), locals := (1300 * n + 440) }) [.ref (a 3)] w (fun (v : Option Value) (u : va_W × (Nat × PK × (Nat → Nat → Nat) × Nat × Nat × (Nat → Int32) × Nat)) => v = some (.ref u.2.1) ∧ (NwR K u.2.2.1 g u.2.2.2.1 u.2.1 O u.2.2.2.2.2.2.2 ((5 * (20 - dp) + 2 + (u.2.2.2.2.2.1 - sg)))) ∧ (at9 ≤ rS u.2.2.2.2.2.2.2 ∧ rS u.2.2.2.2.2.2.2 + 1 ≤ rE u.2.2.2.2.2.2.2 ∧ rE u.2.2.2.2.2.2.2 ≤ u.2.2.2.2.1 ∧ 1 ≤ rD u.2.2.2.2.2.2.2 ∧ rD u.2.2.2.2.2.2.2 ≤ 9 * (20 - dp) + (u.2.2.2.2.2.1 - sg) + 1) ∧ (at9 + 3 ≤ u.2.2.2.2.1 ∧ u.2.2.2.2.1 ≤ sz) ∧ (sg ≤ u.2.2.2.2.2.1 ∧ u.2.2.2.2.2.1 ≤ 60) ∧ (NwT (B 7) sz (B 10) u.2.2.2.2.2.2.1 K u.2.2.1 at9 u.2.2.2.2.1) ∧ (OKP G h0 a (upd (upd (upd (upd F 2 (nI sz)) 9 (nI u.2.2.2.2.1)) 10 (nI dp)) 11 (nI u.2.2.2.2.2.1)) R Z (updA B 10 u.2.2.2.2.2.2.1) J u.2.2.1 u.1)) (fun u => u.1) (fun (u : va_W × (Nat × PK × (Nat → Nat → Nat) × Nat × Nat × (Nat → Int32) × Nat)) => (2 * (u.2.2.2.2.1 - at9) - 2)) (fun (u : va_W × (Nat × PK × (Nat → Nat → Nat) × Nat × Nat × (Nat → Int32) × Nat)) => (11 * (2 * (u.2.2.2.2.1 - at9) - 2))) (fun (u : va_W × (Nat → Int32) × (Nat → Value) × (Nat → Nat → Int32)) => ThQ G h0 a (upd (upd (upd (upd F 2 (nI sz)) 9 (nI at9)) 10 (nI dp)) 11 (nI sg)) R Z B J u) (fun u => u.1) := by
  intro sz
  refine vx_ofW (cc := cX8_superCall) (maxL := 3) (ret := (some (.object "JinjaTongue$Node"))) (by decide) rfl ?_
  intro p e s m args below meth c s₁ B9 hml hnt hv
  obtain ⟨rfl, hsz, hP, hD0, hE, hX⟩ := hv
  have hx := B9.exec
  have hb := B9.bytes
  have hr := B9.returns
  have hts := atoms_spec (ws := Cond.code yX8_superCall cX8_superCall 3 (some (.object "JinjaTongue$Node")) :: pw) B9.pre
  have hq : ∀ w ∈ pw, w.before _ s = true := fun w h => hts w (List.mem_cons_of_mem _ h)
  have hown : s.vm.findClass RX8 = some m.cls := findClass_of_methodNamed B9.named
  have hlocks := B9.notSynchronized
  subst hsz
  have hD := hD0.self (sz := s.heap.size)
  have hA : ∀ q : Nat, s.heap.size ≤ q → va_A w s.heap.size q := fun q h => Or.inr h
  generalize va_A w s.heap.size = A at hD hE hA ⊢
  have hS : va_S A s.heap s.heap [] := va_S.rf
  have hl := lv_entry ([.ref (a 3)]) (n := 3) (Nat.le_of_ble_eq_true rfl)
  rw [lg_entry_eq]
  generalize (lg_sl ([.ref (a 3)]) ++ List.replicate (3 - (lg_sl ([.ref (a 3)])).length) Slot.unset).toArray = ls at hl ⊢
  have hl : lv_has ls 3 [(0, .ref (a 3))] := hl
  have htk0 : NwT (B 7) sz (B 10) (B 10) K K at9 at9 := NwT.nil
  have hns0 : NwS K K g g := NwS.nil hwn
  refine lv_aload_n hx hb dX8_superCall_0 rfl (lv_at hl 0 rfl) ?_
  refine lv_bipush (v := 22) hx hb dX8_superCall_1 (by decide) ?_
  have hO : OKW G h0 a (upd (upd (upd (upd (upd (upd F 2 (nI sz)) 9 (nI at9)) 10 (nI dp)) 11 (nI sg)) 2 (nI sz)) 9 (nI at9)) R Z B J K.1 (fun q99 x99 => x99 = rep G a K q99) w := hO.to rfl
  obtain ⟨_, qr4, hqr5⟩ := hO.2.1 23 _ (sg_23 G h0 a _ _ _ _ _)
  refine pn_V0 (G := G) (As := [.int 22]) (rest := []) hx hb hml hown hq hE hX pX0_al hP hD hS hA hl.1 (P_take l G h0 a (upd (upd (upd (upd F 2 (nI sz)) 9 (nI at9)) 10 (nI dp)) 11 (nI sg)) R Z B J K.1 (fun q99 x99 => x99 = rep G a K q99) w 22 at9 sz (by omega) (by omega) (by decide) hO hl0) (gV pw_793 pw_794 pw_795 pw_796 pw_781) hV_X8_take qr4 5 hqr5 rfl rfl rfl (Nat.le_of_ble_eq_true rfl) dX8_superCall_3 ⟨(by show 0 + 1 ≤ (2 * (sz - at9) + 19); omega), (by show 0 + 6 ≤ (11 * (2 * (sz - at9) + 19)); omega)⟩ ⟨(by show 7 + 1 ≤ (40 * n + 14); omega), (by show 8 + (2 + 11) + 122 ≤ (1300 * n + 440); omega)⟩ (fun v3 u1 H locs hw2 hP hD hS => ?_) (fun ux ce9 q9 H9 locs9 hux hP9 hD9 hS9 hce hcv hcl => pb_out ux (ThQ.up (Thx.same (Thx.same Thx.rfl rfl) rfl) RhX.rfl hux) hnt hlocks hce hcv hcl hP9 hD9 hS9 (by show 0 + 1 ≤ (2 * (sz - at9) + 19); omega) (by show 0 + 6 ≤ (11 * (2 * (sz - at9) + 19)); omega))
  obtain ⟨w, _⟩ := u1
  obtain ⟨hw2, h6, h7, hO⟩ := hw2
  have h6 : at9 + 1 ≤ sz := h6
  have h7 : tkN ((B 7)) sz 67 (nI at9) = 22 := h7
  obtain rfl : v3 = some (.int (nI at9)) := hw2
  have hO : OKP G h0 a (upd (upd (upd (upd F 2 (nI sz)) 9 (nI (at9 + 1))) 10 (nI dp)) 11 (nI sg)) R Z B J K w := hO.to rfl
  refine W.widen (k := 0) (n := 0) (by show 0 + 0 ≤ 0; omega) (by show 0 + 0 ≤ 0; omega) ?_
  refine W.eq (g2 := F0 m 6 ls [.int (nI at9)]) rfl ?_
  refine lv_istore_n (lv' := [(1, .int (nI at9)), (0, .ref (a 3))]) hx hb dX8_superCall_6 rfl hl (by decide) rfl (fun ls hl => ?_)
  refine lv_aload_n hx hb dX8_superCall_7 rfl (lv_at hl 1 rfl) ?_
  refine lv_bipush (v := 40) hx hb dX8_superCall_8 (by decide) ?_
  have hO : OKW G h0 a (upd (upd (upd (upd (upd (upd (upd F 2 (nI sz)) 9 (nI at9)) 10 (nI dp)) 11 (nI sg)) 9 (nI (at9 + 1))) 2 (nI sz)) 9 (nI (at9 + 1))) R Z B J K.1 (fun q99 x99 => x99 = rep G a K q99) w := hO.to rfl
  obtain ⟨_, qr11, hqr12⟩ := hO.2.1 23 _ (sg_23 G h0 a _ _ _ _ _)
  refine pn_V0 (G := G) (As := [.int 40]) (rest := []) hx hb hml hown hq hE hX pX0_al hP hD hS hA hl.1 (P_take l G h0 a (upd (upd (upd (upd (upd F 2 (nI sz)) 9 (nI at9)) 10 (nI dp)) 11 (nI sg)) 9 (nI (at9 + 1))) R Z B J K.1 (fun q99 x99 => x99 = rep G a K q99) w 40 (at9 + 1) sz (by omega) (by omega) (by decide) hO hl0) (gV pw_793 pw_794 pw_795 pw_796 pw_781) hV_X8_take qr11 5 hqr12 rfl rfl rfl (Nat.le_of_ble_eq_true rfl) dX8_superCall_10 ⟨(by show 0 + 1 ≤ (2 * (sz - at9) + 19); omega), (by show 0 + 6 ≤ (11 * (2 * (sz - at9) + 19)); omega)⟩ ⟨(by show 7 + 1 ≤ (40 * n + 14); omega), (by show 8 + (2 + 11) + 122 ≤ (1300 * n + 440); omega)⟩ (fun v10 u8 H locs hw9 hP hD hS => ?_) (fun ux ce9 q9 H9 locs9 hux hP9 hD9 hS9 hce hcv hcl => pb_out ux (ThQ.up (Thx.same (Thx.same (Thx.f Thx.rfl (by omega)) rfl) rfl) RhX.rfl hux) hnt hlocks hce hcv hcl hP9 hD9 hS9 (by show 0 + 1 ≤ (2 * (sz - at9) + 19); omega) (by show 0 + 6 ≤ (11 * (2 * (sz - at9) + 19)); omega))
  obtain ⟨w, _⟩ := u8
  obtain ⟨hw9, h13, h14, hO⟩ := hw9
  have h13 : (at9 + 1) + 1 ≤ sz := h13
  have h14 : tkN ((B 7)) sz 67 (nI (at9 + 1)) = 40 := h14
  obtain rfl : v10 = some (.int (nI (at9 + 1))) := hw9
  have hO : OKP G h0 a (upd (upd (upd (upd F 2 (nI sz)) 9 (nI ((at9 + 1) + 1))) 10 (nI dp)) 11 (nI sg)) R Z B J K w := hO.to rfl
  refine W.widen (k := 0) (n := 0) (by show 0 + 0 ≤ 0; omega) (by show 0 + 0 ≤ 0; omega) ?_
  refine W.eq (g2 := F0 m 13 ls [.int (nI (at9 + 1))]) rfl ?_
  refine lv_pop hx hb dX8_superCall_13 rfl ?_
  refine p_new (s9 := 1) (C := RX7) (T := TX7) (N := 11) (ci := 13) (fs := [.int 0, .int 0, .int 0, .int 0, .int 0, .int 0, .null, .null, .null, .null, .null]) hx hb hq pin_wsX70 tyX7 tyX7_ok hown (hq _ pw_870) (hq _ pw_871) (hq _ pw_872) hE hP hD hS hA hO rfl nw_X7 (by decide) (fun q => by rw [rep_1 (show (kN K q 1 0).1 q = 1 from if_pos rfl)]; unfold fsNode kN; simp only [if_true]; rfl) (by show 0 + 1 ≤ (2 * (sz - at9) + 19); omega) (by show 0 + 11 ≤ (11 * (2 * (sz - at9) + 19)); omega) dX8_superCall_14 (fun q15 H w hq16 hP hD hS hO => ?_)
  have hf17 : (kN K q15 1 0).1 q15 = 1 := if_pos rfl
  refine W.widen (k := 1) (n := 11) (by show 0 + 1 ≤ 1; omega) (by show 0 + 11 ≤ 11; omega) ?_
  refine lv_dup hx hb dX8_superCall_17 rfl ?_
  refine lv_bipush (v := 11) hx hb dX8_superCall_18 (by decide) ?_
  refine lv_aload_n hx hb dX8_superCall_20 rfl (lv_at hl 1 rfl) ?_
  refine lv_bipush (v := 65) hx hb dX8_superCall_21 (by decide) ?_
  have hO : OKW G h0 a (upd (upd (upd (upd (upd (upd (upd F 2 (nI sz)) 9 (nI at9)) 10 (nI dp)) 11 (nI sg)) 9 (nI ((at9 + 1) + 1))) 2 (nI sz)) 9 (nI ((at9 + 1) + 1))) R Z B J ((kN K q15 1 0).1) (fun q99 x99 => x99 = rep G a (kN K q15 1 0) q99) w := hO.to rfl
  obtain ⟨_, qr21, hqr22⟩ := hO.2.1 23 _ (sg_23 G h0 a _ _ _ _ _)
  refine pn_V0 (G := G) (As := [.int 65]) (rest := [.int 11, .ref q15, .ref q15]) hx hb hml hown hq hE hX pX0_al hP hD hS hA hl.1 (P_take l G h0 a (upd (upd (upd (upd (upd F 2 (nI sz)) 9 (nI at9)) 10 (nI dp)) 11 (nI sg)) 9 (nI ((at9 + 1) + 1))) R Z B J ((kN K q15 1 0).1) (fun q99 x99 => x99 = rep G a (kN K q15 1 0) q99) w 65 ((at9 + 1) + 1) sz (by omega) (by omega) (by decide) hO hl0) (gV pw_793 pw_794 pw_795 pw_796 pw_781) hV_X8_take qr21 5 hqr22 rfl rfl rfl (Nat.le_of_ble_eq_true rfl) dX8_superCall_23 ⟨(by show 1 + 1 ≤ (2 * (sz - at9) + 19); omega), (by show 11 + 6 ≤ (11 * (2 * (sz - at9) + 19)); omega)⟩ ⟨(by show 7 + 1 ≤ (40 * n + 14); omega), (by show 8 + (2 + 11) + 122 ≤ (1300 * n + 440); omega)⟩ (fun v20 u18 H locs hw19 hP hD hS => ?_) (fun ux ce9 q9 H9 locs9 hux hP9 hD9 hS9 hce hcv hcl => pb_out ux (ThQ.up (Thx.same (Thx.same (Thx.f Thx.rfl (by omega)) rfl) rfl) RhX.rfl hux) hnt hlocks hce hcv hcl hP9 hD9 hS9 (by show 1 + 1 ≤ (2 * (sz - at9) + 19); omega) (by show 11 + 6 ≤ (11 * (2 * (sz - at9) + 19)); omega))
  obtain ⟨w, _⟩ := u18
  obtain ⟨hw19, h23, h24, hO⟩ := hw19
  have h23 : ((at9 + 1) + 1) + 1 ≤ sz := h23
  have h24 : tkN ((B 7)) sz 67 (nI ((at9 + 1) + 1)) = 65 := h24
  obtain rfl : v20 = some (.int (nI ((at9 + 1) + 1))) := hw19
  have hO : OKP G h0 a (upd (upd (upd (upd F 2 (nI sz)) 9 (nI (((at9 + 1) + 1) + 1))) 10 (nI dp)) 11 (nI sg)) R Z B J (kN K q15 1 0) w := hO.to rfl
  refine W.widen (k := 1) (n := 11) (by show 1 + 0 ≤ 1; omega) (by show 11 + 0 ≤ 11; omega) ?_
  refine W.eq (g2 := F0 m 26 ls [.int (nI ((at9 + 1) + 1)), .int 11, .ref q15, .ref q15]) rfl ?_
  refine lv_iload_n hx hb dX8_superCall_26 rfl (lv_at hl 0 rfl) ?_
  have hO : OKP G h0 a (upd (upd (upd (upd F 2 (nI sz)) 9 (nI (((at9 + 1) + 1) + 1))) 10 (nI dp)) 11 (nI sg)) R Z B J (kN K q15 1 0) w := hO.to rfl
  obtain ⟨qr28, hqr29⟩ := p_recv hO (by rw [hf17]; decide) (rep_1 hf17)
  refine pc_I0 (G := G) (As := [.int 11, .int (nI ((at9 + 1) + 1)), .int (nI at9)]) (rest := [.ref q15]) hx hb hml hown hq hE hX pX0_al hP hD hS hA hl.1 (N_init l G h0 a (upd (upd (upd (upd F 2 (nI sz)) 9 (nI (((at9 + 1) + 1) + 1))) 10 (nI dp)) 11 (nI sg)) R Z B J (kN K q15 1 0) w q15 11 (nI ((at9 + 1) + 1)) (nI at9) (by omega) hO) pw_874 pw_875 pw_872 pw_765 rfl hS_X7_init rfl (Nat.le_of_ble_eq_true rfl) dX8_superCall_27 ⟨(by show 1 + 0 ≤ (2 * (sz - at9) + 19); omega), (by show 11 + 0 ≤ (11 * (2 * (sz - at9) + 19)); omega)⟩ ⟨(by show 2 + 1 ≤ (40 * n + 14); omega), (by show 8 + (4 + 11) + 60 ≤ (1300 * n + 440); omega)⟩ (fun v27 u25 H locs hw26 hP hD hS => ?_)
  obtain ⟨w, _⟩ := u25
  obtain ⟨hw26, hO⟩ := hw26
  obtain rfl : v27 = none := hw26
  have hf30 : (kI (kI (kI (kN K q15 1 0) 0 q15 11) 1 q15 (nI ((at9 + 1) + 1))) 2 q15 (nI at9)).1 q15 = 1 := hf17
  have hO : OKP G h0 a (upd (upd (upd (upd F 2 (nI sz)) 9 (nI (((at9 + 1) + 1) + 1))) 10 (nI dp)) 11 (nI sg)) R Z B J (kI (kI (kI (kN K q15 1 0) 0 q15 11) 1 q15 (nI ((at9 + 1) + 1))) 2 q15 (nI at9)) w := hO.to rfl
  refine W.widen (k := 1) (n := 11) (by show 1 + 0 ≤ 1; omega) (by show 11 + 0 ≤ 11; omega) ?_
  refine W.eq (g2 := F0 m 30 ls [.ref q15]) rfl ?_
  change OKP G h0 a (upd (upd (upd (upd F 2 (nI sz)) 9 (nI (((at9 + 1) + 1) + 1))) 10 (nI dp)) 11 (nI sg)) R Z B J (mkN K q15 11 (nI ((at9 + 1) + 1)) (nI at9)) w at hO
  obtain ⟨K31, hK32⟩ : ∃ z : PK, z = (mkN K q15 11 (nI ((at9 + 1) + 1)) (nI at9)) := ⟨_, rfl⟩
  rw [← hK32] at hO
  have htk33 : NwT (B 7) sz (B 10) (B 10) K K31 at9 (((at9 + 1) + 1) + 1) := by rw [hK32]; exact NwT.new (NwT.le htk0 (show _ ≤ (((at9 + 1) + 1) + 1) by omega)) hq16 (TkP.no (by decide))
  have hf34 : K31.1 q15 = 1 := by rw [hK32]; exact mkN_T
  have hf35 : K31.2.1 0 q15 = 11 := by rw [hK32]; exact mkN_0
  have hf36 : K31.2.1 2 q15 = (nI at9) := by rw [hK32]; exact mkN_2
  have hf37 : K31.2.2.1 0 q15 = none := by rw [hK32]; exact mkN_C
  have hf38 : K31.2.2.1 1 q15 = none := by rw [hK32]; exact mkN_C
  have hf39 : K31.2.2.1 2 q15 = none := by rw [hK32]; exact mkN_C
  have hf40 : K31.2.2.1 3 q15 = none := by rw [hK32]; exact mkN_C
  have hf41 : K31.2.2.1 4 q15 = none := by rw [hK32]; exact mkN_C
  have hns42 : NwS K K31 g (gset g q15 0 0 0) := by rw [hK32]; exact NwS.node hns0 hq16
  have hq43 : K.1 q15 = 0 := old_T hns0.2.1 hq16
  have hg44 : (gset g q15 0 0 0) 0 q15 = 0 := gset_0
  have hno45 : NoO K31 (gset g q15 0 0 0) q15 := by rw [hK32]; exact NoO.new hns0.1 hq16
  refine lv_astore_n (lv' := [(2, .ref q15), (1, .int (nI at9)), (0, .ref (a 3))]) hx hb dX8_superCall_30 rfl hl (by decide) rfl (fun ls hl => ?_)
  refine lv_aload_n hx hb dX8_superCall_31 rfl (lv_at hl 2 rfl) ?_
  refine lv_aload_n hx hb dX8_superCall_32 rfl (lv_at hl 0 rfl) ?_
  have hO : OKP G h0 a (upd (upd (upd (upd (upd (upd (upd (upd (upd F 2 (nI sz)) 9 (nI at9)) 10 (nI dp)) 11 (nI sg)) 9 (nI (((at9 + 1) + 1) + 1))) 2 (nI sz)) 9 (nI (((at9 + 1) + 1) + 1))) 10 (nI dp)) 11 (nI sg)) R Z B J K31 w := hO.to rfl
  obtain ⟨_, qr49, hqr50⟩ := hO.2.1 23 _ (sg_23 G h0 a _ _ _ _ _)
  refine pn_V0 (G := G) (As := [.ref q15]) (rest := []) hx hb hml hown hq hE hX pX0_al hP hD hS hA hl.1 (P_arguments l G h0 a (upd (upd (upd (upd (upd F 2 (nI sz)) 9 (nI at9)) 10 (nI dp)) 11 (nI sg)) 9 (nI (((at9 + 1) + 1) + 1))) R Z B J K31 w q15 n (((at9 + 1) + 1) + 1) sz dp sg (gset g q15 0 0 0) (by omega) (by omega) (by omega) (by omega) hns42.1 hf34 hg44 hf38 hno45 (by rw [hf35]; decide) ihe hO hl0) (gV pw_939 pw_940 pw_941 pw_796 pw_986) hV_X8_arguments qr49 5 hqr50 rfl rfl rfl (Nat.le_of_ble_eq_true rfl) dX8_superCall_33 ⟨(by show 1 + (2 * (sz - (((at9 + 1) + 1) + 1)) + 18) ≤ (2 * (sz - at9) + 19); omega), (by show 11 + (11 * (2 * (sz - (((at9 + 1) + 1) + 1)) + 18)) ≤ (11 * (2 * (sz - at9) + 19)); omega)⟩ ⟨(by show (40 * n + 12) + 1 ≤ (40 * n + 14); omega), (by show 8 + (6 + 11) + (1300 * n + 400) ≤ (1300 * n + 440); omega)⟩ (fun v48 u46 H locs hw47 hP hD hS => ?_) (fun ux ce9 q9 H9 locs9 hux hP9 hD9 hS9 hce hcv hcl => pb_out ux (ThQ.up (Thx.same (Thx.same (Thx.same (Thx.same (Thx.f Thx.rfl (by omega)) rfl) rfl) rfl) rfl) RhX.rfl hux) hnt hlocks hce hcv hcl hP9 hD9 hS9 (by show 1 + (2 * (sz - (((at9 + 1) + 1) + 1)) + 18) ≤ (2 * (sz - at9) + 19); omega) (by show 11 + (11 * (2 * (sz - (((at9 + 1) + 1) + 1)) + 18)) ≤ (11 * (2 * (sz - at9) + 19)); omega))
  obtain ⟨w, K51, g52, at53, sg54, f55⟩ := u46
  obtain ⟨hw47, h56, h57, h58, h59, h60, hO⟩ := hw47
  have h56 : (((at9 + 1) + 1) + 1) + 2 ≤ at53 ∧ at53 ≤ sz := h56
  have h57 : sg ≤ sg54 ∧ sg54 ≤ 60 := h57
  have h58 : ArS K31 K51 (gset g q15 0 0 0) g52 q15 (5 * (20 - (dp + 1)) + 6 + (sg54 - sg)) ((((at9 + 1) + 1) + 1) + 1) (at53 - 1) (9 * (20 - (dp + 1)) + (sg54 - sg) + 1) := h58
  have h59 : dp + 1 ≤ 20 := h59
  have h60 : NwT ((B 7)) sz ((B 10)) f55 K31 K51 (((at9 + 1) + 1) + 1) at53 := h60
  obtain rfl : v48 = none := hw47
  have hO : OKP G h0 a (upd (upd (upd (upd F 2 (nI sz)) 9 (nI at53)) 10 (nI dp)) 11 (nI sg54)) R Z (updA B 10 f55) J K51 w := hO.to rfl
  refine W.widen (k := (1 + (2 * (at53 - (((at9 + 1) + 1) + 1)) - 4))) (n := (11 + (11 * (2 * (at53 - (((at9 + 1) + 1) + 1)) - 4)))) (by show 1 + (2 * (at53 - (((at9 + 1) + 1) + 1)) - 4) ≤ (1 + (2 * (at53 - (((at9 + 1) + 1) + 1)) - 4)); omega) (by show 11 + (11 * (2 * (at53 - (((at9 + 1) + 1) + 1)) - 4)) ≤ (11 + (11 * (2 * (at53 - (((at9 + 1) + 1) + 1)) - 4))); omega) ?_
  refine W.eq (g2 := F0 m 36 ls []) rfl ?_
  have htk61 : NwT (B 7) sz (B 10) f55 K K51 at9 at53 := (NwT.call htk33 h60 (by omega))
  refine lv_aload_n hx hb dX8_superCall_36 rfl (lv_at hl 0 rfl) ?_
  refine W_size (fun hz1 hz2 => ?_)
  refine vx_ret ?_
  obtain ⟨k962, k962I, k962S, k962E, k962M, k962N, k962X, k962D⟩ := rk_ex (s := at9) (e := at53) (m := (at9 + 1)) (n := at53) (x := 0) (d := (9 * (20 - dp) + (sg54 - sg) + 1)) (by omega)
  have hns9 := NwS.args hns42 h58 hf34 hq43
  have hcc := h58.2.2.2.1
  have hdn := NwS.doneA (L := (5 * (20 - dp) + 2 + (sg54 - sg))) (O := O) (k := k962) hns9 h58 hq43 (by omega) k962I (by omega) (Or.inr ((hcc.2.2.1 0 (by decide)).trans hf35)) (Or.inl ((hcc.2.2.2 0 (by decide)).trans hf37)) ((hcc.2.2.2 2 (by decide)).trans hf39) ((hcc.2.2.2 3 (by decide)).trans hf40) ((hcc.2.2.2 4 (by decide)).trans hf41) how
  have hz63 : NwR K K51 g (gset g52 q15 (5 * (20 - dp) + 2 + (sg54 - sg)) O k962) q15 O k962 ((5 * (20 - dp) + 2 + (sg54 - sg))) := hdn
  have hz64 : at9 ≤ rS k962 ∧ rS k962 + 1 ≤ rE k962 ∧ rE k962 ≤ at53 ∧ 1 ≤ rD k962 ∧ rD k962 ≤ 9 * (20 - dp) + (sg54 - sg) + 1 := (by omega)
  have hz65 : at9 + 3 ≤ at53 ∧ at53 ≤ sz := (by omega)
  have hz66 : sg ≤ sg54 ∧ sg54 ≤ 60 := (by omega)
  have hz67 : NwT (B 7) sz (B 10) f55 K K51 at9 at53 := (NwT.le htk61 (by omega))
  have hO : OKP G h0 a (upd (upd (upd (upd F 2 (nI sz)) 9 (nI at53)) 10 (nI dp)) 11 (nI sg54)) R Z (updA B 10 f55) J K51 w := hO.to rfl
  refine W.widen (k := (2 * (sz - at9) + 19)) (n := (11 * (2 * (sz - at9) + 19))) (by omega) (by omega) ?_
  have hzz1 : H.size ≤ s.heap.size + ((2 * (at53 - at9) - 2)) := (by have z : (1 + (2 * (at53 - (((at9 + 1) + 1) + 1)) - 4)) ≤ (2 * (at53 - at9) - 2) := (by omega); omega)
  have hzz2 : hSl H ≤ hSl s.heap + ((11 * (2 * (at53 - at9) - 2))) := (by have z : (11 + (11 * (2 * (at53 - (((at9 + 1) + 1) + 1)) - 4))) ≤ (11 * (2 * (at53 - at9) - 2)) := (by omega); omega)
  exact W.aret (v := .ref q15) hx hb hr (Or.inl ⟨_, rfl⟩) (Or.inr ⟨_, rfl⟩) (fun t99 ht99 hW99 => ⟨⟨_, (w, (q15, K51, (gset g52 q15 (5 * (20 - dp) + 2 + (sg54 - sg)) O k962), at53, sg54, f55, k962)), rfl, ⟨rfl, hz63, hz64, hz65, hz66, hz67, hO⟩, by rw [ht99]; exact hP, hD, by rw [ht99]; exact hzz1, by rw [ht99]; exact hzz2⟩, hS.F ht99⟩) hS.2.2 dX8_superCall_37

theorem dX8_catchBlock_0 : decode cX8_catchBlock 0 = .ok (.aload_n 0, 1) := by decide +kernel
theorem dX8_catchBlock_1 : decode cX8_catchBlock 1 = .ok (.iconst 3, 1) := by decide +kernel
theorem dX8_catchBlock_2 : decode cX8_catchBlock 2 = .ok (.invokevirtual 53, 3) := by decide +kernel
theorem dX8_catchBlock_5 : decode cX8_catchBlock 5 = .ok (.pop, 1) := by decide +kernel
theorem dX8_catchBlock_6 : decode cX8_catchBlock 6 = .ok (.aload_n 0, 1) := by decide +kernel
theorem dX8_catchBlock_7 : decode cX8_catchBlock 7 = .ok (.bipush 34, 2) := by decide +kernel
theorem dX8_catchBlock_9 : decode cX8_catchBlock 9 = .ok (.invokevirtual 53, 3) := by decide +kernel
theorem dX8_catchBlock_12 : decode cX8_catchBlock 12 = .ok (.pop, 1) := by decide +kernel
theorem dX8_catchBlock_13 : decode cX8_catchBlock 13 = .ok (.aload_n 0, 1) := by decide +kernel
theorem dX8_catchBlock_14 : decode cX8_catchBlock 14 = .ok (.bipush 65, 2) := by decide +kernel
theorem dX8_catchBlock_16 : decode cX8_catchBlock 16 = .ok (.invokevirtual 53, 3) := by decide +kernel
theorem dX8_catchBlock_19 : decode cX8_catchBlock 19 = .ok (.istore_n 1, 1) := by decide +kernel
theorem dX8_catchBlock_20 : decode cX8_catchBlock 20 = .ok (.aload_n 0, 1) := by decide +kernel
theorem dX8_catchBlock_21 : decode cX8_catchBlock 21 = .ok (.getfield 7, 3) := by decide +kernel
theorem dX8_catchBlock_24 : decode cX8_catchBlock 24 = .ok (.iload_n 1, 1) := by decide +kernel
theorem dX8_catchBlock_25 : decode cX8_catchBlock 25 = .ok (.iconst 3, 1) := by decide +kernel
theorem dX8_catchBlock_26 : decode cX8_catchBlock 26 = .ok (.invokevirtual 64, 3) := by decide +kernel
theorem dX8_catchBlock_29 : decode cX8_catchBlock 29 = .ok (.new 143, 3) := by decide +kernel
theorem dX8_catchBlock_32 : decode cX8_catchBlock 32 = .ok (.dup, 1) := by decide +kernel
theorem dX8_catchBlock_33 : decode cX8_catchBlock 33 = .ok (.bipush 35, 2) := by decide +kernel
theorem dX8_catchBlock_35 : decode cX8_catchBlock 35 = .ok (.aload_n 0, 1) := by decide +kernel
theorem dX8_catchBlock_36 : decode cX8_catchBlock 36 = .ok (.bipush 65, 2) := by decide +kernel
theorem dX8_catchBlock_38 : decode cX8_catchBlock 38 = .ok (.invokevirtual 53, 3) := by decide +kernel
theorem dX8_catchBlock_41 : decode cX8_catchBlock 41 = .ok (.iload_n 1, 1) := by decide +kernel
theorem dX8_catchBlock_42 : decode cX8_catchBlock 42 = .ok (.invokespecial 145, 3) := by decide +kernel
theorem dX8_catchBlock_45 : decode cX8_catchBlock 45 = .ok (.astore_n 2, 1) := by decide +kernel
theorem dX8_catchBlock_46 : decode cX8_catchBlock 46 = .ok (.aload_n 0, 1) := by decide +kernel
theorem dX8_catchBlock_47 : decode cX8_catchBlock 47 = .ok (.bipush 35, 2) := by decide +kernel
theorem dX8_catchBlock_49 : decode cX8_catchBlock 49 = .ok (.invokevirtual 53, 3) := by decide +kernel
theorem dX8_catchBlock_52 : decode cX8_catchBlock 52 = .ok (.pop, 1) := by decide +kernel
theorem dX8_catchBlock_53 : decode cX8_catchBlock 53 = .ok (.aload_n 2, 1) := by decide +kernel
theorem dX8_catchBlock_54 : decode cX8_catchBlock 54 = .ok (.aload_n 0, 1) := by decide +kernel
theorem dX8_catchBlock_55 : decode cX8_catchBlock 55 = .ok (.invokevirtual 120, 3) := by decide +kernel
theorem dX8_catchBlock_58 : decode cX8_catchBlock 58 = .ok (.putfield 165, 3) := by decide +kernel
theorem dX8_catchBlock_61 : decode cX8_catchBlock 61 = .ok (.aload_n 2, 1) := by decide +kernel
theorem dX8_catchBlock_62 : decode cX8_catchBlock 62 = .ok (.areturn, 1) := by decide +kernel
theorem hV_X8_block : yX8_block.cls = RX8 ∧ yX8_block.cls ≠ "java/lang/invoke/MethodHandle" ∧ yX8_block.cls ≠ "java/lang/invoke/VarHandle" ∧ (parseMethodDescriptor yX8_block.desc).map (fun d => d.parameters.length) = some 0 := by decide +kernel
set_option maxHeartbeats 20000000 in
set_option maxRecDepth 100000 in
theorem P_catch (l : Launch) (G : pT) (h0 : Nat) (a : Nat → Nat) (F : Nat → Int32) (R : Nat → Value) (Z : Int64) (B : Nat → Nat → Int32) (J : Nat → Nat → Int64) (K : PK) (w : va_W) (n : Nat) (at9 : Nat) (sz : Nat) (dp : Nat) (sg : Nat) (O : Nat) (g : Nat → Nat → Nat) (hsz : sz ≤ 5000) (hat : at9 ≤ sz) (hdp : dp + n = 20) (hsg : sg ≤ 60) (hwn : WN K g) (how : ∀ o : Nat, O = o + 1 → K.1 o = 1 ∧ g 0 o = 0) (ist : PSt l G n) (hO : OKP G h0 a (upd (upd (upd (upd F 2 (nI sz)) 9 (nI at9)) 10 (nI dp)) 11 (nI sg)) R Z B J K w) (hl0 : l.stackTraces = false) : PBn l G pX0 yX8_catchBlock cX8_catchBlock 3 (some (.object "JinjaTongue$Node")) ({ frames := (50 * n + 56), cells := (2 * (sz - at9) + 20), slots := (11 * (2 * (sz - at9) + 20)), locals := (1500 * n + 1600) }) [.ref (a 3)] w (fun (v : Option Value) (u : va_W × (Nat × PK × (Nat → Nat → Nat) × Nat × Nat × (Nat → Int32) × Nat)) => v = some (.ref u.2.1) ∧ (NwR K u.2.2.1 g u.2.2.2.1 u.2.1 O u.2.2.2.2.2.2.2 ((172 + 3 * (20 - dp)))) ∧ (rS u.2.2.2.2.2.2.2 = at9 ∧ rE u.2.2.2.2.2.2.2 ≤ u.2.2.2.2.1 ∧ rS u.2.2.2.2.2.2.2 ≤ rE u.2.2.2.2.2.2.2 ∧ rD u.2.2.2.2.2.2.2 ≤ 2 * (20 - dp)) ∧ (at9 + 7 ≤ u.2.2.2.2.1 ∧ u.2.2.2.2.1 ≤ sz) ∧ (sg ≤ u.2.2.2.2.2.1 ∧ u.2.2.2.2.2.1 ≤ 60) ∧ (¬ u.2.2.1.2.1 0 u.2.1 = 22) ∧ (NwT (B 7) sz (B 10) u.2.2.2.2.2.2.1 K u.2.2.1 at9 u.2.2.2.2.1) ∧ (OKP G h0 a (upd (upd (upd (upd F 2 (nI sz)) 9 (nI u.2.2.2.2.1)) 10 (nI dp)) 11 (nI u.2.2.2.2.2.1)) R Z (updA B 10 u.2.2.2.2.2.2.1) J u.2.2.1 u.1)) (fun u => u.1) (fun (u : va_W × (Nat × PK × (Nat → Nat → Nat) × Nat × Nat × (Nat → Int32) × Nat)) => (2 * (u.2.2.2.2.1 - at9) - 6)) (fun (u : va_W × (Nat × PK × (Nat → Nat → Nat) × Nat × Nat × (Nat → Int32) × Nat)) => (11 * (2 * (u.2.2.2.2.1 - at9) - 6))) (fun (u : va_W × (Nat → Int32) × (Nat → Value) × (Nat → Nat → Int32)) => ThQ G h0 a (upd (upd (upd (upd F 2 (nI sz)) 9 (nI at9)) 10 (nI dp)) 11 (nI sg)) R Z B J u) (fun u => u.1) := by
  intro sz
  refine vx_ofW (cc := cX8_catchBlock) (maxL := 3) (ret := (some (.object "JinjaTongue$Node"))) (by decide) rfl ?_
  intro p e s m args below meth c s₁ B9 hml hnt hv
  obtain ⟨rfl, hsz, hP, hD0, hE, hX⟩ := hv
  have hx := B9.exec
  have hb := B9.bytes
  have hr := B9.returns
  have hts := atoms_spec (ws := Cond.code yX8_catchBlock cX8_catchBlock 3 (some (.object "JinjaTongue$Node")) :: pw) B9.pre
  have hq : ∀ w ∈ pw, w.before _ s = true := fun w h => hts w (List.mem_cons_of_mem _ h)
  have hown : s.vm.findClass RX8 = some m.cls := findClass_of_methodNamed B9.named
  have hlocks := B9.notSynchronized
  subst hsz
  have hD := hD0.self (sz := s.heap.size)
  have hA : ∀ q : Nat, s.heap.size ≤ q → va_A w s.heap.size q := fun q h => Or.inr h
  generalize va_A w s.heap.size = A at hD hE hA ⊢
  have hS : va_S A s.heap s.heap [] := va_S.rf
  have hl := lv_entry ([.ref (a 3)]) (n := 3) (Nat.le_of_ble_eq_true rfl)
  rw [lg_entry_eq]
  generalize (lg_sl ([.ref (a 3)]) ++ List.replicate (3 - (lg_sl ([.ref (a 3)])).length) Slot.unset).toArray = ls at hl ⊢
  have hl : lv_has ls 3 [(0, .ref (a 3))] := hl
  have htk0 : NwT (B 7) sz (B 10) (B 10) K K at9 at9 := NwT.nil
  have hns0 : NwS K K g g := NwS.nil hwn
  refine lv_aload_n hx hb dX8_catchBlock_0 rfl (lv_at hl 0 rfl) ?_
  refine lv_iconst (v := 3) hx hb dX8_catchBlock_1 (by decide) ?_
  have hO : OKW G h0 a (upd (upd (upd (upd (upd (upd F 2 (nI sz)) 9 (nI at9)) 10 (nI dp)) 11 (nI sg)) 2 (nI sz)) 9 (nI at9)) R Z B J K.1 (fun q99 x99 => x99 = rep G a K q99) w := hO.to rfl
  obtain ⟨_, qr4, hqr5⟩ := hO.2.1 23 _ (sg_23 G h0 a _ _ _ _ _)
  refine pn_V0 (G := G) (As := [.int 3]) (rest := []) hx hb hml hown hq hE hX pX0_al hP hD hS hA hl.1 (P_take l G h0 a (upd (upd (upd (upd F 2 (nI sz)) 9 (nI at9)) 10 (nI dp)) 11 (nI sg)) R Z B J K.1 (fun q99 x99 => x99 = rep G a K q99) w 3 at9 sz (by omega) (by omega) (by decide) hO hl0) (gV pw_793 pw_794 pw_795 pw_796 pw_781) hV_X8_take qr4 5 hqr5 rfl rfl rfl (Nat.le_of_ble_eq_true rfl) dX8_catchBlock_2 ⟨(by show 0 + 1 ≤ (2 * (sz - at9) + 20); omega), (by show 0 + 6 ≤ (11 * (2 * (sz - at9) + 20)); omega)⟩ ⟨(by show 7 + 1 ≤ (50 * n + 56); omega), (by show 8 + (2 + 11) + 122 ≤ (1500 * n + 1600); omega)⟩ (fun v3 u1 H locs hw2 hP hD hS => ?_) (fun ux ce9 q9 H9 locs9 hux hP9 hD9 hS9 hce hcv hcl => pb_out ux (ThQ.up (Thx.same (Thx.same Thx.rfl rfl) rfl) RhX.rfl hux) hnt hlocks hce hcv hcl hP9 hD9 hS9 (by show 0 + 1 ≤ (2 * (sz - at9) + 20); omega) (by show 0 + 6 ≤ (11 * (2 * (sz - at9) + 20)); omega))
  obtain ⟨w, _⟩ := u1
  obtain ⟨hw2, h6, h7, hO⟩ := hw2
  have h6 : at9 + 1 ≤ sz := h6
  have h7 : tkN ((B 7)) sz 67 (nI at9) = 3 := h7
  obtain rfl : v3 = some (.int (nI at9)) := hw2
  have hO : OKP G h0 a (upd (upd (upd (upd F 2 (nI sz)) 9 (nI (at9 + 1))) 10 (nI dp)) 11 (nI sg)) R Z B J K w := hO.to rfl
  refine W.widen (k := 0) (n := 0) (by show 0 + 0 ≤ 0; omega) (by show 0 + 0 ≤ 0; omega) ?_
  refine W.eq (g2 := F0 m 5 ls [.int (nI at9)]) rfl ?_
  refine lv_pop hx hb dX8_catchBlock_5 rfl ?_
  refine lv_aload_n hx hb dX8_catchBlock_6 rfl (lv_at hl 0 rfl) ?_
  refine lv_bipush (v := 34) hx hb dX8_catchBlock_7 (by decide) ?_
  have hO : OKW G h0 a (upd (upd (upd (upd (upd (upd (upd F 2 (nI sz)) 9 (nI at9)) 10 (nI dp)) 11 (nI sg)) 9 (nI (at9 + 1))) 2 (nI sz)) 9 (nI (at9 + 1))) R Z B J K.1 (fun q99 x99 => x99 = rep G a K q99) w := hO.to rfl
  obtain ⟨_, qr11, hqr12⟩ := hO.2.1 23 _ (sg_23 G h0 a _ _ _ _ _)
  refine pn_V0 (G := G) (As := [.int 34]) (rest := []) hx hb hml hown hq hE hX pX0_al hP hD hS hA hl.1 (P_take l G h0 a (upd (upd (upd (upd (upd F 2 (nI sz)) 9 (nI at9)) 10 (nI dp)) 11 (nI sg)) 9 (nI (at9 + 1))) R Z B J K.1 (fun q99 x99 => x99 = rep G a K q99) w 34 (at9 + 1) sz (by omega) (by omega) (by decide) hO hl0) (gV pw_793 pw_794 pw_795 pw_796 pw_781) hV_X8_take qr11 5 hqr12 rfl rfl rfl (Nat.le_of_ble_eq_true rfl) dX8_catchBlock_9 ⟨(by show 0 + 1 ≤ (2 * (sz - at9) + 20); omega), (by show 0 + 6 ≤ (11 * (2 * (sz - at9) + 20)); omega)⟩ ⟨(by show 7 + 1 ≤ (50 * n + 56); omega), (by show 8 + (2 + 11) + 122 ≤ (1500 * n + 1600); omega)⟩ (fun v10 u8 H locs hw9 hP hD hS => ?_) (fun ux ce9 q9 H9 locs9 hux hP9 hD9 hS9 hce hcv hcl => pb_out ux (ThQ.up (Thx.same (Thx.same (Thx.f Thx.rfl (by omega)) rfl) rfl) RhX.rfl hux) hnt hlocks hce hcv hcl hP9 hD9 hS9 (by show 0 + 1 ≤ (2 * (sz - at9) + 20); omega) (by show 0 + 6 ≤ (11 * (2 * (sz - at9) + 20)); omega))
  obtain ⟨w, _⟩ := u8
  obtain ⟨hw9, h13, h14, hO⟩ := hw9
  have h13 : (at9 + 1) + 1 ≤ sz := h13
  have h14 : tkN ((B 7)) sz 67 (nI (at9 + 1)) = 34 := h14
  obtain rfl : v10 = some (.int (nI (at9 + 1))) := hw9
  have hO : OKP G h0 a (upd (upd (upd (upd F 2 (nI sz)) 9 (nI ((at9 + 1) + 1))) 10 (nI dp)) 11 (nI sg)) R Z B J K w := hO.to rfl
  refine W.widen (k := 0) (n := 0) (by show 0 + 0 ≤ 0; omega) (by show 0 + 0 ≤ 0; omega) ?_
  refine W.eq (g2 := F0 m 12 ls [.int (nI (at9 + 1))]) rfl ?_
  refine lv_pop hx hb dX8_catchBlock_12 rfl ?_
  refine lv_aload_n hx hb dX8_catchBlock_13 rfl (lv_at hl 0 rfl) ?_
  refine lv_bipush (v := 65) hx hb dX8_catchBlock_14 (by decide) ?_
  have hO : OKW G h0 a (upd (upd (upd (upd (upd (upd (upd F 2 (nI sz)) 9 (nI at9)) 10 (nI dp)) 11 (nI sg)) 9 (nI ((at9 + 1) + 1))) 2 (nI sz)) 9 (nI ((at9 + 1) + 1))) R Z B J K.1 (fun q99 x99 => x99 = rep G a K q99) w := hO.to rfl
  obtain ⟨_, qr18, hqr19⟩ := hO.2.1 23 _ (sg_23 G h0 a _ _ _ _ _)
  refine pn_V0 (G := G) (As := [.int 65]) (rest := []) hx hb hml hown hq hE hX pX0_al hP hD hS hA hl.1 (P_take l G h0 a (upd (upd (upd (upd (upd F 2 (nI sz)) 9 (nI at9)) 10 (nI dp)) 11 (nI sg)) 9 (nI ((at9 + 1) + 1))) R Z B J K.1 (fun q99 x99 => x99 = rep G a K q99) w 65 ((at9 + 1) + 1) sz (by omega) (by omega) (by decide) hO hl0) (gV pw_793 pw_794 pw_795 pw_796 pw_781) hV_X8_take qr18 5 hqr19 rfl rfl rfl (Nat.le_of_ble_eq_true rfl) dX8_catchBlock_16 ⟨(by show 0 + 1 ≤ (2 * (sz - at9) + 20); omega), (by show 0 + 6 ≤ (11 * (2 * (sz - at9) + 20)); omega)⟩ ⟨(by show 7 + 1 ≤ (50 * n + 56); omega), (by show 8 + (2 + 11) + 122 ≤ (1500 * n + 1600); omega)⟩ (fun v17 u15 H locs hw16 hP hD hS => ?_) (fun ux ce9 q9 H9 locs9 hux hP9 hD9 hS9 hce hcv hcl => pb_out ux (ThQ.up (Thx.same (Thx.same (Thx.f Thx.rfl (by omega)) rfl) rfl) RhX.rfl hux) hnt hlocks hce hcv hcl hP9 hD9 hS9 (by show 0 + 1 ≤ (2 * (sz - at9) + 20); omega) (by show 0 + 6 ≤ (11 * (2 * (sz - at9) + 20)); omega))
  obtain ⟨w, _⟩ := u15
  obtain ⟨hw16, h20, h21, hO⟩ := hw16
  have h20 : ((at9 + 1) + 1) + 1 ≤ sz := h20
  have h21 : tkN ((B 7)) sz 67 (nI ((at9 + 1) + 1)) = 65 := h21
  obtain rfl : v17 = some (.int (nI ((at9 + 1) + 1))) := hw16
  have hO : OKP G h0 a (upd (upd (upd (upd F 2 (nI sz)) 9 (nI (((at9 + 1) + 1) + 1))) 10 (nI dp)) 11 (nI sg)) R Z B J K w := hO.to rfl
  refine W.widen (k := 0) (n := 0) (by show 0 + 0 ≤ 0; omega) (by show 0 + 0 ≤ 0; omega) ?_
  refine W.eq (g2 := F0 m 19 ls [.int (nI ((at9 + 1) + 1))]) rfl ?_
  refine lv_istore_n (lv' := [(1, .int (nI ((at9 + 1) + 1))), (0, .ref (a 3))]) hx hb dX8_catchBlock_19 rfl hl (by decide) rfl (fun ls hl => ?_)
  refine lv_aload_n hx hb dX8_catchBlock_20 rfl (lv_at hl 1 rfl) ?_
  refine c_get (v := .ref (a 1)) (C := RX8) (Tc := TX8) (N := 5) (ci := 5) hx hb hq pin_wsX80 hown hE hP hO 23 (sg_23 G h0 a _ _ _ _ _) rfl 0 (by decide) (hq _ pw_774) (fun _ h9 => h9) rfl dX8_catchBlock_21 ?_
  refine lv_iload_n hx hb dX8_catchBlock_24 rfl (lv_at hl 0 rfl) ?_
  refine lv_iconst (v := 3) hx hb dX8_catchBlock_25 (by decide) ?_
  have hO : OKW G h0 a (upd (upd (upd (upd (upd F 2 (nI sz)) 9 (nI (((at9 + 1) + 1) + 1))) 10 (nI dp)) 11 (nI sg)) 2 (nI sz)) R Z B J K.1 (fun q99 x99 => x99 = rep G a K q99) w := hO.to rfl
  obtain ⟨_, qr25, hqr26⟩ := hO.2.1 2 _ (sg_2 G h0 a _ _ _ _ _)
  refine pc_V0 (G := G) (As := [.int (nI ((at9 + 1) + 1)), .int 3]) (rest := []) hx hb hml hown hq hE hX pX0_al hP hD hS hA hl.1 (K_giveRoleX l G h0 a (upd (upd (upd (upd F 2 (nI sz)) 9 (nI (((at9 + 1) + 1) + 1))) 10 (nI dp)) 11 (nI sg)) R Z B J K.1 (fun q99 x99 => x99 = rep G a K q99) w ((at9 + 1) + 1) 3 sz (by omega) (by omega) (by first | decide | rfl) hO) (gV pw_822 pw_823 pw_824 pw_59 pw_819) hV_X10_giveRole qr25 7 hqr26 rfl rfl rfl (Nat.le_of_ble_eq_true rfl) dX8_catchBlock_26 ⟨(by show 0 + 0 ≤ (2 * (sz - at9) + 20); omega), (by show 0 + 0 ≤ (11 * (2 * (sz - at9) + 20)); omega)⟩ ⟨(by show 2 + 1 ≤ (50 * n + 56); omega), (by show 8 + (3 + 11) + 60 ≤ (1500 * n + 1600); omega)⟩ (fun v24 u22 H locs hw23 hP hD hS => ?_)
  obtain ⟨w, _⟩ := u22
  obtain ⟨hw23, hO⟩ := hw23
  obtain rfl : v24 = none := hw23
  have hO : OKP G h0 a (upd (upd (upd (upd F 2 (nI sz)) 9 (nI (((at9 + 1) + 1) + 1))) 10 (nI dp)) 11 (nI sg)) R Z (updA B 10 (upd ((B 10)) ((at9 + 1) + 1) 3)) J K w := hO.to rfl
  refine W.widen (k := 0) (n := 0) (Nat.le_of_ble_eq_true rfl) (Nat.le_of_ble_eq_true rfl) ?_
  refine W.eq (g2 := F0 m 29 ls []) rfl ?_
  have htk27 : NwT (B 7) sz (B 10) (upd ((B 10)) ((at9 + 1) + 1) 3) K K at9 at9 := (NwT.role0 htk0 (RoS.upd (fun _ _ => rfl) (by omega)))
  refine p_new (s9 := 1) (C := RX7) (T := TX7) (N := 11) (ci := 13) (fs := [.int 0, .int 0, .int 0, .int 0, .int 0, .int 0, .null, .null, .null, .null, .null]) hx hb hq pin_wsX70 tyX7 tyX7_ok hown (hq _ pw_870) (hq _ pw_871) (hq _ pw_872) hE hP hD hS hA hO rfl nw_X7 (by decide) (fun q => by rw [rep_1 (show (kN K q 1 0).1 q = 1 from if_pos rfl)]; unfold fsNode kN; simp only [if_true]; rfl) (by show 0 + 1 ≤ (2 * (sz - at9) + 20); omega) (by show 0 + 11 ≤ (11 * (2 * (sz - at9) + 20)); omega) dX8_catchBlock_29 (fun q28 H w hq29 hP hD hS hO => ?_)
  have hf30 : (kN K q28 1 0).1 q28 = 1 := if_pos rfl
  refine W.widen (k := 1) (n := 11) (by show 0 + 1 ≤ 1; omega) (by show 0 + 11 ≤ 11; omega) ?_
  refine lv_dup hx hb dX8_catchBlock_32 rfl ?_
  refine lv_bipush (v := 35) hx hb dX8_catchBlock_33 (by decide) ?_
  refine lv_aload_n hx hb dX8_catchBlock_35 rfl (lv_at hl 1 rfl) ?_
  refine lv_bipush (v := 65) hx hb dX8_catchBlock_36 (by decide) ?_
  have hO : OKW G h0 a (upd (upd (upd (upd (upd (upd (upd F 2 (nI sz)) 9 (nI at9)) 10 (nI dp)) 11 (nI sg)) 9 (nI (((at9 + 1) + 1) + 1))) 2 (nI sz)) 9 (nI (((at9 + 1) + 1) + 1))) R Z (updA B 10 (upd ((B 10)) ((at9 + 1) + 1) 3)) J ((kN K q28 1 0).1) (fun q99 x99 => x99 = rep G a (kN K q28 1 0) q99) w := hO.to rfl
  obtain ⟨_, qr34, hqr35⟩ := hO.2.1 23 _ (sg_23 G h0 a _ _ _ _ _)
  refine pn_V0 (G := G) (As := [.int 65]) (rest := [.int 35, .ref q28, .ref q28]) hx hb hml hown hq hE hX pX0_al hP hD hS hA hl.1 (P_take l G h0 a (upd (upd (upd (upd (upd F 2 (nI sz)) 9 (nI at9)) 10 (nI dp)) 11 (nI sg)) 9 (nI (((at9 + 1) + 1) + 1))) R Z (updA B 10 (upd ((B 10)) ((at9 + 1) + 1) 3)) J ((kN K q28 1 0).1) (fun q99 x99 => x99 = rep G a (kN K q28 1 0) q99) w 65 (((at9 + 1) + 1) + 1) sz (by omega) (by omega) (by decide) hO hl0) (gV pw_793 pw_794 pw_795 pw_796 pw_781) hV_X8_take qr34 5 hqr35 rfl rfl rfl (Nat.le_of_ble_eq_true rfl) dX8_catchBlock_38 ⟨(by show 1 + 1 ≤ (2 * (sz - at9) + 20); omega), (by show 11 + 6 ≤ (11 * (2 * (sz - at9) + 20)); omega)⟩ ⟨(by show 7 + 1 ≤ (50 * n + 56); omega), (by show 8 + (2 + 11) + 122 ≤ (1500 * n + 1600); omega)⟩ (fun v33 u31 H locs hw32 hP hD hS => ?_) (fun ux ce9 q9 H9 locs9 hux hP9 hD9 hS9 hce hcv hcl => pb_out ux (ThQ.up (Thx.same (Thx.same (Thx.b (Thx.f Thx.rfl (by omega)) (by omega) (by decide)) rfl) rfl) RhX.rfl hux) hnt hlocks hce hcv hcl hP9 hD9 hS9 (by show 1 + 1 ≤ (2 * (sz - at9) + 20); omega) (by show 11 + 6 ≤ (11 * (2 * (sz - at9) + 20)); omega))
  obtain ⟨w, _⟩ := u31
  obtain ⟨hw32, h36, h37, hO⟩ := hw32
  have h36 : (((at9 + 1) + 1) + 1) + 1 ≤ sz := h36
  have h37 : tkN ((B 7)) sz 67 (nI (((at9 + 1) + 1) + 1)) = 65 := h37
  obtain rfl : v33 = some (.int (nI (((at9 + 1) + 1) + 1))) := hw32
  have hO : OKP G h0 a (upd (upd (upd (upd F 2 (nI sz)) 9 (nI ((((at9 + 1) + 1) + 1) + 1))) 10 (nI dp)) 11 (nI sg)) R Z (updA B 10 (upd ((B 10)) ((at9 + 1) + 1) 3)) J (kN K q28 1 0) w := hO.to rfl
  refine W.widen (k := 1) (n := 11) (by show 1 + 0 ≤ 1; omega) (by show 11 + 0 ≤ 11; omega) ?_
  refine W.eq (g2 := F0 m 41 ls [.int (nI (((at9 + 1) + 1) + 1)), .int 35, .ref q28, .ref q28]) rfl ?_
  refine lv_iload_n hx hb dX8_catchBlock_41 rfl (lv_at hl 0 rfl) ?_
  have hO : OKP G h0 a (upd (upd (upd (upd F 2 (nI sz)) 9 (nI ((((at9 + 1) + 1) + 1) + 1))) 10 (nI dp)) 11 (nI sg)) R Z (updA B 10 (upd ((B 10)) ((at9 + 1) + 1) 3)) J (kN K q28 1 0) w := hO.to rfl
  obtain ⟨qr41, hqr42⟩ := p_recv hO (by rw [hf30]; decide) (rep_1 hf30)
  refine pc_I0 (G := G) (As := [.int 35, .int (nI (((at9 + 1) + 1) + 1)), .int (nI ((at9 + 1) + 1))]) (rest := [.ref q28]) hx hb hml hown hq hE hX pX0_al hP hD hS hA hl.1 (N_init l G h0 a (upd (upd (upd (upd F 2 (nI sz)) 9 (nI ((((at9 + 1) + 1) + 1) + 1))) 10 (nI dp)) 11 (nI sg)) R Z (updA B 10 (upd ((B 10)) ((at9 + 1) + 1) 3)) J (kN K q28 1 0) w q28 35 (nI (((at9 + 1) + 1) + 1)) (nI ((at9 + 1) + 1)) (by omega) hO) pw_874 pw_875 pw_872 pw_765 rfl hS_X7_init rfl (Nat.le_of_ble_eq_true rfl) dX8_catchBlock_42 ⟨(by show 1 + 0 ≤ (2 * (sz - at9) + 20); omega), (by show 11 + 0 ≤ (11 * (2 * (sz - at9) + 20)); omega)⟩ ⟨(by show 2 + 1 ≤ (50 * n + 56); omega), (by show 8 + (4 + 11) + 60 ≤ (1500 * n + 1600); omega)⟩ (fun v40 u38 H locs hw39 hP hD hS => ?_)
  obtain ⟨w, _⟩ := u38
  obtain ⟨hw39, hO⟩ := hw39
  obtain rfl : v40 = none := hw39
  have hf43 : (kI (kI (kI (kN K q28 1 0) 0 q28 35) 1 q28 (nI (((at9 + 1) + 1) + 1))) 2 q28 (nI ((at9 + 1) + 1))).1 q28 = 1 := hf30
  have hO : OKP G h0 a (upd (upd (upd (upd F 2 (nI sz)) 9 (nI ((((at9 + 1) + 1) + 1) + 1))) 10 (nI dp)) 11 (nI sg)) R Z (updA B 10 (upd ((B 10)) ((at9 + 1) + 1) 3)) J (kI (kI (kI (kN K q28 1 0) 0 q28 35) 1 q28 (nI (((at9 + 1) + 1) + 1))) 2 q28 (nI ((at9 + 1) + 1))) w := hO.to rfl
  refine W.widen (k := 1) (n := 11) (by show 1 + 0 ≤ 1; omega) (by show 11 + 0 ≤ 11; omega) ?_
  refine W.eq (g2 := F0 m 45 ls [.ref q28]) rfl ?_
  change OKP G h0 a (upd (upd (upd (upd F 2 (nI sz)) 9 (nI ((((at9 + 1) + 1) + 1) + 1))) 10 (nI dp)) 11 (nI sg)) R Z (updA B 10 (upd ((B 10)) ((at9 + 1) + 1) 3)) J (mkN K q28 35 (nI (((at9 + 1) + 1) + 1)) (nI ((at9 + 1) + 1))) w at hO
  obtain ⟨K44, hK45⟩ : ∃ z : PK, z = (mkN K q28 35 (nI (((at9 + 1) + 1) + 1)) (nI ((at9 + 1) + 1))) := ⟨_, rfl⟩
  rw [← hK45] at hO
  have htk46 : NwT (B 7) sz (B 10) (upd ((B 10)) ((at9 + 1) + 1) 3) K K44 at9 ((((at9 + 1) + 1) + 1) + 1) := by rw [hK45]; exact NwT.new (NwT.le htk27 (show _ ≤ ((((at9 + 1) + 1) + 1) + 1) by omega)) hq29 (TkP.k35 ⟨((at9 + 1) + 1), by omega, rfl, upd_eq, h37⟩)
  have hf47 : K44.1 q28 = 1 := by rw [hK45]; exact mkN_T
  have hf48 : K44.2.1 0 q28 = 35 := by rw [hK45]; exact mkN_0
  have hf49 : K44.2.1 2 q28 = (nI ((at9 + 1) + 1)) := by rw [hK45]; exact mkN_2
  have hf50 : K44.2.2.1 0 q28 = none := by rw [hK45]; exact mkN_C
  have hf51 : K44.2.2.1 1 q28 = none := by rw [hK45]; exact mkN_C
  have hf52 : K44.2.2.1 2 q28 = none := by rw [hK45]; exact mkN_C
  have hf53 : K44.2.2.1 3 q28 = none := by rw [hK45]; exact mkN_C
  have hf54 : K44.2.2.1 4 q28 = none := by rw [hK45]; exact mkN_C
  have hns55 : NwS K K44 g (gset g q28 0 0 0) := by rw [hK45]; exact NwS.node hns0 hq29
  have hq56 : K.1 q28 = 0 := old_T hns0.2.1 hq29
  have hg57 : (gset g q28 0 0 0) 0 q28 = 0 := gset_0
  have hno58 : NoO K44 (gset g q28 0 0 0) q28 := by rw [hK45]; exact NoO.new hns0.1 hq29
  refine lv_astore_n (lv' := [(2, .ref q28), (1, .int (nI ((at9 + 1) + 1))), (0, .ref (a 3))]) hx hb dX8_catchBlock_45 rfl hl (by decide) rfl (fun ls hl => ?_)
  refine lv_aload_n hx hb dX8_catchBlock_46 rfl (lv_at hl 2 rfl) ?_
  refine lv_bipush (v := 35) hx hb dX8_catchBlock_47 (by decide) ?_
  have hO : OKW G h0 a (upd (upd (upd (upd (upd (upd (upd F 2 (nI sz)) 9 (nI at9)) 10 (nI dp)) 11 (nI sg)) 9 (nI ((((at9 + 1) + 1) + 1) + 1))) 2 (nI sz)) 9 (nI ((((at9 + 1) + 1) + 1) + 1))) R Z (updA B 10 (upd ((B 10)) ((at9 + 1) + 1) 3)) J K44.1 (fun q99 x99 => x99 = rep G a K44 q99) w := hO.to rfl
  obtain ⟨_, qr62, hqr63⟩ := hO.2.1 23 _ (sg_23 G h0 a _ _ _ _ _)
  refine pn_V0 (G := G) (As := [.int 35]) (rest := []) hx hb hml hown hq hE hX pX0_al hP hD hS hA hl.1 (P_take l G h0 a (upd (upd (upd (upd (upd F 2 (nI sz)) 9 (nI at9)) 10 (nI dp)) 11 (nI sg)) 9 (nI ((((at9 + 1) + 1) + 1) + 1))) R Z (updA B 10 (upd ((B 10)) ((at9 + 1) + 1) 3)) J K44.1 (fun q99 x99 => x99 = rep G a K44 q99) w 35 ((((at9 + 1) + 1) + 1) + 1) sz (by omega) (by omega) (by decide) hO hl0) (gV pw_793 pw_794 pw_795 pw_796 pw_781) hV_X8_take qr62 5 hqr63 rfl rfl rfl (Nat.le_of_ble_eq_true rfl) dX8_catchBlock_49 ⟨(by show 1 + 1 ≤ (2 * (sz - at9) + 20); omega), (by show 11 + 6 ≤ (11 * (2 * (sz - at9) + 20)); omega)⟩ ⟨(by show 7 + 1 ≤ (50 * n + 56); omega), (by show 8 + (2 + 11) + 122 ≤ (1500 * n + 1600); omega)⟩ (fun v61 u59 H locs hw60 hP hD hS => ?_) (fun ux ce9 q9 H9 locs9 hux hP9 hD9 hS9 hce hcv hcl => pb_out ux (ThQ.up (Thx.same (Thx.same (Thx.b (Thx.f Thx.rfl (by omega)) (by omega) (by decide)) rfl) rfl) RhX.rfl hux) hnt hlocks hce hcv hcl hP9 hD9 hS9 (by show 1 + 1 ≤ (2 * (sz - at9) + 20); omega) (by show 11 + 6 ≤ (11 * (2 * (sz - at9) + 20)); omega))
  obtain ⟨w, _⟩ := u59
  obtain ⟨hw60, h64, h65, hO⟩ := hw60
  have h64 : ((((at9 + 1) + 1) + 1) + 1) + 1 ≤ sz := h64
  have h65 : tkN ((B 7)) sz 67 (nI ((((at9 + 1) + 1) + 1) + 1)) = 35 := h65
  obtain rfl : v61 = some (.int (nI ((((at9 + 1) + 1) + 1) + 1))) := hw60
  have hO : OKP G h0 a (upd (upd (upd (upd F 2 (nI sz)) 9 (nI (((((at9 + 1) + 1) + 1) + 1) + 1))) 10 (nI dp)) 11 (nI sg)) R Z (updA B 10 (upd ((B 10)) ((at9 + 1) + 1) 3)) J K44 w := hO.to rfl
  refine W.widen (k := 1) (n := 11) (by show 1 + 0 ≤ 1; omega) (by show 11 + 0 ≤ 11; omega) ?_
  refine W.eq (g2 := F0 m 52 ls [.int (nI ((((at9 + 1) + 1) + 1) + 1))]) rfl ?_
  refine lv_pop hx hb dX8_catchBlock_52 rfl ?_
  refine lv_aload_n hx hb dX8_catchBlock_53 rfl (lv_at hl 0 rfl) ?_
  refine lv_aload_n hx hb dX8_catchBlock_54 rfl (lv_at hl 2 rfl) ?_
  have hO : OKP G h0 a (upd (upd (upd (upd (upd (upd (upd (upd (upd F 2 (nI sz)) 9 (nI at9)) 10 (nI dp)) 11 (nI sg)) 9 (nI (((((at9 + 1) + 1) + 1) + 1) + 1))) 2 (nI sz)) 9 (nI (((((at9 + 1) + 1) + 1) + 1) + 1))) 10 (nI dp)) 11 (nI sg)) R Z (updA B 10 (upd ((B 10)) ((at9 + 1) + 1) 3)) J K44 w := hO.to rfl
  obtain ⟨_, qr69, hqr70⟩ := hO.2.1 23 _ (sg_23 G h0 a _ _ _ _ _)
  refine pn_V0 (G := G) (As := []) (rest := [.ref q28]) hx hb hml hown hq hE hX pX0_al hP hD hS hA hl.1 (P_block l G h0 a (upd (upd (upd (upd (upd F 2 (nI sz)) 9 (nI at9)) 10 (nI dp)) 11 (nI sg)) 9 (nI (((((at9 + 1) + 1) + 1) + 1) + 1))) R Z (updA B 10 (upd ((B 10)) ((at9 + 1) + 1) 3)) J K44 w n (((((at9 + 1) + 1) + 1) + 1) + 1) sz dp sg 0 (gset g q28 0 0 0) (by omega) (by omega) hdp (by omega) hns55.1 (fun o9 h9 => absurd h9 (by omega)) ist hO hl0) (gV pw_1007 pw_1008 pw_1009 pw_796 pw_1056) hV_X8_block qr69 5 hqr70 rfl rfl rfl (Nat.le_of_ble_eq_true rfl) dX8_catchBlock_55 ⟨(by show 1 + (2 * (sz - (((((at9 + 1) + 1) + 1) + 1) + 1)) + 20) ≤ (2 * (sz - at9) + 20); omega), (by show 11 + (11 * (2 * (sz - (((((at9 + 1) + 1) + 1) + 1) + 1)) + 20)) ≤ (11 * (2 * (sz - at9) + 20)); omega)⟩ ⟨(by show (50 * n + 54) + 1 ≤ (50 * n + 56); omega), (by show 8 + (5 + 11) + (1500 * n + 1560) ≤ (1500 * n + 1600); omega)⟩ (fun v68 u66 H locs hw67 hP hD hS => ?_) (fun ux ce9 q9 H9 locs9 hux hP9 hD9 hS9 hce hcv hcl => pb_out ux (ThQ.up (Thx.same (Thx.same (Thx.same (Thx.same (Thx.b (Thx.f Thx.rfl (by omega)) (by omega) (by decide)) rfl) rfl) rfl) rfl) RhX.rfl hux) hnt hlocks hce hcv hcl hP9 hD9 hS9 (by show 1 + (2 * (sz - (((((at9 + 1) + 1) + 1) + 1) + 1)) + 20) ≤ (2 * (sz - at9) + 20); omega) (by show 11 + (11 * (2 * (sz - (((((at9 + 1) + 1) + 1) + 1) + 1)) + 20)) ≤ (11 * (2 * (sz - at9) + 20)); omega))
  obtain ⟨w, r71, K72, g73, at74, sg75, f76, k77⟩ := u66
  obtain ⟨hw67, h78, h79, h80, h81, h82, h83, h84, hO⟩ := hw67
  have h78 : NwR K44 K72 (gset g q28 0 0 0) g73 r71 0 k77 ((171 + 3 * (20 - dp))) := h78
  have h79 : rS k77 = (((((at9 + 1) + 1) + 1) + 1) + 1) ∧ rE k77 ≤ at74 ∧ rS k77 ≤ rE k77 ∧ rD k77 ≤ 2 * (20 - dp) := h79
  have h80 : (((((at9 + 1) + 1) + 1) + 1) + 1) + 2 ≤ at74 ∧ at74 ≤ sz := h80
  have h81 : sg ≤ sg75 ∧ sg75 ≤ 60 := h81
  have h82 : K72.2.1 0 r71 = 21 := h82
  have h83 : rS k77 + 2 ≤ rE k77 := h83
  have h84 : NwT ((B 7)) sz ((upd ((B 10)) ((at9 + 1) + 1) 3)) f76 K44 K72 (((((at9 + 1) + 1) + 1) + 1) + 1) at74 := h84
  obtain rfl : v68 = some (.ref r71) := hw67
  have hf85 : K72.1 q28 = 1 := (((h78).2.1.1 q28 (by rw [hf47]; decide)).1).trans hf47
  have hf86 : K72.2.1 0 q28 = 35 := (((h78).2.1.1 q28 (by rw [hf47]; decide)).2.1 0).trans hf48
  have hf87 : K72.2.1 2 q28 = (nI ((at9 + 1) + 1)) := (((h78).2.1.1 q28 (by rw [hf47]; decide)).2.1 2).trans hf49
  have hf88 : K72.2.2.1 0 q28 = none := (((h78).2.1.1 q28 (by rw [hf47]; decide)).2.2.1 0).trans hf50
  have hf89 : K72.2.2.1 1 q28 = none := (((h78).2.1.1 q28 (by rw [hf47]; decide)).2.2.1 1).trans hf51
  have hf90 : K72.2.2.1 2 q28 = none := (((h78).2.1.1 q28 (by rw [hf47]; decide)).2.2.1 2).trans hf52
  have hf91 : K72.2.2.1 3 q28 = none := (((h78).2.1.1 q28 (by rw [hf47]; decide)).2.2.1 3).trans hf53
  have hf92 : K72.2.2.1 4 q28 = none := (((h78).2.1.1 q28 (by rw [hf47]; decide)).2.2.1 4).trans hf54
  have hO : OKP G h0 a (upd (upd (upd (upd F 2 (nI sz)) 9 (nI at74)) 10 (nI dp)) 11 (nI sg75)) R Z (updA B 10 f76) J K72 w := hO.to rfl
  refine W.widen (k := (1 + (2 * (at74 - (((((at9 + 1) + 1) + 1) + 1) + 1)) - 3))) (n := (11 + (11 * (2 * (at74 - (((((at9 + 1) + 1) + 1) + 1) + 1)) - 3)))) (by show 1 + (2 * (at74 - (((((at9 + 1) + 1) + 1) + 1) + 1)) - 3) ≤ (1 + (2 * (at74 - (((((at9 + 1) + 1) + 1) + 1) + 1)) - 3)); omega) (by show 11 + (11 * (2 * (at74 - (((((at9 + 1) + 1) + 1) + 1) + 1)) - 3)) ≤ (11 + (11 * (2 * (at74 - (((((at9 + 1) + 1) + 1) + 1) + 1)) - 3))); omega) ?_
  refine W.eq (g2 := F0 m 58 ls [.ref r71, .ref q28]) rfl ?_
  have htk93 : NwT (B 7) sz (B 10) f76 K K72 at9 at74 := (NwT.call htk46 h84 (by omega))
  have hns94 : NwS K K72 g g73 := NwS.call hns55 h78 (fun o9 h9 => absurd h9 (by omega))
  have hrk95 : g73 2 r71 = k77 := h78.2.2.1.2.2.2.2.2.1
  have hf96 : K72.1 r71 = 1 := h78.2.2.1.2.1
  have hg97 : g73 0 q28 = 0 := (h78.2.1.2 q28 (by rw [hf47]; decide) 0).trans hg57
  have hno98 : NoO K72 g73 q28 := NoO.call hno58 h78 hf47 (by omega)
  have hgy99 := h78.2.2.1
  have hgy99a := hgy99.2.2.1
  have hgy99b := hgy99.2.2.2.1
  refine p_put (v := .ref r71) (ty := (.object "JinjaTongue$Node")) (C := RX7) (Tc := TX7) (N := 11) (ci := 13) (K' := (kC K72 0 q28 (some r71))) hx hb hq pin_wsX70 tyX7 tyX7_ok nmX7 hown hE hP hD hS hO (by rw [hf85]; decide) (rep_1 hf85) rfl 6 (by decide) (hq _ pw_938) (fun _ h9 => h9) rfl (by decide +kernel) rfl rfl (Nat.le_of_ble_eq_true rfl) rfl (by rw [rep_1 (show (kC K72 0 q28 (some r71)).1 q28 = 1 from hf85), pc_0] <;> rfl) (fun p9 hp9 => rep_kC hp9) dX8_catchBlock_58 (fun H locs w hP hD hS hO => ?_)
  obtain ⟨K100, hK101⟩ : ∃ z : PK, z = (kC K72 0 q28 (some r71)) := ⟨_, rfl⟩
  rw [← hK101] at hO
  have hf102 : K100.1 q28 = 1 := (by rw [hK101]; exact hf85)
  have hf103 : K100.2.1 0 q28 = 35 := (by rw [hK101]; exact hf86)
  have hf104 : K100.2.1 2 q28 = (nI ((at9 + 1) + 1)) := (by rw [hK101]; exact hf87)
  have hf105 : K100.2.2.1 1 q28 = none := (by rw [hK101]; exact (kC_of (by decide)).trans hf89)
  have hf106 : K100.2.2.1 2 q28 = none := (by rw [hK101]; exact (kC_of (by decide)).trans hf90)
  have hf107 : K100.2.2.1 3 q28 = none := (by rw [hK101]; exact (kC_of (by decide)).trans hf91)
  have hf108 : K100.2.2.1 4 q28 = none := (by rw [hK101]; exact (kC_of (by decide)).trans hf92)
  have hf109 : K100.1 r71 = 1 := (by rw [hK101]; exact hf96)
  have hf110 : K100.2.1 0 r71 = 21 := (by rw [hK101]; exact h82)
  have hf111 : K100.2.2.1 0 q28 = some r71 := by rw [hK101]; exact kC_eq
  have htk112 : NwT (B 7) sz (B 10) f76 K K100 at9 at74 := by rw [hK101]; exact NwT.put htk93
  have hns113 : NwS K K100 g g73 := by rw [hK101]; exact NwS.put hns94 hq56 hg97
  have hno114 : NoO K100 g73 q28 := by rw [hK101]; exact hno98
  refine lv_aload_n hx hb dX8_catchBlock_61 rfl (lv_at hl 0 rfl) ?_
  refine W_size (fun hz1 hz2 => ?_)
  refine vx_ret ?_
  obtain ⟨k9, k9I, hkS, hkE, hkM, hkN, hkX, hkD⟩ := rk_ex (s := at9) (e := at74) (m := at9) (n := at9) (x := at9) (d := (2 * (20 - dp))) (by omega)
  have hkid : ∀ f9 y9 : Nat, f9 ≤ 3 → K100.2.2.1 f9 q28 = some y9 → K100.1 y9 = 1 ∧ 1 ≤ g73 0 y9 ∧ g73 0 y9 < (172 + 3 * (20 - dp)) := by
    intro f9 y9 hf9 hy9
    rcases (show f9 = 0 ∨ f9 = 1 ∨ f9 = 2 ∨ f9 = 3 by omega) with rfl | rfl | rfl | rfl
    · rw [hf111] at hy9; cases hy9; exact ⟨hf109, (by omega), by omega⟩
    · rw [hf105] at hy9; cases hy9
    · rw [hf106] at hy9; cases hy9
    · rw [hf107] at hy9; cases hy9
  have hkc115 : ∀ f9 y9 : Nat, f9 ≤ 3 → K100.2.2.1 f9 q28 = some y9 → Kch (K100.2.1 0 q28) f9 (K100.2.1 0 y9) k9 (g73 2 y9) := by
    intro f9 y9 hf9 hy9
    rcases (show f9 = 0 ∨ f9 = 1 ∨ f9 = 2 ∨ f9 = 3 by omega) with rfl | rfl | rfl | rfl
    · rw [hf111] at hy9; cases hy9; rw [hrk95]; rw [hf103] <;> exact ⟨(fun z => absurd z (by decide)), (fun _ => hf110), (fun z => absurd z (by decide)), (fun z => absurd z (by decide)), (fun z => absurd z (by decide)), (fun z => absurd z (by decide)), (fun z => absurd z (by decide)), (fun z => absurd z (by decide)), (fun z => absurd z (by decide)), (fun z => absurd z (by decide)), (fun z => absurd z (by decide)), (fun z => absurd z (by decide)), (fun z => absurd z (by decide)), (fun z => absurd z (by decide)), (fun z => absurd z (by decide)), (fun z => absurd z (by decide)), (fun z => absurd z (by decide)), (fun z => absurd z (by decide)), (fun z => absurd z (by decide)), (fun z => absurd z (by decide)), (fun z => absurd z (by decide)), (fun z => absurd z (by decide)), (fun z => absurd z (by decide)), (fun _ _ => ⟨hf110, (by omega)⟩)⟩
    · rw [hf105] at hy9; cases hy9
    · rw [hf106] at hy9; cases hy9
    · rw [hf107] at hy9; cases hy9
  have hdn := NwS.done35 (q := q28) (L := (172 + 3 * (20 - dp))) (O := O) (k := k9) hns113 hq56 hf102 hg97 (by omega) ⟨k9I, (by rw [hf103] <;> exact ⟨(fun z => absurd z (by decide)), (fun z => absurd z (by decide)), (fun z => absurd z (by decide))⟩)⟩ (by rw [hf103]; exact ⟨(fun _ => (by show ¬ K100.2.2.1 0 q28 = none; rw [hf111]; intro z; cases z)), (fun z => absurd z (by decide)), (fun z => absurd z (by decide)), (fun z => absurd z (by decide)), (fun z => absurd z (by decide))⟩) (fun f9 z => by rw [hf103] at z; rcases z with ⟨z, _⟩ | ⟨z | z | z, _⟩ <;> exact absurd z (by decide)) hkid hf108 hno114 hkc115 hf103 how
  have hz116 : NwR K K100 g (gset g73 q28 (172 + 3 * (20 - dp)) O k9) q28 O k9 ((172 + 3 * (20 - dp))) := hdn
  have hz117 : rS k9 = at9 ∧ rE k9 ≤ at74 ∧ rS k9 ≤ rE k9 ∧ rD k9 ≤ 2 * (20 - dp) := (by omega)
  have hz118 : at9 + 7 ≤ at74 ∧ at74 ≤ sz := (by omega)
  have hz119 : sg ≤ sg75 ∧ sg75 ≤ 60 := (by omega)
  have hz120 : ¬ K100.2.1 0 q28 = 22 := (by rw [hf103]; decide)
  have hz121 : NwT (B 7) sz (B 10) f76 K K100 at9 at74 := (NwT.le htk112 (by omega))
  have hO : OKP G h0 a (upd (upd (upd (upd F 2 (nI sz)) 9 (nI at74)) 10 (nI dp)) 11 (nI sg75)) R Z (updA B 10 f76) J K100 w := hO.to rfl
  refine W.widen (k := (2 * (sz - at9) + 20)) (n := (11 * (2 * (sz - at9) + 20))) (by omega) (by omega) ?_
  have hzz1 : H.size ≤ s.heap.size + ((2 * (at74 - at9) - 6)) := (by have z : (1 + (2 * (at74 - (((((at9 + 1) + 1) + 1) + 1) + 1)) - 3)) ≤ (2 * (at74 - at9) - 6) := (by omega); omega)
  have hzz2 : hSl H ≤ hSl s.heap + ((11 * (2 * (at74 - at9) - 6))) := (by have z : (11 + (11 * (2 * (at74 - (((((at9 + 1) + 1) + 1) + 1) + 1)) - 3))) ≤ (11 * (2 * (at74 - at9) - 6)) := (by omega); omega)
  exact W.aret (v := .ref q28) hx hb hr (Or.inl ⟨_, rfl⟩) (Or.inr ⟨_, rfl⟩) (fun t99 ht99 hW99 => ⟨⟨_, (w, (q28, K100, (gset g73 q28 (172 + 3 * (20 - dp)) O k9), at74, sg75, f76, k9)), rfl, ⟨rfl, hz116, hz117, hz118, hz119, hz120, hz121, hO⟩, by rw [ht99]; exact hP, hD, by rw [ht99]; exact hzz1, by rw [ht99]; exact hzz2⟩, hS.F ht99⟩) hS.2.2 dX8_catchBlock_62
theorem dX8_ifStatement_0 : decode cX8_ifStatement 0 = .ok (.new 143, 3) := by decide +kernel
theorem dX8_ifStatement_3 : decode cX8_ifStatement 3 = .ok (.dup, 1) := by decide +kernel
theorem dX8_ifStatement_4 : decode cX8_ifStatement 4 = .ok (.bipush 25, 2) := by decide +kernel
theorem dX8_ifStatement_6 : decode cX8_ifStatement 6 = .ok (.aload_n 0, 1) := by decide +kernel
theorem dX8_ifStatement_7 : decode cX8_ifStatement 7 = .ok (.getfield 17, 3) := by decide +kernel
theorem dX8_ifStatement_10 : decode cX8_ifStatement 10 = .ok (.aload_n 0, 1) := by decide +kernel
theorem dX8_ifStatement_11 : decode cX8_ifStatement 11 = .ok (.getfield 17, 3) := by decide +kernel
theorem dX8_ifStatement_14 : decode cX8_ifStatement 14 = .ok (.invokespecial 145, 3) := by decide +kernel
theorem dX8_ifStatement_17 : decode cX8_ifStatement 17 = .ok (.astore_n 1, 1) := by decide +kernel
theorem dX8_ifStatement_18 : decode cX8_ifStatement 18 = .ok (.aload_n 0, 1) := by decide +kernel
theorem dX8_ifStatement_19 : decode cX8_ifStatement 19 = .ok (.dup, 1) := by decide +kernel
theorem dX8_ifStatement_20 : decode cX8_ifStatement 20 = .ok (.getfield 17, 3) := by decide +kernel
theorem dX8_ifStatement_23 : decode cX8_ifStatement 23 = .ok (.iconst 1, 1) := by decide +kernel
theorem dX8_ifStatement_24 : decode cX8_ifStatement 24 = .ok (.iadd, 1) := by decide +kernel
theorem dX8_ifStatement_25 : decode cX8_ifStatement 25 = .ok (.putfield 17, 3) := by decide +kernel
theorem dX8_ifStatement_28 : decode cX8_ifStatement 28 = .ok (.aload_n 1, 1) := by decide +kernel
theorem dX8_ifStatement_29 : decode cX8_ifStatement 29 = .ok (.aload_n 0, 1) := by decide +kernel
theorem dX8_ifStatement_30 : decode cX8_ifStatement 30 = .ok (.invokevirtual 233, 3) := by decide +kernel
theorem dX8_ifStatement_33 : decode cX8_ifStatement 33 = .ok (.putfield 165, 3) := by decide +kernel
theorem dX8_ifStatement_36 : decode cX8_ifStatement 36 = .ok (.aload_n 1, 1) := by decide +kernel
theorem dX8_ifStatement_37 : decode cX8_ifStatement 37 = .ok (.aload_n 0, 1) := by decide +kernel
theorem dX8_ifStatement_38 : decode cX8_ifStatement 38 = .ok (.iconst 0, 1) := by decide +kernel
theorem dX8_ifStatement_39 : decode cX8_ifStatement 39 = .ok (.invokevirtual 161, 3) := by decide +kernel
theorem dX8_ifStatement_42 : decode cX8_ifStatement 42 = .ok (.putfield 230, 3) := by decide +kernel
theorem dX8_ifStatement_45 : decode cX8_ifStatement 45 = .ok (.aload_n 0, 1) := by decide +kernel
theorem dX8_ifStatement_46 : decode cX8_ifStatement 46 = .ok (.bipush 6, 2) := by decide +kernel
theorem dX8_ifStatement_48 : decode cX8_ifStatement 48 = .ok (.invokevirtual 80, 3) := by decide +kernel
theorem dX8_ifStatement_51 : decode cX8_ifStatement 51 = .ok (.ifCond .eq 12, 3) := by decide +kernel
theorem dX8_ifStatement_63 : decode cX8_ifStatement 63 = .ok (.aload_n 1, 1) := by decide +kernel
theorem dX8_ifStatement_64 : decode cX8_ifStatement 64 = .ok (.areturn, 1) := by decide +kernel
theorem dX8_ifStatement_54 : decode cX8_ifStatement 54 = .ok (.aload_n 1, 1) := by decide +kernel
theorem dX8_ifStatement_55 : decode cX8_ifStatement 55 = .ok (.aload_n 0, 1) := by decide +kernel
theorem dX8_ifStatement_56 : decode cX8_ifStatement 56 = .ok (.iconst 0, 1) := by decide +kernel
theorem dX8_ifStatement_57 : decode cX8_ifStatement 57 = .ok (.invokevirtual 161, 3) := by decide +kernel
theorem dX8_ifStatement_60 : decode cX8_ifStatement 60 = .ok (.putfield 236, 3) := by decide +kernel
theorem hV_X8_condition : yX8_condition.cls = RX8 ∧ yX8_condition.cls ≠ "java/lang/invoke/MethodHandle" ∧ yX8_condition.cls ≠ "java/lang/invoke/VarHandle" ∧ (parseMethodDescriptor yX8_condition.desc).map (fun d => d.parameters.length) = some 0 := by decide +kernel
set_option maxHeartbeats 40000000 in
set_option maxRecDepth 100000 in
theorem P_if (l : Launch) (G : pT) (h0 : Nat) (a : Nat → Nat) (F : Nat → Int32) (R : Nat → Value) (Z : Int64) (B : Nat → Nat → Int32) (J : Nat → Nat → Int64) (K : PK) (w : va_W) (n : Nat) (at9 : Nat) (sz : Nat) (dp : Nat) (sg : Nat) (O : Nat) (g : Nat → Nat → Nat) (hsz : sz ≤ 5000) (hat : at9 ≤ sz) (hdp : dp + n = 20) (hsg : sg ≤ 60) (hwn : WN K g) (how : ∀ o : Nat, O = o + 1 → K.1 o = 1 ∧ g 0 o = 0 ∧ ¬ K.2.1 0 o = 32) (hle : at9 + 1 ≤ sz) (ist : PSt l G n) (hO : OKP G h0 a (upd (upd (upd (upd F 2 (nI sz)) 9 (nI at9)) 10 (nI dp)) 11 (nI sg)) R Z B J K w) (hl0 : l.stackTraces = false) : PBn l G pX0 yX8_ifStatement cX8_ifStatement 2 (some (.object "JinjaTongue$Node")) ({ frames := (50 * n + 58), cells := (2 * (sz - at9) + 20), slots := (11 * (2 * (sz - at9) + 20)), locals := (1500 * n + 1650) }) [.ref (a 3)] w (fun (v : Option Value) (u : va_W × (Nat × PK × (Nat → Nat → Nat) × Nat × Nat × (Nat → Int32) × Nat)) => v = some (.ref u.2.1) ∧ (NwR K u.2.2.1 g u.2.2.2.1 u.2.1 O u.2.2.2.2.2.2.2 ((173 + 3 * (20 - dp)))) ∧ (rS u.2.2.2.2.2.2.2 = at9 ∧ rE u.2.2.2.2.2.2.2 ≤ u.2.2.2.2.1 ∧ rS u.2.2.2.2.2.2.2 ≤ rE u.2.2.2.2.2.2.2 ∧ rD u.2.2.2.2.2.2.2 ≤ 2 * (20 - dp) + 2) ∧ (at9 + 5 ≤ u.2.2.2.2.1 ∧ u.2.2.2.2.1 ≤ sz) ∧ (sg ≤ u.2.2.2.2.2.1 ∧ u.2.2.2.2.2.1 ≤ 60) ∧ (¬ u.2.2.1.2.1 0 u.2.1 = 22) ∧ (NwT (B 7) sz (B 10) u.2.2.2.2.2.2.1 K u.2.2.1 at9 u.2.2.2.2.1) ∧ (OKP G h0 a (upd (upd (upd (upd F 2 (nI sz)) 9 (nI u.2.2.2.2.1)) 10 (nI dp)) 11 (nI u.2.2.2.2.2.1)) R Z (updA B 10 u.2.2.2.2.2.2.1) J u.2.2.1 u.1)) (fun u => u.1) (fun (u : va_W × (Nat × PK × (Nat → Nat → Nat) × Nat × Nat × (Nat → Int32) × Nat)) => (2 * (u.2.2.2.2.1 - at9) - 5)) (fun (u : va_W × (Nat × PK × (Nat → Nat → Nat) × Nat × Nat × (Nat → Int32) × Nat)) => (11 * (2 * (u.2.2.2.2.1 - at9) - 5))) (fun (u : va_W × (Nat → Int32) × (Nat → Value) × (Nat → Nat → Int32)) => ThQ G h0 a (upd (upd (upd (upd F 2 (nI sz)) 9 (nI at9)) 10 (nI dp)) 11 (nI sg)) R Z B J u) (fun u => u.1) := by
  intro sz
  refine vx_ofW (cc := cX8_ifStatement) (maxL := 2) (ret := (some (.object "JinjaTongue$Node"))) (by decide) rfl ?_
  intro p e s m args below meth c s₁ B9 hml hnt hv
  obtain ⟨rfl, hsz, hP, hD0, hE, hX⟩ := hv
  have hx := B9.exec
  have hb := B9.bytes
  have hr := B9.returns
  have hts := atoms_spec (ws := Cond.code yX8_ifStatement cX8_ifStatement 2 (some (.object "JinjaTongue$Node")) :: pw) B9.pre
  have hq : ∀ w ∈ pw, w.before _ s = true := fun w h => hts w (List.mem_cons_of_mem _ h)
  have hown : s.vm.findClass RX8 = some m.cls := findClass_of_methodNamed B9.named
  have hlocks := B9.notSynchronized
  subst hsz
  have hD := hD0.self (sz := s.heap.size)
  have hA : ∀ q : Nat, s.heap.size ≤ q → va_A w s.heap.size q := fun q h => Or.inr h
  generalize va_A w s.heap.size = A at hD hE hA ⊢
  have hS : va_S A s.heap s.heap [] := va_S.rf
  have hl := lv_entry ([.ref (a 3)]) (n := 2) (Nat.le_of_ble_eq_true rfl)
  rw [lg_entry_eq]
  generalize (lg_sl ([.ref (a 3)]) ++ List.replicate (2 - (lg_sl ([.ref (a 3)])).length) Slot.unset).toArray = ls at hl ⊢
  have hl : lv_has ls 2 [(0, .ref (a 3))] := hl
  have htk0 : NwT (B 7) sz (B 10) (B 10) K K at9 at9 := NwT.nil
  have hns0 : NwS K K g g := NwS.nil hwn
  refine p_new (s9 := 1) (C := RX7) (T := TX7) (N := 11) (ci := 13) (fs := [.int 0, .int 0, .int 0, .int 0, .int 0, .int 0, .null, .null, .null, .null, .null]) hx hb hq pin_wsX70 tyX7 tyX7_ok hown (hq _ pw_870) (hq _ pw_871) (hq _ pw_872) hE hP hD hS hA hO rfl nw_X7 (by decide) (fun q => by rw [rep_1 (show (kN K q 1 0).1 q = 1 from if_pos rfl)]; unfold fsNode kN; simp only [if_true]; rfl) (by show 0 + 1 ≤ (2 * (sz - at9) + 20); omega) (by show 0 + 11 ≤ (11 * (2 * (sz - at9) + 20)); omega) dX8_ifStatement_0 (fun q1 H w hq2 hP hD hS hO => ?_)
  have hf3 : (kN K q1 1 0).1 q1 = 1 := if_pos rfl
  refine W.widen (k := 1) (n := 11) (by show 0 + 1 ≤ 1; omega) (by show 0 + 11 ≤ 11; omega) ?_
  refine lv_dup hx hb dX8_ifStatement_3 rfl ?_
  refine lv_bipush (v := 25) hx hb dX8_ifStatement_4 (by decide) ?_
  refine lv_aload_n hx hb dX8_ifStatement_6 rfl (lv_at hl 0 rfl) ?_
  refine c_get (v := .int (nI at9)) (C := RX8) (Tc := TX8) (N := 5) (ci := 5) hx hb hq pin_wsX80 hown hE hP hO 23 (sg_23 G h0 a _ _ _ _ _) rfl 2 (by decide) (hq _ pw_776) (fun _ h9 => h9) rfl dX8_ifStatement_7 ?_
  refine lv_aload_n hx hb dX8_ifStatement_10 rfl (lv_at hl 0 rfl) ?_
  refine c_get (v := .int (nI at9)) (C := RX8) (Tc := TX8) (N := 5) (ci := 5) hx hb hq pin_wsX80 hown hE hP hO 23 (sg_23 G h0 a _ _ _ _ _) rfl 2 (by decide) (hq _ pw_776) (fun _ h9 => h9) rfl dX8_ifStatement_11 ?_
  have hO : OKP G h0 a (upd (upd (upd (upd F 2 (nI sz)) 9 (nI at9)) 10 (nI dp)) 11 (nI sg)) R Z B J (kN K q1 1 0) w := hO.to rfl
  obtain ⟨qr7, hqr8⟩ := p_recv hO (by rw [hf3]; decide) (rep_1 hf3)
  refine pc_I0 (G := G) (As := [.int 25, .int (nI at9), .int (nI at9)]) (rest := [.ref q1]) hx hb hml hown hq hE hX pX0_al hP hD hS hA hl.1 (N_init l G h0 a (upd (upd (upd (upd F 2 (nI sz)) 9 (nI at9)) 10 (nI dp)) 11 (nI sg)) R Z B J (kN K q1 1 0) w q1 25 (nI at9) (nI at9) (by omega) hO) pw_874 pw_875 pw_872 pw_765 rfl hS_X7_init rfl (Nat.le_of_ble_eq_true rfl) dX8_ifStatement_14 ⟨(by show 1 + 0 ≤ (2 * (sz - at9) + 20); omega), (by show 11 + 0 ≤ (11 * (2 * (sz - at9) + 20)); omega)⟩ ⟨(by show 2 + 1 ≤ (50 * n + 58); omega), (by show 8 + (4 + 11) + 60 ≤ (1500 * n + 1650); omega)⟩ (fun v6 u4 H locs hw5 hP hD hS => ?_)
  obtain ⟨w, _⟩ := u4
  obtain ⟨hw5, hO⟩ := hw5
  obtain rfl : v6 = none := hw5
  have hf9 : (kI (kI (kI (kN K q1 1 0) 0 q1 25) 1 q1 (nI at9)) 2 q1 (nI at9)).1 q1 = 1 := hf3
  have hO : OKP G h0 a (upd (upd (upd (upd F 2 (nI sz)) 9 (nI at9)) 10 (nI dp)) 11 (nI sg)) R Z B J (kI (kI (kI (kN K q1 1 0) 0 q1 25) 1 q1 (nI at9)) 2 q1 (nI at9)) w := hO.to rfl
  refine W.widen (k := 1) (n := 11) (by show 1 + 0 ≤ 1; omega) (by show 11 + 0 ≤ 11; omega) ?_
  refine W.eq (g2 := F0 m 17 ls [.ref q1]) rfl ?_
  change OKP G h0 a (upd (upd (upd (upd F 2 (nI sz)) 9 (nI at9)) 10 (nI dp)) 11 (nI sg)) R Z B J (mkN K q1 25 (nI at9) (nI at9)) w at hO
  obtain ⟨K10, hK11⟩ : ∃ z : PK, z = (mkN K q1 25 (nI at9) (nI at9)) := ⟨_, rfl⟩
  rw [← hK11] at hO
  have htk12 : NwT (B 7) sz (B 10) (B 10) K K10 at9 at9 := by rw [hK11]; exact NwT.new (NwT.le htk0 (show _ ≤ at9 by omega)) hq2 (TkP.no (by decide))
  have hf13 : K10.1 q1 = 1 := by rw [hK11]; exact mkN_T
  have hf14 : K10.2.1 0 q1 = 25 := by rw [hK11]; exact mkN_0
  have hf15 : K10.2.1 2 q1 = (nI at9) := by rw [hK11]; exact mkN_2
  have hf16 : K10.2.2.1 0 q1 = none := by rw [hK11]; exact mkN_C
  have hf17 : K10.2.2.1 1 q1 = none := by rw [hK11]; exact mkN_C
  have hf18 : K10.2.2.1 2 q1 = none := by rw [hK11]; exact mkN_C
  have hf19 : K10.2.2.1 3 q1 = none := by rw [hK11]; exact mkN_C
  have hf20 : K10.2.2.1 4 q1 = none := by rw [hK11]; exact mkN_C
  have hns21 : NwS K K10 g (gset g q1 0 0 0) := by rw [hK11]; exact NwS.node hns0 hq2
  have hq22 : K.1 q1 = 0 := old_T hns0.2.1 hq2
  have hg23 : (gset g q1 0 0 0) 0 q1 = 0 := gset_0
  have hno24 : NoO K10 (gset g q1 0 0 0) q1 := by rw [hK11]; exact NoO.new hns0.1 hq2
  refine lv_astore_n (lv' := [(1, .ref q1), (0, .ref (a 3))]) hx hb dX8_ifStatement_17 rfl hl (by decide) rfl (fun ls hl => ?_)
  refine lv_aload_n hx hb dX8_ifStatement_18 rfl (lv_at hl 1 rfl) ?_
  refine lv_dup hx hb dX8_ifStatement_19 rfl ?_
  refine c_get (v := .int (nI at9)) (C := RX8) (Tc := TX8) (N := 5) (ci := 5) hx hb hq pin_wsX80 hown hE hP hO 23 (sg_23 G h0 a _ _ _ _ _) rfl 2 (by decide) (hq _ pw_776) (fun _ h9 => h9) rfl dX8_ifStatement_20 ?_
  refine lv_iconst (v := 1) hx hb dX8_ifStatement_23 (by decide) ?_
  refine lv_iadd hx hb dX8_ifStatement_24 ?_
  refine lv_topi (fun x25 e26 => ?_)
  obtain rfl : x25 = nI (at9 + 1) := e26.trans (nI_add (at9) (1))
  refine c_put (v := .int (nI (at9 + 1))) (ty := .int) (C := RX8) (Tc := TX8) (N := 5) (ci := 5) hx hb hq pin_wsX80 tyX8 tyX8_ok nmX8 hown hE hP hD hS hO 23 (sg_23 G h0 a _ _ _ _ _) rfl 2 (by decide) (hq _ pw_776) (fun _ h9 => h9) rfl (by decide +kernel) rfl rfl (Nat.le_of_ble_eq_true rfl) (sf_9 G h0 a _ _ _ _ _ (nI (at9 + 1))) dX8_ifStatement_25 (fun H locs w hP hD hS hO => ?_)
  refine lv_aload_n hx hb dX8_ifStatement_28 rfl (lv_at hl 0 rfl) ?_
  refine lv_aload_n hx hb dX8_ifStatement_29 rfl (lv_at hl 1 rfl) ?_
  have hO : OKP G h0 a (upd (upd (upd (upd (upd (upd (upd (upd (upd F 2 (nI sz)) 9 (nI at9)) 10 (nI dp)) 11 (nI sg)) 9 (nI (at9 + 1))) 2 (nI sz)) 9 (nI (at9 + 1))) 10 (nI dp)) 11 (nI sg)) R Z B J K10 w := hO.to rfl
  obtain ⟨_, qr30, hqr31⟩ := hO.2.1 23 _ (sg_23 G h0 a _ _ _ _ _)
  refine pn_V0 (G := G) (As := []) (rest := [.ref q1]) hx hb hml hown hq hE hX pX0_al hP hD hS hA hl.1 (P_condition l G h0 a (upd (upd (upd (upd (upd F 2 (nI sz)) 9 (nI at9)) 10 (nI dp)) 11 (nI sg)) 9 (nI (at9 + 1))) R Z B J K10 w n (at9 + 1) sz dp sg 0 (gset g q1 0 0 0) (by omega) (by omega) hdp (by omega) hns21.1 (fun o9 h9 => absurd h9 (by omega)) hO hl0) (gV pw_1022 pw_1023 pw_1024 pw_796 pw_995) hV_X8_condition qr30 5 hqr31 rfl rfl rfl (Nat.le_of_ble_eq_true rfl) dX8_ifStatement_30 ⟨(by show 1 + (2 * (sz - (at9 + 1)) + 20) ≤ (2 * (sz - at9) + 20); omega), (by show 11 + (11 * (2 * (sz - (at9 + 1)) + 20)) ≤ (11 * (2 * (sz - at9) + 20)); omega)⟩ ⟨(by show (40 * n + 42) + 1 ≤ (50 * n + 58); omega), (by show 8 + (2 + 11) + (1300 * n + 1340) ≤ (1500 * n + 1650); omega)⟩ (fun v29 u27 H locs hw28 hP hD hS => ?_) (fun ux ce9 q9 H9 locs9 hux hP9 hD9 hS9 hce hcv hcl => pb_out ux (ThQ.up (Thx.same (Thx.same (Thx.same (Thx.same (Thx.f Thx.rfl (by omega)) rfl) rfl) rfl) rfl) RhX.rfl hux) hnt hlocks hce hcv hcl hP9 hD9 hS9 (by show 1 + (2 * (sz - (at9 + 1)) + 20) ≤ (2 * (sz - at9) + 20); omega) (by show 11 + (11 * (2 * (sz - (at9 + 1)) + 20)) ≤ (11 * (2 * (sz - at9) + 20)); omega))
  obtain ⟨w, r32, K33, g34, at35, sg36, f37, k38⟩ := u27
  obtain ⟨hw28, h39, h40, h41, h42, h43, hO⟩ := hw28
  have h39 : NwR K10 K33 (gset g q1 0 0 0) g34 r32 0 k38 (5 * (20 - dp) + 6 + (sg36 - sg)) := h39
  have h40 : (at9 + 1) + 1 ≤ rS k38 ∧ rS k38 + 1 ≤ rE k38 ∧ rE k38 + 1 ≤ at35 ∧ 1 ≤ rD k38 ∧ rD k38 ≤ 9 * (20 - dp) + (sg36 - sg) + 1 := h40
  have h41 : (at9 + 1) + 3 ≤ at35 ∧ at35 ≤ sz := h41
  have h42 : sg ≤ sg36 ∧ sg36 ≤ 60 := h42
  have h43 : NwT ((B 7)) sz ((B 10)) f37 K10 K33 (at9 + 1) at35 := h43
  obtain rfl : v29 = some (.ref r32) := hw28
  have hf44 : K33.1 q1 = 1 := (((h39).2.1.1 q1 (by rw [hf13]; decide)).1).trans hf13
  have hf45 : K33.2.1 0 q1 = 25 := (((h39).2.1.1 q1 (by rw [hf13]; decide)).2.1 0).trans hf14
  have hf46 : K33.2.1 2 q1 = (nI at9) := (((h39).2.1.1 q1 (by rw [hf13]; decide)).2.1 2).trans hf15
  have hf47 : K33.2.2.1 0 q1 = none := (((h39).2.1.1 q1 (by rw [hf13]; decide)).2.2.1 0).trans hf16
  have hf48 : K33.2.2.1 1 q1 = none := (((h39).2.1.1 q1 (by rw [hf13]; decide)).2.2.1 1).trans hf17
  have hf49 : K33.2.2.1 2 q1 = none := (((h39).2.1.1 q1 (by rw [hf13]; decide)).2.2.1 2).trans hf18
  have hf50 : K33.2.2.1 3 q1 = none := (((h39).2.1.1 q1 (by rw [hf13]; decide)).2.2.1 3).trans hf19
  have hf51 : K33.2.2.1 4 q1 = none := (((h39).2.1.1 q1 (by rw [hf13]; decide)).2.2.1 4).trans hf20
  have hO : OKP G h0 a (upd (upd (upd (upd F 2 (nI sz)) 9 (nI at35)) 10 (nI dp)) 11 (nI sg36)) R Z (updA B 10 f37) J K33 w := hO.to rfl
  refine W.widen (k := (1 + (2 * (at35 - (at9 + 1)) - 5))) (n := (11 + (11 * (2 * (at35 - (at9 + 1)) - 5)))) (by show 1 + (2 * (at35 - (at9 + 1)) - 5) ≤ (1 + (2 * (at35 - (at9 + 1)) - 5)); omega) (by show 11 + (11 * (2 * (at35 - (at9 + 1)) - 5)) ≤ (11 + (11 * (2 * (at35 - (at9 + 1)) - 5))); omega) ?_
  refine W.eq (g2 := F0 m 33 ls [.ref r32, .ref q1]) rfl ?_
  have htk52 : NwT (B 7) sz (B 10) f37 K K33 at9 at35 := (NwT.call htk12 h43 (by omega))
  have hns53 : NwS K K33 g g34 := NwS.call hns21 h39 (fun o9 h9 => absurd h9 (by omega))
  have hrk54 : g34 2 r32 = k38 := h39.2.2.1.2.2.2.2.2.1
  have hf55 : K33.1 r32 = 1 := h39.2.2.1.2.1
  have hg56 : g34 0 q1 = 0 := (h39.2.1.2 q1 (by rw [hf13]; decide) 0).trans hg23
  have hno57 : NoO K33 g34 q1 := NoO.call hno24 h39 hf13 (by omega)
  have hgy58 := h39.2.2.1
  have hgy58a := hgy58.2.2.1
  have hgy58b := hgy58.2.2.2.1
  refine p_put (v := .ref r32) (ty := (.object "JinjaTongue$Node")) (C := RX7) (Tc := TX7) (N := 11) (ci := 13) (K' := (kC K33 0 q1 (some r32))) hx hb hq pin_wsX70 tyX7 tyX7_ok nmX7 hown hE hP hD hS hO (by rw [hf44]; decide) (rep_1 hf44) rfl 6 (by decide) (hq _ pw_938) (fun _ h9 => h9) rfl (by decide +kernel) rfl rfl (Nat.le_of_ble_eq_true rfl) rfl (by rw [rep_1 (show (kC K33 0 q1 (some r32)).1 q1 = 1 from hf44), pc_0] <;> rfl) (fun p9 hp9 => rep_kC hp9) dX8_ifStatement_33 (fun H locs w hP hD hS hO => ?_)
  obtain ⟨K59, hK60⟩ : ∃ z : PK, z = (kC K33 0 q1 (some r32)) := ⟨_, rfl⟩
  rw [← hK60] at hO
  have hf61 : K59.1 q1 = 1 := (by rw [hK60]; exact hf44)
  have hf62 : K59.2.1 0 q1 = 25 := (by rw [hK60]; exact hf45)
  have hf63 : K59.2.1 2 q1 = (nI at9) := (by rw [hK60]; exact hf46)
  have hf64 : K59.2.2.1 1 q1 = none := (by rw [hK60]; exact (kC_of (by decide)).trans hf48)
  have hf65 : K59.2.2.1 2 q1 = none := (by rw [hK60]; exact (kC_of (by decide)).trans hf49)
  have hf66 : K59.2.2.1 3 q1 = none := (by rw [hK60]; exact (kC_of (by decide)).trans hf50)
  have hf67 : K59.2.2.1 4 q1 = none := (by rw [hK60]; exact (kC_of (by decide)).trans hf51)
  have hf68 : K59.1 r32 = 1 := (by rw [hK60]; exact hf55)
  have hf69 : K59.2.2.1 0 q1 = some r32 := by rw [hK60]; exact kC_eq
  have htk70 : NwT (B 7) sz (B 10) f37 K K59 at9 at35 := by rw [hK60]; exact NwT.put htk52
  have hns71 : NwS K K59 g g34 := by rw [hK60]; exact NwS.put hns53 hq22 hg56
  have hno72 : NoO K59 g34 q1 := by rw [hK60]; exact hno57
  refine lv_aload_n hx hb dX8_ifStatement_36 rfl (lv_at hl 0 rfl) ?_
  refine lv_aload_n hx hb dX8_ifStatement_37 rfl (lv_at hl 1 rfl) ?_
  refine lv_iconst (v := 0) hx hb dX8_ifStatement_38 (by decide) ?_
  have hO : OKP G h0 a (upd (upd (upd (upd (upd (upd (upd (upd (upd (upd F 2 (nI sz)) 9 (nI at9)) 10 (nI dp)) 11 (nI sg)) 9 (nI at35)) 11 (nI sg36)) 2 (nI sz)) 9 (nI at35)) 10 (nI dp)) 11 (nI sg36)) R Z (updA B 10 f37) J K59 w := hO.to rfl
  obtain ⟨_, qr76, hqr77⟩ := hO.2.1 23 _ (sg_23 G h0 a _ _ _ _ _)
  refine pn_V0 (G := G) (As := [.int (nI 0)]) (rest := [.ref q1]) hx hb hml hown hq hE hX pX0_al hP hD hS hA hl.1 (ist h0 a (upd (upd (upd (upd (upd (upd F 2 (nI sz)) 9 (nI at9)) 10 (nI dp)) 11 (nI sg)) 9 (nI at35)) 11 (nI sg36)) R Z (updA B 10 f37) J K59 w 0 at35 sz dp sg36 0 g34 (by omega) (by omega) hdp (by omega) hns71.1 (fun o9 h9 => absurd h9 (by omega)) (by omega) hO hl0) (gV pw_1003 pw_1004 pw_1005 pw_796 pw_1025) hV_X8_statement qr76 5 hqr77 rfl rfl rfl (Nat.le_of_ble_eq_true rfl) dX8_ifStatement_39 ⟨(by show (1 + (2 * (at35 - (at9 + 1)) - 5)) + (2 * (sz - at35) + 20) ≤ (2 * (sz - at9) + 20); omega), (by show (11 + (11 * (2 * (at35 - (at9 + 1)) - 5))) + (11 * (2 * (sz - at35) + 20)) ≤ (11 * (2 * (sz - at9) + 20)); omega)⟩ ⟨(by show (50 * n + 50) + 1 ≤ (50 * n + 58); omega), (by show 8 + (5 + 11) + (1500 * n + 1500) ≤ (1500 * n + 1650); omega)⟩ (fun v75 u73 H locs hw74 hP hD hS => ?_) (fun ux ce9 q9 H9 locs9 hux hP9 hD9 hS9 hce hcv hcl => pb_out ux (ThQ.up (Thx.same (Thx.same (Thx.same (Thx.same (Thx.b (Thx.f (Thx.f Thx.rfl (by omega)) (by omega)) (by omega) (by decide)) rfl) rfl) rfl) rfl) RhX.rfl hux) hnt hlocks hce hcv hcl hP9 hD9 hS9 (by show (1 + (2 * (at35 - (at9 + 1)) - 5)) + (2 * (sz - at35) + 20) ≤ (2 * (sz - at9) + 20); omega) (by show (11 + (11 * (2 * (at35 - (at9 + 1)) - 5))) + (11 * (2 * (sz - at35) + 20)) ≤ (11 * (2 * (sz - at9) + 20)); omega))
  obtain ⟨w, r78, K79, g80, at81, sg82, f83, k84⟩ := u73
  obtain ⟨hw74, h85, h86, h87, h88, h89, h90, hO⟩ := hw74
  have h85 : NwR K59 K79 g34 g80 r78 0 k84 ((170 + 3 * (20 - dp))) := h85
  have h86 : rS k84 = at35 ∧ rE k84 ≤ at81 ∧ rS k84 ≤ rE k84 ∧ rD k84 ≤ 2 * (20 - dp) := h86
  have h87 : at35 + 1 ≤ at81 ∧ at81 ≤ sz := h87
  have h88 : sg36 ≤ sg82 ∧ sg82 ≤ 60 := h88
  have h89 : 0 = 0 → ¬ K79.2.1 0 r78 = 22 := h89
  have h90 : NwT ((B 7)) sz (f37) f83 K59 K79 at35 at81 := h90
  obtain rfl : v75 = some (.ref r78) := hw74
  have hf91 : K79.1 q1 = 1 := (((h85).2.1.1 q1 (by rw [hf61]; decide)).1).trans hf61
  have hf92 : K79.2.1 0 q1 = 25 := (((h85).2.1.1 q1 (by rw [hf61]; decide)).2.1 0).trans hf62
  have hf93 : K79.2.1 2 q1 = (nI at9) := (((h85).2.1.1 q1 (by rw [hf61]; decide)).2.1 2).trans hf63
  have hf94 : K79.2.2.1 1 q1 = none := (((h85).2.1.1 q1 (by rw [hf61]; decide)).2.2.1 1).trans hf64
  have hf95 : K79.2.2.1 2 q1 = none := (((h85).2.1.1 q1 (by rw [hf61]; decide)).2.2.1 2).trans hf65
  have hf96 : K79.2.2.1 3 q1 = none := (((h85).2.1.1 q1 (by rw [hf61]; decide)).2.2.1 3).trans hf66
  have hf97 : K79.2.2.1 4 q1 = none := (((h85).2.1.1 q1 (by rw [hf61]; decide)).2.2.1 4).trans hf67
  have hf98 : K79.1 r32 = 1 := (((h85).2.1.1 r32 (by rw [hf68]; decide)).1).trans hf68
  have hf99 : K79.2.2.1 0 q1 = some r32 := (((h85).2.1.1 q1 (by rw [hf61]; decide)).2.2.1 0).trans hf69
  have hO : OKP G h0 a (upd (upd (upd (upd F 2 (nI sz)) 9 (nI at81)) 10 (nI dp)) 11 (nI sg82)) R Z (updA B 10 f83) J K79 w := hO.to rfl
  refine W.widen (k := ((1 + (2 * (at35 - (at9 + 1)) - 5)) + (2 * (at81 - at35) - 1))) (n := ((11 + (11 * (2 * (at35 - (at9 + 1)) - 5))) + (11 * (2 * (at81 - at35) - 1)))) (by show (1 + (2 * (at35 - (at9 + 1)) - 5)) + (2 * (at81 - at35) - 1) ≤ ((1 + (2 * (at35 - (at9 + 1)) - 5)) + (2 * (at81 - at35) - 1)); omega) (by show (11 + (11 * (2 * (at35 - (at9 + 1)) - 5))) + (11 * (2 * (at81 - at35) - 1)) ≤ ((11 + (11 * (2 * (at35 - (at9 + 1)) - 5))) + (11 * (2 * (at81 - at35) - 1))); omega) ?_
  refine W.eq (g2 := F0 m 42 ls [.ref r78, .ref q1]) rfl ?_
  have htk100 : NwT (B 7) sz (B 10) f83 K K79 at9 at81 := (NwT.call htk70 h90 (by omega))
  have hns101 : NwS K K79 g g80 := NwS.call hns71 h85 (fun o9 h9 => absurd h9 (by omega))
  have hrk102 : g80 2 r32 = k38 := (h85.2.1.2 r32 (by rw [hf68]; decide) 2).trans hrk54
  have hrk103 : g80 2 r78 = k84 := h85.2.2.1.2.2.2.2.2.1
  have hf104 : K79.1 r78 = 1 := h85.2.2.1.2.1
  have hg105 : g80 0 q1 = 0 := (h85.2.1.2 q1 (by rw [hf61]; decide) 0).trans hg56
  have hno106 : NoO K79 g80 q1 := NoO.call hno72 h85 hf61 (by omega)
  have hgz107 : g80 0 r32 = g34 0 r32 := h85.2.1.2 r32 (by rw [hf68]; decide) 0
  have hgy108 := h85.2.2.1
  have hgy108a := hgy108.2.2.1
  have hgy108b := hgy108.2.2.2.1
  obtain ⟨kd109, hkd110⟩ : ∃ z : Int32, K79.2.1 0 r78 = z := ⟨_, rfl⟩
  have hn2111 : ¬ kd109 = 22 := by rw [← hkd110]; exact h89 rfl
  refine p_put (v := .ref r78) (ty := (.object "JinjaTongue$Node")) (C := RX7) (Tc := TX7) (N := 11) (ci := 13) (K' := (kC K79 1 q1 (some r78))) hx hb hq pin_wsX70 tyX7 tyX7_ok nmX7 hown hE hP hD hS hO (by rw [hf91]; decide) (rep_1 hf91) rfl 7 (by decide) (hq _ pw_910) (fun _ h9 => h9) rfl (by decide +kernel) rfl rfl (Nat.le_of_ble_eq_true rfl) rfl (by rw [rep_1 (show (kC K79 1 q1 (some r78)).1 q1 = 1 from hf91), pc_1] <;> rfl) (fun p9 hp9 => rep_kC hp9) dX8_ifStatement_42 (fun H locs w hP hD hS hO => ?_)
  obtain ⟨K112, hK113⟩ : ∃ z : PK, z = (kC K79 1 q1 (some r78)) := ⟨_, rfl⟩
  rw [← hK113] at hO
  have hf114 : K112.1 q1 = 1 := (by rw [hK113]; exact hf91)
  have hf115 : K112.2.1 0 q1 = 25 := (by rw [hK113]; exact hf92)
  have hf116 : K112.2.1 2 q1 = (nI at9) := (by rw [hK113]; exact hf93)
  have hf117 : K112.2.2.1 2 q1 = none := (by rw [hK113]; exact (kC_of (by decide)).trans hf95)
  have hf118 : K112.2.2.1 3 q1 = none := (by rw [hK113]; exact (kC_of (by decide)).trans hf96)
  have hf119 : K112.2.2.1 4 q1 = none := (by rw [hK113]; exact (kC_of (by decide)).trans hf97)
  have hf120 : K112.1 r32 = 1 := (by rw [hK113]; exact hf98)
  have hf121 : K112.2.2.1 0 q1 = some r32 := (by rw [hK113]; exact (kC_of (by decide)).trans hf99)
  have hf122 : K112.1 r78 = 1 := (by rw [hK113]; exact hf104)
  have hf123 : K112.2.1 0 r78 = kd109 := (by rw [hK113]; exact hkd110)
  have hf124 : K112.2.2.1 1 q1 = some r78 := by rw [hK113]; exact kC_eq
  have htk125 : NwT (B 7) sz (B 10) f83 K K112 at9 at81 := by rw [hK113]; exact NwT.put htk100
  have hns126 : NwS K K112 g g80 := by rw [hK113]; exact NwS.put hns101 hq22 hg105
  have hno127 : NoO K112 g80 q1 := by rw [hK113]; exact hno106
  refine lv_aload_n hx hb dX8_ifStatement_45 rfl (lv_at hl 1 rfl) ?_
  refine lv_bipush (v := 6) hx hb dX8_ifStatement_46 (by decide) ?_
  have hO : OKW G h0 a (upd (upd (upd (upd (upd (upd F 2 (nI sz)) 9 (nI at81)) 10 (nI dp)) 11 (nI sg82)) 2 (nI sz)) 9 (nI at81)) R Z (updA B 10 f83) J K112.1 (fun q99 x99 => x99 = rep G a K112 q99) w := hO.to rfl
  obtain ⟨_, qr131, hqr132⟩ := hO.2.1 23 _ (sg_23 G h0 a _ _ _ _ _)
  refine pc_V0 (G := G) (As := [.int 6]) (rest := []) hx hb hml hown hq hE hX pX0_al hP hD hS hA hl.1 (P_takeIf l G h0 a (upd (upd (upd (upd F 2 (nI sz)) 9 (nI at81)) 10 (nI dp)) 11 (nI sg82)) R Z (updA B 10 f83) J K112.1 (fun q99 x99 => x99 = rep G a K112 q99) w 6 at81 sz (by omega) (by omega) (by decide) hO) (gV pw_797 pw_798 pw_799 pw_796 pw_789) hV_X8_takeIf qr131 5 hqr132 rfl rfl rfl (Nat.le_of_ble_eq_true rfl) dX8_ifStatement_48 ⟨(by show ((1 + (2 * (at35 - (at9 + 1)) - 5)) + (2 * (at81 - at35) - 1)) + 0 ≤ (2 * (sz - at9) + 20); omega), (by show ((11 + (11 * (2 * (at35 - (at9 + 1)) - 5))) + (11 * (2 * (at81 - at35) - 1))) + 0 ≤ (11 * (2 * (sz - at9) + 20)); omega)⟩ ⟨(by show 3 + 1 ≤ (50 * n + 58); omega), (by show 8 + (2 + 11) + 81 ≤ (1500 * n + 1650); omega)⟩ (fun v130 u128 H locs hw129 hP hD hS => ?_)
  obtain ⟨w, r133⟩ := u128
  obtain ⟨hw129, h134, h135, h136, hO⟩ := hw129
  have h134 : r133 ≤ 1 := h134
  have h135 : at81 + r133 ≤ sz := h135
  have h136 : SeQ ((B 7)) sz at81 6 r133 := h136
  obtain rfl : v130 = some (.int (nI r133)) := hw129
  have hO : OKP G h0 a (upd (upd (upd (upd F 2 (nI sz)) 9 (nI (at81 + r133))) 10 (nI dp)) 11 (nI sg82)) R Z (updA B 10 f83) J K112 w := hO.to rfl
  refine W.widen (k := ((1 + (2 * (at35 - (at9 + 1)) - 5)) + (2 * (at81 - at35) - 1))) (n := ((11 + (11 * (2 * (at35 - (at9 + 1)) - 5))) + (11 * (2 * (at81 - at35) - 1)))) (by show ((1 + (2 * (at35 - (at9 + 1)) - 5)) + (2 * (at81 - at35) - 1)) + 0 ≤ ((1 + (2 * (at35 - (at9 + 1)) - 5)) + (2 * (at81 - at35) - 1)); omega) (by show ((11 + (11 * (2 * (at35 - (at9 + 1)) - 5))) + (11 * (2 * (at81 - at35) - 1))) + 0 ≤ ((11 + (11 * (2 * (at35 - (at9 + 1)) - 5))) + (11 * (2 * (at81 - at35) - 1))); omega) ?_
  refine W.eq (g2 := F0 m 51 ls [.int (nI r133)]) rfl ?_
  refine lv_if_eq (tgt := 63) hx hb dX8_ifStatement_51 (by decide) (fun c137 => ?_) (fun c137 => ?_)
  · have n138 : r133 = 0 := (nI_eq (a := r133) (b := 0) (by omega) (by omega)).mp c137
    refine lv_aload_n hx hb dX8_ifStatement_63 rfl (lv_at hl 0 rfl) ?_
    refine W_size (fun hz1 hz2 => ?_)
    refine vx_ret ?_
    obtain ⟨k9, k9I, hkS, hkE, hkM, hkN, hkX, hkD⟩ := rk_ex (s := at9) (e := (at81 + r133)) (m := (rS k84)) (n := (rE k84)) (x := (rE k84)) (d := (2 * (20 - dp) + 2)) (by omega)
    have hkid : ∀ f9 y9 : Nat, f9 ≤ 3 → K112.2.2.1 f9 q1 = some y9 → K112.1 y9 = 1 ∧ 1 ≤ g80 0 y9 ∧ g80 0 y9 < (173 + 3 * (20 - dp)) := by
      intro f9 y9 hf9 hy9
      rcases (show f9 = 0 ∨ f9 = 1 ∨ f9 = 2 ∨ f9 = 3 by omega) with rfl | rfl | rfl | rfl
      · rw [hf121] at hy9; cases hy9; exact ⟨hf120, (by omega), by omega⟩
      · rw [hf124] at hy9; cases hy9; exact ⟨hf122, (by omega), by omega⟩
      · rw [hf117] at hy9; cases hy9
      · rw [hf118] at hy9; cases hy9
    have hkc139 : ∀ f9 y9 : Nat, f9 ≤ 3 → K112.2.2.1 f9 q1 = some y9 → Kch (K112.2.1 0 q1) f9 (K112.2.1 0 y9) k9 (g80 2 y9) := by
      intro f9 y9 hf9 hy9
      rcases (show f9 = 0 ∨ f9 = 1 ∨ f9 = 2 ∨ f9 = 3 by omega) with rfl | rfl | rfl | rfl
      · rw [hf121] at hy9; cases hy9; rw [hrk102]; rw [hf115] <;> exact ⟨(fun z => absurd z (by decide)), (fun z => absurd z (by decide)), (fun z => absurd z (by decide)), (fun z => absurd z (by decide)), (fun z => absurd z (by decide)), (fun z => absurd z (by decide)), (fun z => absurd z (by decide)), (fun z => absurd z (by decide)), (fun z => absurd z (by decide)), (fun z => absurd z (by decide)), (fun z => absurd z (by decide)), (fun z => absurd z (by decide)), (fun z => absurd z (by decide)), (fun z => absurd z (by decide)), (fun _ _ => (by omega)), (fun _ z => absurd z (by decide)), (fun _ z => absurd z (by decide)), (fun z => absurd z (by decide)), (fun z => absurd z (by decide)), (fun z => absurd z (by decide)), (fun z => absurd z (by decide)), (fun z => absurd z (by decide)), (fun z => absurd z (by decide)), (fun z => absurd z (by decide))⟩
      · rw [hf124] at hy9; cases hy9; rw [hrk103]; rw [hf115] <;> exact ⟨(fun z => absurd z (by decide)), (fun z => absurd z (by decide)), (fun z => absurd z (by decide)), (fun z => absurd z (by decide)), (fun z => absurd z (by decide)), (fun z => absurd z (by decide)), (fun z => absurd z (by decide)), (fun z => absurd z (by decide)), (fun z => absurd z (by decide)), (fun z => absurd z (by decide)), (fun z => absurd z (by decide)), (fun z => absurd z (by decide)), (fun z => absurd z (by decide)), (fun z => absurd z (by decide)), (fun _ z => absurd z (by decide)), (fun _ _ => ⟨(by rw [hf123]; exact hn2111), (by omega)⟩), (fun _ z => absurd z (by decide)), (fun z => absurd z (by decide)), (fun z => absurd z (by decide)), (fun z => absurd z (by decide)), (fun z => absurd z (by decide)), (fun z => absurd z (by decide)), (fun z => absurd z (by decide)), (fun z => absurd z (by decide))⟩
      · rw [hf117] at hy9; cases hy9
      · rw [hf118] at hy9; cases hy9
    have hdn := NwS.done1I (q := q1) (L := (173 + 3 * (20 - dp))) (O := O) (k := k9) hns126 hq22 hf114 hg105 (by omega) ⟨k9I, (by rw [hf115] <;> exact ⟨(fun z => absurd z (by decide)), (fun z => absurd z (by decide)), (fun z => absurd z (by decide))⟩)⟩ (by rw [hf115]; exact ⟨(fun z => absurd z (by decide)), (fun _ => ⟨(by show ¬ K112.2.2.1 0 q1 = none; rw [hf121]; intro z; cases z), (by show ¬ K112.2.2.1 1 q1 = none; rw [hf124]; intro z; cases z)⟩), (fun z => absurd z (by decide)), (fun z => absurd z (by decide)), (fun z => absurd z (by decide))⟩) (fun f9 z => by rw [hf115] at z; rcases z with ⟨z, _⟩ | ⟨z | z | z, _⟩ <;> exact absurd z (by decide)) hkid hf119 hno127 hkc139 how
    have hz140 : NwR K K112 g (gset g80 q1 (173 + 3 * (20 - dp)) O k9) q1 O k9 ((173 + 3 * (20 - dp))) := hdn
    have hz141 : rS k9 = at9 ∧ rE k9 ≤ (at81 + r133) ∧ rS k9 ≤ rE k9 ∧ rD k9 ≤ 2 * (20 - dp) + 2 := (by omega)
    have hz142 : at9 + 5 ≤ (at81 + r133) ∧ (at81 + r133) ≤ sz := (by omega)
    have hz143 : sg ≤ sg82 ∧ sg82 ≤ 60 := (by omega)
    have hz144 : ¬ K112.2.1 0 q1 = 22 := (by rw [hf115]; decide)
    have hz145 : NwT (B 7) sz (B 10) f83 K K112 at9 (at81 + r133) := (NwT.le htk125 (by omega))
    have hO : OKP G h0 a (upd (upd (upd (upd F 2 (nI sz)) 9 (nI (at81 + r133))) 10 (nI dp)) 11 (nI sg82)) R Z (updA B 10 f83) J K112 w := hO.to rfl
    refine W.widen (k := (2 * (sz - at9) + 20)) (n := (11 * (2 * (sz - at9) + 20))) (by omega) (by omega) ?_
    have hzz1 : H.size ≤ s.heap.size + ((2 * ((at81 + r133) - at9) - 5)) := (by have z : ((1 + (2 * (at35 - (at9 + 1)) - 5)) + (2 * (at81 - at35) - 1)) ≤ (2 * ((at81 + r133) - at9) - 5) := (by omega); omega)
    have hzz2 : hSl H ≤ hSl s.heap + ((11 * (2 * ((at81 + r133) - at9) - 5))) := (by have z : ((11 + (11 * (2 * (at35 - (at9 + 1)) - 5))) + (11 * (2 * (at81 - at35) - 1))) ≤ (11 * (2 * ((at81 + r133) - at9) - 5)) := (by omega); omega)
    exact W.aret (v := .ref q1) hx hb hr (Or.inl ⟨_, rfl⟩) (Or.inr ⟨_, rfl⟩) (fun t99 ht99 hW99 => ⟨⟨_, (w, (q1, K112, (gset g80 q1 (173 + 3 * (20 - dp)) O k9), (at81 + r133), sg82, f83, k9)), rfl, ⟨rfl, hz140, hz141, hz142, hz143, hz144, hz145, hO⟩, by rw [ht99]; exact hP, hD, by rw [ht99]; exact hzz1, by rw [ht99]; exact hzz2⟩, hS.F ht99⟩) hS.2.2 dX8_ifStatement_64
  · have n146 : ¬ (r133 = 0) := fun h9 => c137 ((nI_eq (a := r133) (b := 0) (by omega) (by omega)).mpr h9)
    refine lv_aload_n hx hb dX8_ifStatement_54 rfl (lv_at hl 0 rfl) ?_
    refine lv_aload_n hx hb dX8_ifStatement_55 rfl (lv_at hl 1 rfl) ?_
    refine lv_iconst (v := 0) hx hb dX8_ifStatement_56 (by decide) ?_
    have hO : OKP G h0 a (upd (upd (upd (upd (upd (upd (upd (upd (upd (upd F 2 (nI sz)) 9 (nI at9)) 10 (nI dp)) 11 (nI sg)) 9 (nI (at81 + r133))) 11 (nI sg82)) 2 (nI sz)) 9 (nI (at81 + r133))) 10 (nI dp)) 11 (nI sg82)) R Z (updA B 10 f83) J K112 w := hO.to rfl
    obtain ⟨_, qr150, hqr151⟩ := hO.2.1 23 _ (sg_23 G h0 a _ _ _ _ _)
    refine pn_V0 (G := G) (As := [.int (nI 0)]) (rest := [.ref q1]) hx hb hml hown hq hE hX pX0_al hP hD hS hA hl.1 (ist h0 a (upd (upd (upd (upd (upd (upd F 2 (nI sz)) 9 (nI at9)) 10 (nI dp)) 11 (nI sg)) 9 (nI (at81 + r133))) 11 (nI sg82)) R Z (updA B 10 f83) J K112 w 0 (at81 + r133) sz dp sg82 0 g80 (by omega) (by omega) hdp (by omega) hns126.1 (fun o9 h9 => absurd h9 (by omega)) (by omega) hO hl0) (gV pw_1003 pw_1004 pw_1005 pw_796 pw_1025) hV_X8_statement qr150 5 hqr151 rfl rfl rfl (Nat.le_of_ble_eq_true rfl) dX8_ifStatement_57 ⟨(by show ((1 + (2 * (at35 - (at9 + 1)) - 5)) + (2 * (at81 - at35) - 1)) + (2 * (sz - (at81 + r133)) + 20) ≤ (2 * (sz - at9) + 20); omega), (by show ((11 + (11 * (2 * (at35 - (at9 + 1)) - 5))) + (11 * (2 * (at81 - at35) - 1))) + (11 * (2 * (sz - (at81 + r133)) + 20)) ≤ (11 * (2 * (sz - at9) + 20)); omega)⟩ ⟨(by show (50 * n + 50) + 1 ≤ (50 * n + 58); omega), (by show 8 + (5 + 11) + (1500 * n + 1500) ≤ (1500 * n + 1650); omega)⟩ (fun v149 u147 H locs hw148 hP hD hS => ?_) (fun ux ce9 q9 H9 locs9 hux hP9 hD9 hS9 hce hcv hcl => pb_out ux (ThQ.up (Thx.same (Thx.same (Thx.same (Thx.same (Thx.b (Thx.f (Thx.f Thx.rfl (by omega)) (by omega)) (by omega) (by decide)) rfl) rfl) rfl) rfl) RhX.rfl hux) hnt hlocks hce hcv hcl hP9 hD9 hS9 (by show ((1 + (2 * (at35 - (at9 + 1)) - 5)) + (2 * (at81 - at35) - 1)) + (2 * (sz - (at81 + r133)) + 20) ≤ (2 * (sz - at9) + 20); omega) (by show ((11 + (11 * (2 * (at35 - (at9 + 1)) - 5))) + (11 * (2 * (at81 - at35) - 1))) + (11 * (2 * (sz - (at81 + r133)) + 20)) ≤ (11 * (2 * (sz - at9) + 20)); omega))
    obtain ⟨w, r152, K153, g154, at155, sg156, f157, k158⟩ := u147
    obtain ⟨hw148, h159, h160, h161, h162, h163, h164, hO⟩ := hw148
    have h159 : NwR K112 K153 g80 g154 r152 0 k158 ((170 + 3 * (20 - dp))) := h159
    have h160 : rS k158 = (at81 + r133) ∧ rE k158 ≤ at155 ∧ rS k158 ≤ rE k158 ∧ rD k158 ≤ 2 * (20 - dp) := h160
    have h161 : (at81 + r133) + 1 ≤ at155 ∧ at155 ≤ sz := h161
    have h162 : sg82 ≤ sg156 ∧ sg156 ≤ 60 := h162
    have h163 : 0 = 0 → ¬ K153.2.1 0 r152 = 22 := h163
    have h164 : NwT ((B 7)) sz (f83) f157 K112 K153 (at81 + r133) at155 := h164
    obtain rfl : v149 = some (.ref r152) := hw148
    have hf165 : K153.1 q1 = 1 := (((h159).2.1.1 q1 (by rw [hf114]; decide)).1).trans hf114
    have hf166 : K153.2.1 0 q1 = 25 := (((h159).2.1.1 q1 (by rw [hf114]; decide)).2.1 0).trans hf115
    have hf167 : K153.2.1 2 q1 = (nI at9) := (((h159).2.1.1 q1 (by rw [hf114]; decide)).2.1 2).trans hf116
    have hf168 : K153.2.2.1 2 q1 = none := (((h159).2.1.1 q1 (by rw [hf114]; decide)).2.2.1 2).trans hf117
    have hf169 : K153.2.2.1 3 q1 = none := (((h159).2.1.1 q1 (by rw [hf114]; decide)).2.2.1 3).trans hf118
    have hf170 : K153.2.2.1 4 q1 = none := (((h159).2.1.1 q1 (by rw [hf114]; decide)).2.2.1 4).trans hf119
    have hf171 : K153.1 r32 = 1 := (((h159).2.1.1 r32 (by rw [hf120]; decide)).1).trans hf120
    have hf172 : K153.2.2.1 0 q1 = some r32 := (((h159).2.1.1 q1 (by rw [hf114]; decide)).2.2.1 0).trans hf121
    have hf173 : K153.1 r78 = 1 := (((h159).2.1.1 r78 (by rw [hf122]; decide)).1).trans hf122
    have hf174 : K153.2.1 0 r78 = kd109 := (((h159).2.1.1 r78 (by rw [hf122]; decide)).2.1 0).trans hf123
    have hf175 : K153.2.2.1 1 q1 = some r78 := (((h159).2.1.1 q1 (by rw [hf114]; decide)).2.2.1 1).trans hf124
    have hO : OKP G h0 a (upd (upd (upd (upd F 2 (nI sz)) 9 (nI at155)) 10 (nI dp)) 11 (nI sg156)) R Z (updA B 10 f157) J K153 w := hO.to rfl
    refine W.widen (k := (((1 + (2 * (at35 - (at9 + 1)) - 5)) + (2 * (at81 - at35) - 1)) + (2 * (at155 - (at81 + r133)) - 1))) (n := (((11 + (11 * (2 * (at35 - (at9 + 1)) - 5))) + (11 * (2 * (at81 - at35) - 1))) + (11 * (2 * (at155 - (at81 + r133)) - 1)))) (by show ((1 + (2 * (at35 - (at9 + 1)) - 5)) + (2 * (at81 - at35) - 1)) + (2 * (at155 - (at81 + r133)) - 1) ≤ (((1 + (2 * (at35 - (at9 + 1)) - 5)) + (2 * (at81 - at35) - 1)) + (2 * (at155 - (at81 + r133)) - 1)); omega) (by show ((11 + (11 * (2 * (at35 - (at9 + 1)) - 5))) + (11 * (2 * (at81 - at35) - 1))) + (11 * (2 * (at155 - (at81 + r133)) - 1)) ≤ (((11 + (11 * (2 * (at35 - (at9 + 1)) - 5))) + (11 * (2 * (at81 - at35) - 1))) + (11 * (2 * (at155 - (at81 + r133)) - 1))); omega) ?_
    refine W.eq (g2 := F0 m 60 ls [.ref r152, .ref q1]) rfl ?_
    have htk176 : NwT (B 7) sz (B 10) f157 K K153 at9 at155 := (NwT.call htk125 h164 (by omega))
    have hns177 : NwS K K153 g g154 := NwS.call hns126 h159 (fun o9 h9 => absurd h9 (by omega))
    have hrk178 : g154 2 r32 = k38 := (h159.2.1.2 r32 (by rw [hf120]; decide) 2).trans hrk102
    have hrk179 : g154 2 r78 = k84 := (h159.2.1.2 r78 (by rw [hf122]; decide) 2).trans hrk103
    have hrk180 : g154 2 r152 = k158 := h159.2.2.1.2.2.2.2.2.1
    have hf181 : K153.1 r152 = 1 := h159.2.2.1.2.1
    have hg182 : g154 0 q1 = 0 := (h159.2.1.2 q1 (by rw [hf114]; decide) 0).trans hg105
    have hno183 : NoO K153 g154 q1 := NoO.call hno127 h159 hf114 (by omega)
    have hgz184 : g154 0 r32 = g80 0 r32 := h159.2.1.2 r32 (by rw [hf120]; decide) 0
    have hgz185 : g154 0 r78 = g80 0 r78 := h159.2.1.2 r78 (by rw [hf122]; decide) 0
    have hgy186 := h159.2.2.1
    have hgy186a := hgy186.2.2.1
    have hgy186b := hgy186.2.2.2.1
    obtain ⟨kd187, hkd188⟩ : ∃ z : Int32, K153.2.1 0 r152 = z := ⟨_, rfl⟩
    have hn2189 : ¬ kd187 = 22 := by rw [← hkd188]; exact h163 rfl
    refine p_put (v := .ref r152) (ty := (.object "JinjaTongue$Node")) (C := RX7) (Tc := TX7) (N := 11) (ci := 13) (K' := (kC K153 2 q1 (some r152))) hx hb hq pin_wsX70 tyX7 tyX7_ok nmX7 hown hE hP hD hS hO (by rw [hf165]; decide) (rep_1 hf165) rfl 8 (by decide) (hq _ pw_943) (fun _ h9 => h9) rfl (by decide +kernel) rfl rfl (Nat.le_of_ble_eq_true rfl) rfl (by rw [rep_1 (show (kC K153 2 q1 (some r152)).1 q1 = 1 from hf165), pc_2] <;> rfl) (fun p9 hp9 => rep_kC hp9) dX8_ifStatement_60 (fun H locs w hP hD hS hO => ?_)
    obtain ⟨K190, hK191⟩ : ∃ z : PK, z = (kC K153 2 q1 (some r152)) := ⟨_, rfl⟩
    rw [← hK191] at hO
    have hf192 : K190.1 q1 = 1 := (by rw [hK191]; exact hf165)
    have hf193 : K190.2.1 0 q1 = 25 := (by rw [hK191]; exact hf166)
    have hf194 : K190.2.1 2 q1 = (nI at9) := (by rw [hK191]; exact hf167)
    have hf195 : K190.2.2.1 3 q1 = none := (by rw [hK191]; exact (kC_of (by decide)).trans hf169)
    have hf196 : K190.2.2.1 4 q1 = none := (by rw [hK191]; exact (kC_of (by decide)).trans hf170)
    have hf197 : K190.1 r32 = 1 := (by rw [hK191]; exact hf171)
    have hf198 : K190.2.2.1 0 q1 = some r32 := (by rw [hK191]; exact (kC_of (by decide)).trans hf172)
    have hf199 : K190.1 r78 = 1 := (by rw [hK191]; exact hf173)
    have hf200 : K190.2.1 0 r78 = kd109 := (by rw [hK191]; exact hf174)
    have hf201 : K190.2.2.1 1 q1 = some r78 := (by rw [hK191]; exact (kC_of (by decide)).trans hf175)
    have hf202 : K190.1 r152 = 1 := (by rw [hK191]; exact hf181)
    have hf203 : K190.2.1 0 r152 = kd187 := (by rw [hK191]; exact hkd188)
    have hf204 : K190.2.2.1 2 q1 = some r152 := by rw [hK191]; exact kC_eq
    have htk205 : NwT (B 7) sz (B 10) f157 K K190 at9 at155 := by rw [hK191]; exact NwT.put htk176
    have hns206 : NwS K K190 g g154 := by rw [hK191]; exact NwS.put hns177 hq22 hg182
    have hno207 : NoO K190 g154 q1 := by rw [hK191]; exact hno183
    refine lv_aload_n hx hb dX8_ifStatement_63 rfl (lv_at hl 0 rfl) ?_
    refine W_size (fun hz1 hz2 => ?_)
    refine vx_ret ?_
    obtain ⟨k9, k9I, hkS, hkE, hkM, hkN, hkX, hkD⟩ := rk_ex (s := at9) (e := at155) (m := (rS k84)) (n := (rE k84)) (x := (rE k84)) (d := (2 * (20 - dp) + 2)) (by omega)
    have hkid : ∀ f9 y9 : Nat, f9 ≤ 3 → K190.2.2.1 f9 q1 = some y9 → K190.1 y9 = 1 ∧ 1 ≤ g154 0 y9 ∧ g154 0 y9 < (173 + 3 * (20 - dp)) := by
      intro f9 y9 hf9 hy9
      rcases (show f9 = 0 ∨ f9 = 1 ∨ f9 = 2 ∨ f9 = 3 by omega) with rfl | rfl | rfl | rfl
      · rw [hf198] at hy9; cases hy9; exact ⟨hf197, (by omega), by omega⟩
      · rw [hf201] at hy9; cases hy9; exact ⟨hf199, (by omega), by omega⟩
      · rw [hf204] at hy9; cases hy9; exact ⟨hf202, (by omega), by omega⟩
      · rw [hf195] at hy9; cases hy9
    have hkc208 : ∀ f9 y9 : Nat, f9 ≤ 3 → K190.2.2.1 f9 q1 = some y9 → Kch (K190.2.1 0 q1) f9 (K190.2.1 0 y9) k9 (g154 2 y9) := by
      intro f9 y9 hf9 hy9
      rcases (show f9 = 0 ∨ f9 = 1 ∨ f9 = 2 ∨ f9 = 3 by omega) with rfl | rfl | rfl | rfl
      · rw [hf198] at hy9; cases hy9; rw [hrk178]; rw [hf193] <;> exact ⟨(fun z => absurd z (by decide)), (fun z => absurd z (by decide)), (fun z => absurd z (by decide)), (fun z => absurd z (by decide)), (fun z => absurd z (by decide)), (fun z => absurd z (by decide)), (fun z => absurd z (by decide)), (fun z => absurd z (by decide)), (fun z => absurd z (by decide)), (fun z => absurd z (by decide)), (fun z => absurd z (by decide)), (fun z => absurd z (by decide)), (fun z => absurd z (by decide)), (fun z => absurd z (by decide)), (fun _ _ => (by omega)), (fun _ z => absurd z (by decide)), (fun _ z => absurd z (by decide)), (fun z => absurd z (by decide)), (fun z => absurd z (by decide)), (fun z => absurd z (by decide)), (fun z => absurd z (by decide)), (fun z => absurd z (by decide)), (fun z => absurd z (by decide)), (fun z => absurd z (by decide))⟩
      · rw [hf201] at hy9; cases hy9; rw [hrk179]; rw [hf193] <;> exact ⟨(fun z => absurd z (by decide)), (fun z => absurd z (by decide)), (fun z => absurd z (by decide)), (fun z => absurd z (by decide)), (fun z => absurd z (by decide)), (fun z => absurd z (by decide)), (fun z => absurd z (by decide)), (fun z => absurd z (by decide)), (fun z => absurd z (by decide)), (fun z => absurd z (by decide)), (fun z => absurd z (by decide)), (fun z => absurd z (by decide)), (fun z => absurd z (by decide)), (fun z => absurd z (by decide)), (fun _ z => absurd z (by decide)), (fun _ _ => ⟨(by rw [hf200]; exact hn2111), (by omega)⟩), (fun _ z => absurd z (by decide)), (fun z => absurd z (by decide)), (fun z => absurd z (by decide)), (fun z => absurd z (by decide)), (fun z => absurd z (by decide)), (fun z => absurd z (by decide)), (fun z => absurd z (by decide)), (fun z => absurd z (by decide))⟩
      · rw [hf204] at hy9; cases hy9; rw [hrk180]; rw [hf193] <;> exact ⟨(fun z => absurd z (by decide)), (fun z => absurd z (by decide)), (fun z => absurd z (by decide)), (fun z => absurd z (by decide)), (fun z => absurd z (by decide)), (fun z => absurd z (by decide)), (fun z => absurd z (by decide)), (fun z => absurd z (by decide)), (fun z => absurd z (by decide)), (fun z => absurd z (by decide)), (fun z => absurd z (by decide)), (fun z => absurd z (by decide)), (fun z => absurd z (by decide)), (fun z => absurd z (by decide)), (fun _ z => absurd z (by decide)), (fun _ z => absurd z (by decide)), (fun _ _ => ⟨(by rw [hf203]; exact hn2189), (by omega)⟩), (fun z => absurd z (by decide)), (fun z => absurd z (by decide)), (fun z => absurd z (by decide)), (fun z => absurd z (by decide)), (fun z => absurd z (by decide)), (fun z => absurd z (by decide)), (fun z => absurd z (by decide))⟩
      · rw [hf195] at hy9; cases hy9
    have hdn := NwS.done1I (q := q1) (L := (173 + 3 * (20 - dp))) (O := O) (k := k9) hns206 hq22 hf192 hg182 (by omega) ⟨k9I, (by rw [hf193] <;> exact ⟨(fun z => absurd z (by decide)), (fun z => absurd z (by decide)), (fun z => absurd z (by decide))⟩)⟩ (by rw [hf193]; exact ⟨(fun z => absurd z (by decide)), (fun _ => ⟨(by show ¬ K190.2.2.1 0 q1 = none; rw [hf198]; intro z; cases z), (by show ¬ K190.2.2.1 1 q1 = none; rw [hf201]; intro z; cases z)⟩), (fun z => absurd z (by decide)), (fun z => absurd z (by decide)), (fun z => absurd z (by decide))⟩) (fun f9 z => by rw [hf193] at z; rcases z with ⟨z, _⟩ | ⟨z | z | z, _⟩ <;> exact absurd z (by decide)) hkid hf196 hno207 hkc208 how
    have hz209 : NwR K K190 g (gset g154 q1 (173 + 3 * (20 - dp)) O k9) q1 O k9 ((173 + 3 * (20 - dp))) := hdn
    have hz210 : rS k9 = at9 ∧ rE k9 ≤ at155 ∧ rS k9 ≤ rE k9 ∧ rD k9 ≤ 2 * (20 - dp) + 2 := (by omega)
    have hz211 : at9 + 5 ≤ at155 ∧ at155 ≤ sz := (by omega)
    have hz212 : sg ≤ sg156 ∧ sg156 ≤ 60 := (by omega)
    have hz213 : ¬ K190.2.1 0 q1 = 22 := (by rw [hf193]; decide)
    have hz214 : NwT (B 7) sz (B 10) f157 K K190 at9 at155 := (NwT.le htk205 (by omega))
    have hO : OKP G h0 a (upd (upd (upd (upd F 2 (nI sz)) 9 (nI at155)) 10 (nI dp)) 11 (nI sg156)) R Z (updA B 10 f157) J K190 w := hO.to rfl
    refine W.widen (k := (2 * (sz - at9) + 20)) (n := (11 * (2 * (sz - at9) + 20))) (by omega) (by omega) ?_
    have hzz1 : H.size ≤ s.heap.size + ((2 * (at155 - at9) - 5)) := (by have z : (((1 + (2 * (at35 - (at9 + 1)) - 5)) + (2 * (at81 - at35) - 1)) + (2 * (at155 - (at81 + r133)) - 1)) ≤ (2 * (at155 - at9) - 5) := (by omega); omega)
    have hzz2 : hSl H ≤ hSl s.heap + ((11 * (2 * (at155 - at9) - 5))) := (by have z : (((11 + (11 * (2 * (at35 - (at9 + 1)) - 5))) + (11 * (2 * (at81 - at35) - 1))) + (11 * (2 * (at155 - (at81 + r133)) - 1))) ≤ (11 * (2 * (at155 - at9) - 5)) := (by omega); omega)
    exact W.aret (v := .ref q1) hx hb hr (Or.inl ⟨_, rfl⟩) (Or.inr ⟨_, rfl⟩) (fun t99 ht99 hW99 => ⟨⟨_, (w, (q1, K190, (gset g154 q1 (173 + 3 * (20 - dp)) O k9), at155, sg156, f157, k9)), rfl, ⟨rfl, hz209, hz210, hz211, hz212, hz213, hz214, hO⟩, by rw [ht99]; exact hP, hD, by rw [ht99]; exact hzz1, by rw [ht99]; exact hzz2⟩, hS.F ht99⟩) hS.2.2 dX8_ifStatement_64
theorem dX8_whileStatement_0 : decode cX8_whileStatement 0 = .ok (.new 143, 3) := by decide +kernel
theorem dX8_whileStatement_3 : decode cX8_whileStatement 3 = .ok (.dup, 1) := by decide +kernel
theorem dX8_whileStatement_4 : decode cX8_whileStatement 4 = .ok (.bipush 26, 2) := by decide +kernel
theorem dX8_whileStatement_6 : decode cX8_whileStatement 6 = .ok (.aload_n 0, 1) := by decide +kernel
theorem dX8_whileStatement_7 : decode cX8_whileStatement 7 = .ok (.getfield 17, 3) := by decide +kernel
theorem dX8_whileStatement_10 : decode cX8_whileStatement 10 = .ok (.aload_n 0, 1) := by decide +kernel
theorem dX8_whileStatement_11 : decode cX8_whileStatement 11 = .ok (.getfield 17, 3) := by decide +kernel
theorem dX8_whileStatement_14 : decode cX8_whileStatement 14 = .ok (.invokespecial 145, 3) := by decide +kernel
theorem dX8_whileStatement_17 : decode cX8_whileStatement 17 = .ok (.astore_n 1, 1) := by decide +kernel
theorem dX8_whileStatement_18 : decode cX8_whileStatement 18 = .ok (.aload_n 0, 1) := by decide +kernel
theorem dX8_whileStatement_19 : decode cX8_whileStatement 19 = .ok (.dup, 1) := by decide +kernel
theorem dX8_whileStatement_20 : decode cX8_whileStatement 20 = .ok (.getfield 17, 3) := by decide +kernel
theorem dX8_whileStatement_23 : decode cX8_whileStatement 23 = .ok (.iconst 1, 1) := by decide +kernel
theorem dX8_whileStatement_24 : decode cX8_whileStatement 24 = .ok (.iadd, 1) := by decide +kernel
theorem dX8_whileStatement_25 : decode cX8_whileStatement 25 = .ok (.putfield 17, 3) := by decide +kernel
theorem dX8_whileStatement_28 : decode cX8_whileStatement 28 = .ok (.aload_n 1, 1) := by decide +kernel
theorem dX8_whileStatement_29 : decode cX8_whileStatement 29 = .ok (.aload_n 0, 1) := by decide +kernel
theorem dX8_whileStatement_30 : decode cX8_whileStatement 30 = .ok (.invokevirtual 233, 3) := by decide +kernel
theorem dX8_whileStatement_33 : decode cX8_whileStatement 33 = .ok (.putfield 230, 3) := by decide +kernel
theorem dX8_whileStatement_36 : decode cX8_whileStatement 36 = .ok (.aload_n 1, 1) := by decide +kernel
theorem dX8_whileStatement_37 : decode cX8_whileStatement 37 = .ok (.aload_n 0, 1) := by decide +kernel
theorem dX8_whileStatement_38 : decode cX8_whileStatement 38 = .ok (.iconst 0, 1) := by decide +kernel
theorem dX8_whileStatement_39 : decode cX8_whileStatement 39 = .ok (.invokevirtual 161, 3) := by decide +kernel
theorem dX8_whileStatement_42 : decode cX8_whileStatement 42 = .ok (.putfield 239, 3) := by decide +kernel
theorem dX8_whileStatement_45 : decode cX8_whileStatement 45 = .ok (.aload_n 1, 1) := by decide +kernel
theorem dX8_whileStatement_46 : decode cX8_whileStatement 46 = .ok (.areturn, 1) := by decide +kernel
set_option maxHeartbeats 40000000 in
set_option maxRecDepth 100000 in
theorem P_while (l : Launch) (G : pT) (h0 : Nat) (a : Nat → Nat) (F : Nat → Int32) (R : Nat → Value) (Z : Int64) (B : Nat → Nat → Int32) (J : Nat → Nat → Int64) (K : PK) (w : va_W) (n : Nat) (at9 : Nat) (sz : Nat) (dp : Nat) (sg : Nat) (O : Nat) (g : Nat → Nat → Nat) (hsz : sz ≤ 5000) (hat : at9 ≤ sz) (hdp : dp + n = 20) (hsg : sg ≤ 60) (hwn : WN K g) (how : ∀ o : Nat, O = o + 1 → K.1 o = 1 ∧ g 0 o = 0 ∧ ¬ K.2.1 0 o = 32) (hle : at9 + 1 ≤ sz) (ist : PSt l G n) (hO : OKP G h0 a (upd (upd (upd (upd F 2 (nI sz)) 9 (nI at9)) 10 (nI dp)) 11 (nI sg)) R Z B J K w) (hl0 : l.stackTraces = false) : PBn l G pX0 yX8_whileStatement cX8_whileStatement 2 (some (.object "JinjaTongue$Node")) ({ frames := (50 * n + 58), cells := (2 * (sz - at9) + 20), slots := (11 * (2 * (sz - at9) + 20)), locals := (1500 * n + 1650) }) [.ref (a 3)] w (fun (v : Option Value) (u : va_W × (Nat × PK × (Nat → Nat → Nat) × Nat × Nat × (Nat → Int32) × Nat)) => v = some (.ref u.2.1) ∧ (NwR K u.2.2.1 g u.2.2.2.1 u.2.1 O u.2.2.2.2.2.2.2 ((173 + 3 * (20 - dp)))) ∧ (rS u.2.2.2.2.2.2.2 = at9 ∧ rE u.2.2.2.2.2.2.2 ≤ u.2.2.2.2.1 ∧ rS u.2.2.2.2.2.2.2 ≤ rE u.2.2.2.2.2.2.2 ∧ rD u.2.2.2.2.2.2.2 ≤ 2 * (20 - dp) + 2) ∧ (at9 + 5 ≤ u.2.2.2.2.1 ∧ u.2.2.2.2.1 ≤ sz) ∧ (sg ≤ u.2.2.2.2.2.1 ∧ u.2.2.2.2.2.1 ≤ 60) ∧ (¬ u.2.2.1.2.1 0 u.2.1 = 22) ∧ (NwT (B 7) sz (B 10) u.2.2.2.2.2.2.1 K u.2.2.1 at9 u.2.2.2.2.1) ∧ (OKP G h0 a (upd (upd (upd (upd F 2 (nI sz)) 9 (nI u.2.2.2.2.1)) 10 (nI dp)) 11 (nI u.2.2.2.2.2.1)) R Z (updA B 10 u.2.2.2.2.2.2.1) J u.2.2.1 u.1)) (fun u => u.1) (fun (u : va_W × (Nat × PK × (Nat → Nat → Nat) × Nat × Nat × (Nat → Int32) × Nat)) => (2 * (u.2.2.2.2.1 - at9) - 5)) (fun (u : va_W × (Nat × PK × (Nat → Nat → Nat) × Nat × Nat × (Nat → Int32) × Nat)) => (11 * (2 * (u.2.2.2.2.1 - at9) - 5))) (fun (u : va_W × (Nat → Int32) × (Nat → Value) × (Nat → Nat → Int32)) => ThQ G h0 a (upd (upd (upd (upd F 2 (nI sz)) 9 (nI at9)) 10 (nI dp)) 11 (nI sg)) R Z B J u) (fun u => u.1) := by
  intro sz
  refine vx_ofW (cc := cX8_whileStatement) (maxL := 2) (ret := (some (.object "JinjaTongue$Node"))) (by decide) rfl ?_
  intro p e s m args below meth c s₁ B9 hml hnt hv
  obtain ⟨rfl, hsz, hP, hD0, hE, hX⟩ := hv
  have hx := B9.exec
  have hb := B9.bytes
  have hr := B9.returns
  have hts := atoms_spec (ws := Cond.code yX8_whileStatement cX8_whileStatement 2 (some (.object "JinjaTongue$Node")) :: pw) B9.pre
  have hq : ∀ w ∈ pw, w.before _ s = true := fun w h => hts w (List.mem_cons_of_mem _ h)
  have hown : s.vm.findClass RX8 = some m.cls := findClass_of_methodNamed B9.named
  have hlocks := B9.notSynchronized
  subst hsz
  have hD := hD0.self (sz := s.heap.size)
  have hA : ∀ q : Nat, s.heap.size ≤ q → va_A w s.heap.size q := fun q h => Or.inr h
  generalize va_A w s.heap.size = A at hD hE hA ⊢
  have hS : va_S A s.heap s.heap [] := va_S.rf
  have hl := lv_entry ([.ref (a 3)]) (n := 2) (Nat.le_of_ble_eq_true rfl)
  rw [lg_entry_eq]
  generalize (lg_sl ([.ref (a 3)]) ++ List.replicate (2 - (lg_sl ([.ref (a 3)])).length) Slot.unset).toArray = ls at hl ⊢
  have hl : lv_has ls 2 [(0, .ref (a 3))] := hl
  have htk0 : NwT (B 7) sz (B 10) (B 10) K K at9 at9 := NwT.nil
  have hns0 : NwS K K g g := NwS.nil hwn
  refine p_new (s9 := 1) (C := RX7) (T := TX7) (N := 11) (ci := 13) (fs := [.int 0, .int 0, .int 0, .int 0, .int 0, .int 0, .null, .null, .null, .null, .null]) hx hb hq pin_wsX70 tyX7 tyX7_ok hown (hq _ pw_870) (hq _ pw_871) (hq _ pw_872) hE hP hD hS hA hO rfl nw_X7 (by decide) (fun q => by rw [rep_1 (show (kN K q 1 0).1 q = 1 from if_pos rfl)]; unfold fsNode kN; simp only [if_true]; rfl) (by show 0 + 1 ≤ (2 * (sz - at9) + 20); omega) (by show 0 + 11 ≤ (11 * (2 * (sz - at9) + 20)); omega) dX8_whileStatement_0 (fun q1 H w hq2 hP hD hS hO => ?_)
  have hf3 : (kN K q1 1 0).1 q1 = 1 := if_pos rfl
  refine W.widen (k := 1) (n := 11) (by show 0 + 1 ≤ 1; omega) (by show 0 + 11 ≤ 11; omega) ?_
  refine lv_dup hx hb dX8_whileStatement_3 rfl ?_
  refine lv_bipush (v := 26) hx hb dX8_whileStatement_4 (by decide) ?_
  refine lv_aload_n hx hb dX8_whileStatement_6 rfl (lv_at hl 0 rfl) ?_
  refine c_get (v := .int (nI at9)) (C := RX8) (Tc := TX8) (N := 5) (ci := 5) hx hb hq pin_wsX80 hown hE hP hO 23 (sg_23 G h0 a _ _ _ _ _) rfl 2 (by decide) (hq _ pw_776) (fun _ h9 => h9) rfl dX8_whileStatement_7 ?_
  refine lv_aload_n hx hb dX8_whileStatement_10 rfl (lv_at hl 0 rfl) ?_
  refine c_get (v := .int (nI at9)) (C := RX8) (Tc := TX8) (N := 5) (ci := 5) hx hb hq pin_wsX80 hown hE hP hO 23 (sg_23 G h0 a _ _ _ _ _) rfl 2 (by decide) (hq _ pw_776) (fun _ h9 => h9) rfl dX8_whileStatement_11 ?_
  have hO : OKP G h0 a (upd (upd (upd (upd F 2 (nI sz)) 9 (nI at9)) 10 (nI dp)) 11 (nI sg)) R Z B J (kN K q1 1 0) w := hO.to rfl
  obtain ⟨qr7, hqr8⟩ := p_recv hO (by rw [hf3]; decide) (rep_1 hf3)
  refine pc_I0 (G := G) (As := [.int 26, .int (nI at9), .int (nI at9)]) (rest := [.ref q1]) hx hb hml hown hq hE hX pX0_al hP hD hS hA hl.1 (N_init l G h0 a (upd (upd (upd (upd F 2 (nI sz)) 9 (nI at9)) 10 (nI dp)) 11 (nI sg)) R Z B J (kN K q1 1 0) w q1 26 (nI at9) (nI at9) (by omega) hO) pw_874 pw_875 pw_872 pw_765 rfl hS_X7_init rfl (Nat.le_of_ble_eq_true rfl) dX8_whileStatement_14 ⟨(by show 1 + 0 ≤ (2 * (sz - at9) + 20); omega), (by show 11 + 0 ≤ (11 * (2 * (sz - at9) + 20)); omega)⟩ ⟨(by show 2 + 1 ≤ (50 * n + 58); omega), (by show 8 + (4 + 11) + 60 ≤ (1500 * n + 1650); omega)⟩ (fun v6 u4 H locs hw5 hP hD hS => ?_)
  obtain ⟨w, _⟩ := u4
  obtain ⟨hw5, hO⟩ := hw5
  obtain rfl : v6 = none := hw5
  have hf9 : (kI (kI (kI (kN K q1 1 0) 0 q1 26) 1 q1 (nI at9)) 2 q1 (nI at9)).1 q1 = 1 := hf3
  have hO : OKP G h0 a (upd (upd (upd (upd F 2 (nI sz)) 9 (nI at9)) 10 (nI dp)) 11 (nI sg)) R Z B J (kI (kI (kI (kN K q1 1 0) 0 q1 26) 1 q1 (nI at9)) 2 q1 (nI at9)) w := hO.to rfl
  refine W.widen (k := 1) (n := 11) (by show 1 + 0 ≤ 1; omega) (by show 11 + 0 ≤ 11; omega) ?_
  refine W.eq (g2 := F0 m 17 ls [.ref q1]) rfl ?_
  change OKP G h0 a (upd (upd (upd (upd F 2 (nI sz)) 9 (nI at9)) 10 (nI dp)) 11 (nI sg)) R Z B J (mkN K q1 26 (nI at9) (nI at9)) w at hO
  obtain ⟨K10, hK11⟩ : ∃ z : PK, z = (mkN K q1 26 (nI at9) (nI at9)) := ⟨_, rfl⟩
  rw [← hK11] at hO
  have htk12 : NwT (B 7) sz (B 10) (B 10) K K10 at9 at9 := by rw [hK11]; exact NwT.new (NwT.le htk0 (show _ ≤ at9 by omega)) hq2 (TkP.no (by decide))
  have hf13 : K10.1 q1 = 1 := by rw [hK11]; exact mkN_T
  have hf14 : K10.2.1 0 q1 = 26 := by rw [hK11]; exact mkN_0
  have hf15 : K10.2.1 2 q1 = (nI at9) := by rw [hK11]; exact mkN_2
  have hf16 : K10.2.2.1 0 q1 = none := by rw [hK11]; exact mkN_C
  have hf17 : K10.2.2.1 1 q1 = none := by rw [hK11]; exact mkN_C
  have hf18 : K10.2.2.1 2 q1 = none := by rw [hK11]; exact mkN_C
  have hf19 : K10.2.2.1 3 q1 = none := by rw [hK11]; exact mkN_C
  have hf20 : K10.2.2.1 4 q1 = none := by rw [hK11]; exact mkN_C
  have hns21 : NwS K K10 g (gset g q1 0 0 0) := by rw [hK11]; exact NwS.node hns0 hq2
  have hq22 : K.1 q1 = 0 := old_T hns0.2.1 hq2
  have hg23 : (gset g q1 0 0 0) 0 q1 = 0 := gset_0
  have hno24 : NoO K10 (gset g q1 0 0 0) q1 := by rw [hK11]; exact NoO.new hns0.1 hq2
  refine lv_astore_n (lv' := [(1, .ref q1), (0, .ref (a 3))]) hx hb dX8_whileStatement_17 rfl hl (by decide) rfl (fun ls hl => ?_)
  refine lv_aload_n hx hb dX8_whileStatement_18 rfl (lv_at hl 1 rfl) ?_
  refine lv_dup hx hb dX8_whileStatement_19 rfl ?_
  refine c_get (v := .int (nI at9)) (C := RX8) (Tc := TX8) (N := 5) (ci := 5) hx hb hq pin_wsX80 hown hE hP hO 23 (sg_23 G h0 a _ _ _ _ _) rfl 2 (by decide) (hq _ pw_776) (fun _ h9 => h9) rfl dX8_whileStatement_20 ?_
  refine lv_iconst (v := 1) hx hb dX8_whileStatement_23 (by decide) ?_
  refine lv_iadd hx hb dX8_whileStatement_24 ?_
  refine lv_topi (fun x25 e26 => ?_)
  obtain rfl : x25 = nI (at9 + 1) := e26.trans (nI_add (at9) (1))
  refine c_put (v := .int (nI (at9 + 1))) (ty := .int) (C := RX8) (Tc := TX8) (N := 5) (ci := 5) hx hb hq pin_wsX80 tyX8 tyX8_ok nmX8 hown hE hP hD hS hO 23 (sg_23 G h0 a _ _ _ _ _) rfl 2 (by decide) (hq _ pw_776) (fun _ h9 => h9) rfl (by decide +kernel) rfl rfl (Nat.le_of_ble_eq_true rfl) (sf_9 G h0 a _ _ _ _ _ (nI (at9 + 1))) dX8_whileStatement_25 (fun H locs w hP hD hS hO => ?_)
  refine lv_aload_n hx hb dX8_whileStatement_28 rfl (lv_at hl 0 rfl) ?_
  refine lv_aload_n hx hb dX8_whileStatement_29 rfl (lv_at hl 1 rfl) ?_
  have hO : OKP G h0 a (upd (upd (upd (upd (upd (upd (upd (upd (upd F 2 (nI sz)) 9 (nI at9)) 10 (nI dp)) 11 (nI sg)) 9 (nI (at9 + 1))) 2 (nI sz)) 9 (nI (at9 + 1))) 10 (nI dp)) 11 (nI sg)) R Z B J K10 w := hO.to rfl
  obtain ⟨_, qr30, hqr31⟩ := hO.2.1 23 _ (sg_23 G h0 a _ _ _ _ _)
  refine pn_V0 (G := G) (As := []) (rest := [.ref q1]) hx hb hml hown hq hE hX pX0_al hP hD hS hA hl.1 (P_condition l G h0 a (upd (upd (upd (upd (upd F 2 (nI sz)) 9 (nI at9)) 10 (nI dp)) 11 (nI sg)) 9 (nI (at9 + 1))) R Z B J K10 w n (at9 + 1) sz dp sg 0 (gset g q1 0 0 0) (by omega) (by omega) hdp (by omega) hns21.1 (fun o9 h9 => absurd h9 (by omega)) hO hl0) (gV pw_1022 pw_1023 pw_1024 pw_796 pw_995) hV_X8_condition qr30 5 hqr31 rfl rfl rfl (Nat.le_of_ble_eq_true rfl) dX8_whileStatement_30 ⟨(by show 1 + (2 * (sz - (at9 + 1)) + 20) ≤ (2 * (sz - at9) + 20); omega), (by show 11 + (11 * (2 * (sz - (at9 + 1)) + 20)) ≤ (11 * (2 * (sz - at9) + 20)); omega)⟩ ⟨(by show (40 * n + 42) + 1 ≤ (50 * n + 58); omega), (by show 8 + (2 + 11) + (1300 * n + 1340) ≤ (1500 * n + 1650); omega)⟩ (fun v29 u27 H locs hw28 hP hD hS => ?_) (fun ux ce9 q9 H9 locs9 hux hP9 hD9 hS9 hce hcv hcl => pb_out ux (ThQ.up (Thx.same (Thx.same (Thx.same (Thx.same (Thx.f Thx.rfl (by omega)) rfl) rfl) rfl) rfl) RhX.rfl hux) hnt hlocks hce hcv hcl hP9 hD9 hS9 (by show 1 + (2 * (sz - (at9 + 1)) + 20) ≤ (2 * (sz - at9) + 20); omega) (by show 11 + (11 * (2 * (sz - (at9 + 1)) + 20)) ≤ (11 * (2 * (sz - at9) + 20)); omega))
  obtain ⟨w, r32, K33, g34, at35, sg36, f37, k38⟩ := u27
  obtain ⟨hw28, h39, h40, h41, h42, h43, hO⟩ := hw28
  have h39 : NwR K10 K33 (gset g q1 0 0 0) g34 r32 0 k38 (5 * (20 - dp) + 6 + (sg36 - sg)) := h39
  have h40 : (at9 + 1) + 1 ≤ rS k38 ∧ rS k38 + 1 ≤ rE k38 ∧ rE k38 + 1 ≤ at35 ∧ 1 ≤ rD k38 ∧ rD k38 ≤ 9 * (20 - dp) + (sg36 - sg) + 1 := h40
  have h41 : (at9 + 1) + 3 ≤ at35 ∧ at35 ≤ sz := h41
  have h42 : sg ≤ sg36 ∧ sg36 ≤ 60 := h42
  have h43 : NwT ((B 7)) sz ((B 10)) f37 K10 K33 (at9 + 1) at35 := h43
  obtain rfl : v29 = some (.ref r32) := hw28
  have hf44 : K33.1 q1 = 1 := (((h39).2.1.1 q1 (by rw [hf13]; decide)).1).trans hf13
  have hf45 : K33.2.1 0 q1 = 26 := (((h39).2.1.1 q1 (by rw [hf13]; decide)).2.1 0).trans hf14
  have hf46 : K33.2.1 2 q1 = (nI at9) := (((h39).2.1.1 q1 (by rw [hf13]; decide)).2.1 2).trans hf15
  have hf47 : K33.2.2.1 0 q1 = none := (((h39).2.1.1 q1 (by rw [hf13]; decide)).2.2.1 0).trans hf16
  have hf48 : K33.2.2.1 1 q1 = none := (((h39).2.1.1 q1 (by rw [hf13]; decide)).2.2.1 1).trans hf17
  have hf49 : K33.2.2.1 2 q1 = none := (((h39).2.1.1 q1 (by rw [hf13]; decide)).2.2.1 2).trans hf18
  have hf50 : K33.2.2.1 3 q1 = none := (((h39).2.1.1 q1 (by rw [hf13]; decide)).2.2.1 3).trans hf19
  have hf51 : K33.2.2.1 4 q1 = none := (((h39).2.1.1 q1 (by rw [hf13]; decide)).2.2.1 4).trans hf20
  have hO : OKP G h0 a (upd (upd (upd (upd F 2 (nI sz)) 9 (nI at35)) 10 (nI dp)) 11 (nI sg36)) R Z (updA B 10 f37) J K33 w := hO.to rfl
  refine W.widen (k := (1 + (2 * (at35 - (at9 + 1)) - 5))) (n := (11 + (11 * (2 * (at35 - (at9 + 1)) - 5)))) (by show 1 + (2 * (at35 - (at9 + 1)) - 5) ≤ (1 + (2 * (at35 - (at9 + 1)) - 5)); omega) (by show 11 + (11 * (2 * (at35 - (at9 + 1)) - 5)) ≤ (11 + (11 * (2 * (at35 - (at9 + 1)) - 5))); omega) ?_
  refine W.eq (g2 := F0 m 33 ls [.ref r32, .ref q1]) rfl ?_
  have htk52 : NwT (B 7) sz (B 10) f37 K K33 at9 at35 := (NwT.call htk12 h43 (by omega))
  have hns53 : NwS K K33 g g34 := NwS.call hns21 h39 (fun o9 h9 => absurd h9 (by omega))
  have hrk54 : g34 2 r32 = k38 := h39.2.2.1.2.2.2.2.2.1
  have hf55 : K33.1 r32 = 1 := h39.2.2.1.2.1
  have hg56 : g34 0 q1 = 0 := (h39.2.1.2 q1 (by rw [hf13]; decide) 0).trans hg23
  have hno57 : NoO K33 g34 q1 := NoO.call hno24 h39 hf13 (by omega)
  have hgy58 := h39.2.2.1
  have hgy58a := hgy58.2.2.1
  have hgy58b := hgy58.2.2.2.1
  refine p_put (v := .ref r32) (ty := (.object "JinjaTongue$Node")) (C := RX7) (Tc := TX7) (N := 11) (ci := 13) (K' := (kC K33 1 q1 (some r32))) hx hb hq pin_wsX70 tyX7 tyX7_ok nmX7 hown hE hP hD hS hO (by rw [hf44]; decide) (rep_1 hf44) rfl 7 (by decide) (hq _ pw_910) (fun _ h9 => h9) rfl (by decide +kernel) rfl rfl (Nat.le_of_ble_eq_true rfl) rfl (by rw [rep_1 (show (kC K33 1 q1 (some r32)).1 q1 = 1 from hf44), pc_1] <;> rfl) (fun p9 hp9 => rep_kC hp9) dX8_whileStatement_33 (fun H locs w hP hD hS hO => ?_)
  obtain ⟨K59, hK60⟩ : ∃ z : PK, z = (kC K33 1 q1 (some r32)) := ⟨_, rfl⟩
  rw [← hK60] at hO
  have hf61 : K59.1 q1 = 1 := (by rw [hK60]; exact hf44)
  have hf62 : K59.2.1 0 q1 = 26 := (by rw [hK60]; exact hf45)
  have hf63 : K59.2.1 2 q1 = (nI at9) := (by rw [hK60]; exact hf46)
  have hf64 : K59.2.2.1 0 q1 = none := (by rw [hK60]; exact (kC_of (by decide)).trans hf47)
  have hf65 : K59.2.2.1 2 q1 = none := (by rw [hK60]; exact (kC_of (by decide)).trans hf49)
  have hf66 : K59.2.2.1 3 q1 = none := (by rw [hK60]; exact (kC_of (by decide)).trans hf50)
  have hf67 : K59.2.2.1 4 q1 = none := (by rw [hK60]; exact (kC_of (by decide)).trans hf51)
  have hf68 : K59.1 r32 = 1 := (by rw [hK60]; exact hf55)
  have hf69 : K59.2.2.1 1 q1 = some r32 := by rw [hK60]; exact kC_eq
  have htk70 : NwT (B 7) sz (B 10) f37 K K59 at9 at35 := by rw [hK60]; exact NwT.put htk52
  have hns71 : NwS K K59 g g34 := by rw [hK60]; exact NwS.put hns53 hq22 hg56
  have hno72 : NoO K59 g34 q1 := by rw [hK60]; exact hno57
  refine lv_aload_n hx hb dX8_whileStatement_36 rfl (lv_at hl 0 rfl) ?_
  refine lv_aload_n hx hb dX8_whileStatement_37 rfl (lv_at hl 1 rfl) ?_
  refine lv_iconst (v := 0) hx hb dX8_whileStatement_38 (by decide) ?_
  have hO : OKP G h0 a (upd (upd (upd (upd (upd (upd (upd (upd (upd (upd F 2 (nI sz)) 9 (nI at9)) 10 (nI dp)) 11 (nI sg)) 9 (nI at35)) 11 (nI sg36)) 2 (nI sz)) 9 (nI at35)) 10 (nI dp)) 11 (nI sg36)) R Z (updA B 10 f37) J K59 w := hO.to rfl
  obtain ⟨_, qr76, hqr77⟩ := hO.2.1 23 _ (sg_23 G h0 a _ _ _ _ _)
  refine pn_V0 (G := G) (As := [.int (nI 0)]) (rest := [.ref q1]) hx hb hml hown hq hE hX pX0_al hP hD hS hA hl.1 (ist h0 a (upd (upd (upd (upd (upd (upd F 2 (nI sz)) 9 (nI at9)) 10 (nI dp)) 11 (nI sg)) 9 (nI at35)) 11 (nI sg36)) R Z (updA B 10 f37) J K59 w 0 at35 sz dp sg36 0 g34 (by omega) (by omega) hdp (by omega) hns71.1 (fun o9 h9 => absurd h9 (by omega)) (by omega) hO hl0) (gV pw_1003 pw_1004 pw_1005 pw_796 pw_1025) hV_X8_statement qr76 5 hqr77 rfl rfl rfl (Nat.le_of_ble_eq_true rfl) dX8_whileStatement_39 ⟨(by show (1 + (2 * (at35 - (at9 + 1)) - 5)) + (2 * (sz - at35) + 20) ≤ (2 * (sz - at9) + 20); omega), (by show (11 + (11 * (2 * (at35 - (at9 + 1)) - 5))) + (11 * (2 * (sz - at35) + 20)) ≤ (11 * (2 * (sz - at9) + 20)); omega)⟩ ⟨(by show (50 * n + 50) + 1 ≤ (50 * n + 58); omega), (by show 8 + (5 + 11) + (1500 * n + 1500) ≤ (1500 * n + 1650); omega)⟩ (fun v75 u73 H locs hw74 hP hD hS => ?_) (fun ux ce9 q9 H9 locs9 hux hP9 hD9 hS9 hce hcv hcl => pb_out ux (ThQ.up (Thx.same (Thx.same (Thx.same (Thx.same (Thx.b (Thx.f (Thx.f Thx.rfl (by omega)) (by omega)) (by omega) (by decide)) rfl) rfl) rfl) rfl) RhX.rfl hux) hnt hlocks hce hcv hcl hP9 hD9 hS9 (by show (1 + (2 * (at35 - (at9 + 1)) - 5)) + (2 * (sz - at35) + 20) ≤ (2 * (sz - at9) + 20); omega) (by show (11 + (11 * (2 * (at35 - (at9 + 1)) - 5))) + (11 * (2 * (sz - at35) + 20)) ≤ (11 * (2 * (sz - at9) + 20)); omega))
  obtain ⟨w, r78, K79, g80, at81, sg82, f83, k84⟩ := u73
  obtain ⟨hw74, h85, h86, h87, h88, h89, h90, hO⟩ := hw74
  have h85 : NwR K59 K79 g34 g80 r78 0 k84 ((170 + 3 * (20 - dp))) := h85
  have h86 : rS k84 = at35 ∧ rE k84 ≤ at81 ∧ rS k84 ≤ rE k84 ∧ rD k84 ≤ 2 * (20 - dp) := h86
  have h87 : at35 + 1 ≤ at81 ∧ at81 ≤ sz := h87
  have h88 : sg36 ≤ sg82 ∧ sg82 ≤ 60 := h88
  have h89 : 0 = 0 → ¬ K79.2.1 0 r78 = 22 := h89
  have h90 : NwT ((B 7)) sz (f37) f83 K59 K79 at35 at81 := h90
  obtain rfl : v75 = some (.ref r78) := hw74
  have hf91 : K79.1 q1 = 1 := (((h85).2.1.1 q1 (by rw [hf61]; decide)).1).trans hf61
  have hf92 : K79.2.1 0 q1 = 26 := (((h85).2.1.1 q1 (by rw [hf61]; decide)).2.1 0).trans hf62
  have hf93 : K79.2.1 2 q1 = (nI at9) := (((h85).2.1.1 q1 (by rw [hf61]; decide)).2.1 2).trans hf63
  have hf94 : K79.2.2.1 0 q1 = none := (((h85).2.1.1 q1 (by rw [hf61]; decide)).2.2.1 0).trans hf64
  have hf95 : K79.2.2.1 2 q1 = none := (((h85).2.1.1 q1 (by rw [hf61]; decide)).2.2.1 2).trans hf65
  have hf96 : K79.2.2.1 3 q1 = none := (((h85).2.1.1 q1 (by rw [hf61]; decide)).2.2.1 3).trans hf66
  have hf97 : K79.2.2.1 4 q1 = none := (((h85).2.1.1 q1 (by rw [hf61]; decide)).2.2.1 4).trans hf67
  have hf98 : K79.1 r32 = 1 := (((h85).2.1.1 r32 (by rw [hf68]; decide)).1).trans hf68
  have hf99 : K79.2.2.1 1 q1 = some r32 := (((h85).2.1.1 q1 (by rw [hf61]; decide)).2.2.1 1).trans hf69
  have hO : OKP G h0 a (upd (upd (upd (upd F 2 (nI sz)) 9 (nI at81)) 10 (nI dp)) 11 (nI sg82)) R Z (updA B 10 f83) J K79 w := hO.to rfl
  refine W.widen (k := ((1 + (2 * (at35 - (at9 + 1)) - 5)) + (2 * (at81 - at35) - 1))) (n := ((11 + (11 * (2 * (at35 - (at9 + 1)) - 5))) + (11 * (2 * (at81 - at35) - 1)))) (by show (1 + (2 * (at35 - (at9 + 1)) - 5)) + (2 * (at81 - at35) - 1) ≤ ((1 + (2 * (at35 - (at9 + 1)) - 5)) + (2 * (at81 - at35) - 1)); omega) (by show (11 + (11 * (2 * (at35 - (at9 + 1)) - 5))) + (11 * (2 * (at81 - at35) - 1)) ≤ ((11 + (11 * (2 * (at35 - (at9 + 1)) - 5))) + (11 * (2 * (at81 - at35) - 1))); omega) ?_
  refine W.eq (g2 := F0 m 42 ls [.ref r78, .ref q1]) rfl ?_
  have htk100 : NwT (B 7) sz (B 10) f83 K K79 at9 at81 := (NwT.call htk70 h90 (by omega))
  have hns101 : NwS K K79 g g80 := NwS.call hns71 h85 (fun o9 h9 => absurd h9 (by omega))
  have hrk102 : g80 2 r32 = k38 := (h85.2.1.2 r32 (by rw [hf68]; decide) 2).trans hrk54
  have hrk103 : g80 2 r78 = k84 := h85.2.2.1.2.2.2.2.2.1
  have hf104 : K79.1 r78 = 1 := h85.2.2.1.2.1
  have hg105 : g80 0 q1 = 0 := (h85.2.1.2 q1 (by rw [hf61]; decide) 0).trans hg56
  have hno106 : NoO K79 g80 q1 := NoO.call hno72 h85 hf61 (by omega)
  have hgz107 : g80 0 r32 = g34 0 r32 := h85.2.1.2 r32 (by rw [hf68]; decide) 0
  have hgy108 := h85.2.2.1
  have hgy108a := hgy108.2.2.1
  have hgy108b := hgy108.2.2.2.1
  obtain ⟨kd109, hkd110⟩ : ∃ z : Int32, K79.2.1 0 r78 = z := ⟨_, rfl⟩
  have hn2111 : ¬ kd109 = 22 := by rw [← hkd110]; exact h89 rfl
  refine p_put (v := .ref r78) (ty := (.object "JinjaTongue$Node")) (C := RX7) (Tc := TX7) (N := 11) (ci := 13) (K' := (kC K79 3 q1 (some r78))) hx hb hq pin_wsX70 tyX7 tyX7_ok nmX7 hown hE hP hD hS hO (by rw [hf91]; decide) (rep_1 hf91) rfl 9 (by decide) (hq _ pw_1011) (fun _ h9 => h9) rfl (by decide +kernel) rfl rfl (Nat.le_of_ble_eq_true rfl) rfl (by rw [rep_1 (show (kC K79 3 q1 (some r78)).1 q1 = 1 from hf91), pc_3] <;> rfl) (fun p9 hp9 => rep_kC hp9) dX8_whileStatement_42 (fun H locs w hP hD hS hO => ?_)
  obtain ⟨K112, hK113⟩ : ∃ z : PK, z = (kC K79 3 q1 (some r78)) := ⟨_, rfl⟩
  rw [← hK113] at hO
  have hf114 : K112.1 q1 = 1 := (by rw [hK113]; exact hf91)
  have hf115 : K112.2.1 0 q1 = 26 := (by rw [hK113]; exact hf92)
  have hf116 : K112.2.1 2 q1 = (nI at9) := (by rw [hK113]; exact hf93)
  have hf117 : K112.2.2.1 0 q1 = none := (by rw [hK113]; exact (kC_of (by decide)).trans hf94)
  have hf118 : K112.2.2.1 2 q1 = none := (by rw [hK113]; exact (kC_of (by decide)).trans hf95)
  have hf119 : K112.2.2.1 4 q1 = none := (by rw [hK113]; exact (kC_of (by decide)).trans hf97)
  have hf120 : K112.1 r32 = 1 := (by rw [hK113]; exact hf98)
  have hf121 : K112.2.2.1 1 q1 = some r32 := (by rw [hK113]; exact (kC_of (by decide)).trans hf99)
  have hf122 : K112.1 r78 = 1 := (by rw [hK113]; exact hf104)
  have hf123 : K112.2.1 0 r78 = kd109 := (by rw [hK113]; exact hkd110)
  have hf124 : K112.2.2.1 3 q1 = some r78 := by rw [hK113]; exact kC_eq
  have htk125 : NwT (B 7) sz (B 10) f83 K K112 at9 at81 := by rw [hK113]; exact NwT.put htk100
  have hns126 : NwS K K112 g g80 := by rw [hK113]; exact NwS.put hns101 hq22 hg105
  have hno127 : NoO K112 g80 q1 := by rw [hK113]; exact hno106
  refine lv_aload_n hx hb dX8_whileStatement_45 rfl (lv_at hl 0 rfl) ?_
  refine W_size (fun hz1 hz2 => ?_)
  refine vx_ret ?_
  obtain ⟨k9, k9I, hkS, hkE, hkM, hkN, hkX, hkD⟩ := rk_ex (s := at9) (e := at81) (m := (rS k38)) (n := (rS k84)) (x := (rE k38)) (d := (2 * (20 - dp) + 2)) (by omega)
  have hkid : ∀ f9 y9 : Nat, f9 ≤ 3 → K112.2.2.1 f9 q1 = some y9 → K112.1 y9 = 1 ∧ 1 ≤ g80 0 y9 ∧ g80 0 y9 < (173 + 3 * (20 - dp)) := by
    intro f9 y9 hf9 hy9
    rcases (show f9 = 0 ∨ f9 = 1 ∨ f9 = 2 ∨ f9 = 3 by omega) with rfl | rfl | rfl | rfl
    · rw [hf117] at hy9; cases hy9
    · rw [hf121] at hy9; cases hy9; exact ⟨hf120, (by omega), by omega⟩
    · rw [hf118] at hy9; cases hy9
    · rw [hf124] at hy9; cases hy9; exact ⟨hf122, (by omega), by omega⟩
  have hkc128 : ∀ f9 y9 : Nat, f9 ≤ 3 → K112.2.2.1 f9 q1 = some y9 → Kch (K112.2.1 0 q1) f9 (K112.2.1 0 y9) k9 (g80 2 y9) := by
    intro f9 y9 hf9 hy9
    rcases (show f9 = 0 ∨ f9 = 1 ∨ f9 = 2 ∨ f9 = 3 by omega) with rfl | rfl | rfl | rfl
    · rw [hf117] at hy9; cases hy9
    · rw [hf121] at hy9; cases hy9; rw [hrk102]; rw [hf115] <;> exact ⟨(fun z => absurd z (by decide)), (fun z => absurd z (by decide)), (fun z => absurd z (by decide)), (fun z => absurd z (by decide)), (fun z => absurd z (by decide)), (fun z => absurd z (by decide)), (fun z => absurd z (by decide)), (fun z => absurd z (by decide)), (fun z => absurd z (by decide)), (fun z => absurd z (by decide)), (fun z => absurd z (by decide)), (fun z => absurd z (by decide)), (fun z => absurd z (by decide)), (fun z => absurd z (by decide)), (fun z => absurd z (by decide)), (fun z => absurd z (by decide)), (fun z => absurd z (by decide)), (fun _ z => absurd z (by decide)), (fun _ _ => (by omega)), (fun _ z => absurd z (by decide)), (fun _ z => absurd z (by decide)), (fun z => absurd z (by decide)), (fun z => absurd z (by decide)), (fun z => absurd z (by decide))⟩
    · rw [hf118] at hy9; cases hy9
    · rw [hf124] at hy9; cases hy9; rw [hrk103]; rw [hf115] <;> exact ⟨(fun z => absurd z (by decide)), (fun z => absurd z (by decide)), (fun z => absurd z (by decide)), (fun z => absurd z (by decide)), (fun z => absurd z (by decide)), (fun z => absurd z (by decide)), (fun z => absurd z (by decide)), (fun z => absurd z (by decide)), (fun z => absurd z (by decide)), (fun z => absurd z (by decide)), (fun z => absurd z (by decide)), (fun z => absurd z (by decide)), (fun z => absurd z (by decide)), (fun z => absurd z (by decide)), (fun z => absurd z (by decide)), (fun z => absurd z (by decide)), (fun z => absurd z (by decide)), (fun _ z => absurd z (by decide)), (fun _ z => absurd z (by decide)), (fun _ z => absurd z (by decide)), (fun _ _ => ⟨(by rw [hf123]; exact hn2111), (by omega)⟩), (fun z => absurd z (by decide)), (fun z => absurd z (by decide)), (fun z => absurd z (by decide))⟩
  have hdn := NwS.done1I (q := q1) (L := (173 + 3 * (20 - dp))) (O := O) (k := k9) hns126 hq22 hf114 hg105 (by omega) ⟨k9I, (by rw [hf115] <;> exact ⟨(fun z => absurd z (by decide)), (fun z => absurd z (by decide)), (fun _ => (by omega))⟩)⟩ (by rw [hf115]; exact ⟨(fun z => absurd z (by decide)), (fun z => absurd z (by decide)), (fun z => absurd z (by decide)), (fun _ => ⟨(by show ¬ K112.2.2.1 1 q1 = none; rw [hf121]; intro z; cases z), (by show ¬ K112.2.2.1 3 q1 = none; rw [hf124]; intro z; cases z)⟩), (fun z => absurd z (by decide))⟩) (fun f9 z => by rw [hf115] at z; rcases z with ⟨z, _⟩ | ⟨z | z | z, _⟩ <;> exact absurd z (by decide)) hkid hf119 hno127 hkc128 how
  have hz129 : NwR K K112 g (gset g80 q1 (173 + 3 * (20 - dp)) O k9) q1 O k9 ((173 + 3 * (20 - dp))) := hdn
  have hz130 : rS k9 = at9 ∧ rE k9 ≤ at81 ∧ rS k9 ≤ rE k9 ∧ rD k9 ≤ 2 * (20 - dp) + 2 := (by omega)
  have hz131 : at9 + 5 ≤ at81 ∧ at81 ≤ sz := (by omega)
  have hz132 : sg ≤ sg82 ∧ sg82 ≤ 60 := (by omega)
  have hz133 : ¬ K112.2.1 0 q1 = 22 := (by rw [hf115]; decide)
  have hz134 : NwT (B 7) sz (B 10) f83 K K112 at9 at81 := (NwT.le htk125 (by omega))
  have hO : OKP G h0 a (upd (upd (upd (upd F 2 (nI sz)) 9 (nI at81)) 10 (nI dp)) 11 (nI sg82)) R Z (updA B 10 f83) J K112 w := hO.to rfl
  refine W.widen (k := (2 * (sz - at9) + 20)) (n := (11 * (2 * (sz - at9) + 20))) (by omega) (by omega) ?_
  have hzz1 : H.size ≤ s.heap.size + ((2 * (at81 - at9) - 5)) := (by have z : ((1 + (2 * (at35 - (at9 + 1)) - 5)) + (2 * (at81 - at35) - 1)) ≤ (2 * (at81 - at9) - 5) := (by omega); omega)
  have hzz2 : hSl H ≤ hSl s.heap + ((11 * (2 * (at81 - at9) - 5))) := (by have z : ((11 + (11 * (2 * (at35 - (at9 + 1)) - 5))) + (11 * (2 * (at81 - at35) - 1))) ≤ (11 * (2 * (at81 - at9) - 5)) := (by omega); omega)
  exact W.aret (v := .ref q1) hx hb hr (Or.inl ⟨_, rfl⟩) (Or.inr ⟨_, rfl⟩) (fun t99 ht99 hW99 => ⟨⟨_, (w, (q1, K112, (gset g80 q1 (173 + 3 * (20 - dp)) O k9), at81, sg82, f83, k9)), rfl, ⟨rfl, hz129, hz130, hz131, hz132, hz133, hz134, hO⟩, by rw [ht99]; exact hP, hD, by rw [ht99]; exact hzz1, by rw [ht99]; exact hzz2⟩, hS.F ht99⟩) hS.2.2 dX8_whileStatement_46

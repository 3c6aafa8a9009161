theorem dX8_catchBlock_0 : decode cX8_catchBlock 0 = .ok (.aload_n 0, 1) := by decide +kernel
theorem dX8_catchBlock_1 : decode cX8_catchBlock 1 = .ok (.iconst 3, 1) := by decide +kernel
theorem dX8_catchBlock_2 : decode cX8_catchBlock 2 = .ok (.invokevirtual 53, 3) := by decide +kernel
theorem dX8_catchBlock_5 : decode cX8_catchBlock 5 = .ok (.pop, 1) := by decide +kernel
theorem dX8_catchBlock_6 : decode cX8_catchBlock 6 = .ok (.aload_n 0, 1) := by decide +kernel
theorem dX8_catchBlock_7 : decode cX8_catchBlock 7 = .ok (.bipush 34, 2) := by decide +kernel
theorem dX8_catchBlock_9 : decode cX8_catchBlock 9 = .ok (.invokevirtual 53, 3) := by decide +kernel
theorem dX8_catchBlock_12 : decode cX8_catchBlock 12 = .ok (.pop, 1) := by decide +kernel
theorem dX8_catchBlock_13 : decode cX8_catchBlock 13 = .ok (.aload_n 0, 1) := by decide +kernel
theorem dX8_catchBlock_14 : decode cX8_catchBlock 14 = .ok (.bipush 65, 2) := by decide +kernel
theorem dX8_catchBlock_16 : decode cX8_catchBlock 16 = .ok (.invokevirtual 53, 3) := by decide +kernel
theorem dX8_catchBlock_19 : decode cX8_catchBlock 19 = .ok (.istore_n 1, 1) := by decide +kernel
theorem dX8_catchBlock_20 : decode cX8_catchBlock 20 = .ok (.aload_n 0, 1) := by decide +kernel
theorem dX8_catchBlock_21 : decode cX8_catchBlock 21 = .ok (.getfield 7, 3) := by decide +kernel
theorem dX8_catchBlock_24 : decode cX8_catchBlock 24 = .ok (.iload_n 1, 1) := by decide +kernel
theorem dX8_catchBlock_25 : decode cX8_catchBlock 25 = .ok (.iconst 3, 1) := by decide +kernel
theorem dX8_catchBlock_26 : decode cX8_catchBlock 26 = .ok (.invokevirtual 64, 3) := by decide +kernel
theorem dX8_catchBlock_29 : decode cX8_catchBlock 29 = .ok (.new 143, 3) := by decide +kernel
theorem dX8_catchBlock_32 : decode cX8_catchBlock 32 = .ok (.dup, 1) := by decide +kernel
theorem dX8_catchBlock_33 : decode cX8_catchBlock 33 = .ok (.bipush 35, 2) := by decide +kernel
theorem dX8_catchBlock_35 : decode cX8_catchBlock 35 = .ok (.aload_n 0, 1) := by decide +kernel
theorem dX8_catchBlock_36 : decode cX8_catchBlock 36 = .ok (.bipush 65, 2) := by decide +kernel
theorem dX8_catchBlock_38 : decode cX8_catchBlock 38 = .ok (.invokevirtual 53, 3) := by decide +kernel
theorem dX8_catchBlock_41 : decode cX8_catchBlock 41 = .ok (.iload_n 1, 1) := by decide +kernel
theorem dX8_catchBlock_42 : decode cX8_catchBlock 42 = .ok (.invokespecial 145, 3) := by decide +kernel
theorem dX8_catchBlock_45 : decode cX8_catchBlock 45 = .ok (.astore_n 2, 1) := by decide +kernel
theorem dX8_catchBlock_46 : decode cX8_catchBlock 46 = .ok (.aload_n 0, 1) := by decide +kernel
theorem dX8_catchBlock_47 : decode cX8_catchBlock 47 = .ok (.bipush 35, 2) := by decide +kernel
theorem dX8_catchBlock_49 : decode cX8_catchBlock 49 = .ok (.invokevirtual 53, 3) := by decide +kernel
theorem dX8_catchBlock_52 : decode cX8_catchBlock 52 = .ok (.pop, 1) := by decide +kernel
theorem dX8_catchBlock_53 : decode cX8_catchBlock 53 = .ok (.aload_n 2, 1) := by decide +kernel
theorem dX8_catchBlock_54 : decode cX8_catchBlock 54 = .ok (.aload_n 0, 1) := by decide +kernel
theorem dX8_catchBlock_55 : decode cX8_catchBlock 55 = .ok (.invokevirtual 120, 3) := by decide +kernel
theorem dX8_catchBlock_58 : decode cX8_catchBlock 58 = .ok (.putfield 165, 3) := by decide +kernel
theorem dX8_catchBlock_61 : decode cX8_catchBlock 61 = .ok (.aload_n 2, 1) := by decide +kernel
theorem dX8_catchBlock_62 : decode cX8_catchBlock 62 = .ok (.areturn, 1) := by decide +kernel
theorem hV_X8_block : yX8_block.cls = RX8 ∧ yX8_block.cls ≠ "java/lang/invoke/MethodHandle" ∧ yX8_block.cls ≠ "java/lang/invoke/VarHandle" ∧ (parseMethodDescriptor yX8_block.desc).map (fun d => d.parameters.length) = some 0 := by decide +kernel
set_option maxHeartbeats 20000000 in
set_option maxRecDepth 100000 in
theorem P_catch (l : Launch) (G : pT) (h0 : Nat) (a : Nat → Nat) (F : Nat → Int32) (R : Nat → Value) (Z : Int64) (B : Nat → Nat → Int32) (J : Nat → Nat → Int64) (K : PK) (w : va_W) (n : Nat) (at9 : Nat) (sz : Nat) (dp : Nat) (sg : Nat) (O : Nat) (g : Nat → Nat → Nat) (hsz : sz ≤ 5000) (hat : at9 ≤ sz) (hdp : dp + n = 20) (hsg : sg ≤ 60) (hwn : WN K g) (how : ∀ o : Nat, O = o + 1 → K.1 o = 1 ∧ g 0 o = 0) (ist : PSt l G n) (hO : OKP G h0 a (upd (upd (upd (upd F 2 (nI sz)) 9 (nI at9)) 10 (nI dp)) 11 (nI sg)) R Z B J K w) (hl0 : l.stackTraces = false) : PBn l G pX0 yX8_catchBlock cX8_catchBlock 3 (some (.object "JinjaTongue$Node")) ({ frames := (50 * n + 56), cells := (2 * (sz - at9) + 20), slots := (11 * (2 * (sz - at9) + 20)), locals := (1500 * n + 1600) }) [.ref (a 3)] w (fun (v : Option Value) (u : va_W × (Nat × PK × (Nat → Nat → Nat) × Nat × Nat × (Nat → Int32) × Nat)) => v = some (.ref u.2.1) ∧ (NwR K u.2.2.1 g u.2.2.2.1 u.2.1 O u.2.2.2.2.2.2.2 ((172 + 3 * (20 - dp)))) ∧ (at9 + 7 ≤ u.2.2.2.2.1 ∧ u.2.2.2.2.1 ≤ sz) ∧ (sg ≤ u.2.2.2.2.2.1 ∧ u.2.2.2.2.2.1 ≤ 60) ∧ (rS u.2.2.2.2.2.2.2 = at9 ∧ rE u.2.2.2.2.2.2.2 ≤ u.2.2.2.2.1 ∧ rS u.2.2.2.2.2.2.2 ≤ rE u.2.2.2.2.2.2.2) ∧ (OKP G h0 a (upd (upd (upd (upd F 2 (nI sz)) 9 (nI u.2.2.2.2.1)) 10 (nI dp)) 11 (nI u.2.2.2.2.2.1)) R Z (updA B 10 u.2.2.2.2.2.2.1) J u.2.2.1 u.1)) (fun u => u.1) (fun (u : va_W × (Nat × PK × (Nat → Nat → Nat) × Nat × Nat × (Nat → Int32) × Nat)) => (2 * (u.2.2.2.2.1 - at9) - 6)) (fun (u : va_W × (Nat × PK × (Nat → Nat → Nat) × Nat × Nat × (Nat → Int32) × Nat)) => (11 * (2 * (u.2.2.2.2.1 - at9) - 6))) (fun (u : va_W × (Nat → Int32) × (Nat → Value) × (Nat → Nat → Int32)) => ThQ G h0 a (upd (upd (upd (upd F 2 (nI sz)) 9 (nI at9)) 10 (nI dp)) 11 (nI sg)) R Z B J u) (fun u => u.1) := by
  intro sz
  refine vx_ofW (cc := cX8_catchBlock) (maxL := 3) (ret := (some (.object "JinjaTongue$Node"))) (by decide) rfl ?_
  intro p e s m args below meth c s₁ B9 hml hnt hv
  obtain ⟨rfl, hsz, hP, hD0, hE, hX⟩ := hv
  have hx := B9.exec
  have hb := B9.bytes
  have hr := B9.returns
  have hts := atoms_spec (ws := Cond.code yX8_catchBlock cX8_catchBlock 3 (some (.object "JinjaTongue$Node")) :: pw) B9.pre
  have hq : ∀ w ∈ pw, w.before _ s = true := fun w h => hts w (List.mem_cons_of_mem _ h)
  have hown : s.vm.findClass RX8 = some m.cls := findClass_of_methodNamed B9.named
  have hlocks := B9.notSynchronized
  subst hsz
  have hD := hD0.self (sz := s.heap.size)
  have hA : ∀ q : Nat, s.heap.size ≤ q → va_A w s.heap.size q := fun q h => Or.inr h
  generalize va_A w s.heap.size = A at hD hE hA ⊢
  have hS : va_S A s.heap s.heap [] := va_S.rf
  have hl := lv_entry ([.ref (a 3)]) (n := 3) (Nat.le_of_ble_eq_true rfl)
  rw [lg_entry_eq]
  generalize (lg_sl ([.ref (a 3)]) ++ List.replicate (3 - (lg_sl ([.ref (a 3)])).length) Slot.unset).toArray = ls at hl ⊢
  have hl : lv_has ls 3 [(0, .ref (a 3))] := hl
  have hns0 : NwS K K g g := NwS.nil hwn
  refine lv_aload_n hx hb dX8_catchBlock_0 rfl (lv_at hl 0 rfl) ?_
  refine lv_iconst (v := 3) hx hb dX8_catchBlock_1 (by decide) ?_
  have hO : OKW G h0 a (upd (upd (upd (upd (upd (upd F 2 (nI sz)) 9 (nI at9)) 10 (nI dp)) 11 (nI sg)) 2 (nI sz)) 9 (nI at9)) R Z B J K.1 (fun q99 x99 => x99 = rep G a K q99) w := hO.to rfl
  obtain ⟨_, qr4, hqr5⟩ := hO.2.1 23 _ (sg_23 G h0 a _ _ _ _ _)
  refine pn_V0 (G := G) (As := [.int 3]) (rest := []) hx hb hml hown hq hE hX pX0_al hP hD hS hA hl.1 (P_take l G h0 a (upd (upd (upd (upd F 2 (nI sz)) 9 (nI at9)) 10 (nI dp)) 11 (nI sg)) R Z B J K.1 (fun q99 x99 => x99 = rep G a K q99) w 3 at9 sz (by omega) (by omega) (by decide) hO hl0) (gV pw_793 pw_794 pw_795 pw_796 pw_781) hV_X8_take qr4 5 hqr5 rfl rfl rfl (Nat.le_of_ble_eq_true rfl) dX8_catchBlock_2 ⟨(by show 0 + 1 ≤ (2 * (sz - at9) + 20); omega), (by show 0 + 6 ≤ (11 * (2 * (sz - at9) + 20)); omega)⟩ ⟨(by show 7 + 1 ≤ (50 * n + 56); omega), (by show 8 + (2 + 11) + 122 ≤ (1500 * n + 1600); omega)⟩ (fun v3 u1 H locs hw2 hP hD hS => ?_) (fun ux ce9 q9 H9 locs9 hux hP9 hD9 hS9 hce hcv hcl => pb_out ux (ThQ.up (Thx.same (Thx.same Thx.rfl rfl) rfl) RhX.rfl hux) hnt hlocks hce hcv hcl hP9 hD9 hS9 (by show 0 + 1 ≤ (2 * (sz - at9) + 20); omega) (by show 0 + 6 ≤ (11 * (2 * (sz - at9) + 20)); omega))
  obtain ⟨w, _⟩ := u1
  obtain ⟨hw2, h6, hO⟩ := hw2
  have h6 : at9 + 1 ≤ sz := h6
  obtain rfl : v3 = some (.int (nI at9)) := hw2
  have hO : OKP G h0 a (upd (upd (upd (upd F 2 (nI sz)) 9 (nI (at9 + 1))) 10 (nI dp)) 11 (nI sg)) R Z B J K w := hO.to rfl
  refine W.widen (k := 0) (n := 0) (by show 0 + 0 ≤ 0; omega) (by show 0 + 0 ≤ 0; omega) ?_
  refine W.eq (g2 := F0 m 5 ls [.int (nI at9)]) rfl ?_
  refine lv_pop hx hb dX8_catchBlock_5 rfl ?_
  refine lv_aload_n hx hb dX8_catchBlock_6 rfl (lv_at hl 0 rfl) ?_
  refine lv_bipush (v := 34) hx hb dX8_catchBlock_7 (by decide) ?_
  have hO : OKW G h0 a (upd (upd (upd (upd (upd (upd (upd F 2 (nI sz)) 9 (nI at9)) 10 (nI dp)) 11 (nI sg)) 9 (nI (at9 + 1))) 2 (nI sz)) 9 (nI (at9 + 1))) R Z B J K.1 (fun q99 x99 => x99 = rep G a K q99) w := hO.to rfl
  obtain ⟨_, qr10, hqr11⟩ := hO.2.1 23 _ (sg_23 G h0 a _ _ _ _ _)
  refine pn_V0 (G := G) (As := [.int 34]) (rest := []) hx hb hml hown hq hE hX pX0_al hP hD hS hA hl.1 (P_take l G h0 a (upd (upd (upd (upd (upd F 2 (nI sz)) 9 (nI at9)) 10 (nI dp)) 11 (nI sg)) 9 (nI (at9 + 1))) R Z B J K.1 (fun q99 x99 => x99 = rep G a K q99) w 34 (at9 + 1) sz (by omega) (by omega) (by decide) hO hl0) (gV pw_793 pw_794 pw_795 pw_796 pw_781) hV_X8_take qr10 5 hqr11 rfl rfl rfl (Nat.le_of_ble_eq_true rfl) dX8_catchBlock_9 ⟨(by show 0 + 1 ≤ (2 * (sz - at9) + 20); omega), (by show 0 + 6 ≤ (11 * (2 * (sz - at9) + 20)); omega)⟩ ⟨(by show 7 + 1 ≤ (50 * n + 56); omega), (by show 8 + (2 + 11) + 122 ≤ (1500 * n + 1600); omega)⟩ (fun v9 u7 H locs hw8 hP hD hS => ?_) (fun ux ce9 q9 H9 locs9 hux hP9 hD9 hS9 hce hcv hcl => pb_out ux (ThQ.up (Thx.same (Thx.same (Thx.f Thx.rfl (by omega)) rfl) rfl) RhX.rfl hux) hnt hlocks hce hcv hcl hP9 hD9 hS9 (by show 0 + 1 ≤ (2 * (sz - at9) + 20); omega) (by show 0 + 6 ≤ (11 * (2 * (sz - at9) + 20)); omega))
  obtain ⟨w, _⟩ := u7
  obtain ⟨hw8, h12, hO⟩ := hw8
  have h12 : (at9 + 1) + 1 ≤ sz := h12
  obtain rfl : v9 = some (.int (nI (at9 + 1))) := hw8
  have hO : OKP G h0 a (upd (upd (upd (upd F 2 (nI sz)) 9 (nI ((at9 + 1) + 1))) 10 (nI dp)) 11 (nI sg)) R Z B J K w := hO.to rfl
  refine W.widen (k := 0) (n := 0) (by show 0 + 0 ≤ 0; omega) (by show 0 + 0 ≤ 0; omega) ?_
  refine W.eq (g2 := F0 m 12 ls [.int (nI (at9 + 1))]) rfl ?_
  refine lv_pop hx hb dX8_catchBlock_12 rfl ?_
  refine lv_aload_n hx hb dX8_catchBlock_13 rfl (lv_at hl 0 rfl) ?_
  refine lv_bipush (v := 65) hx hb dX8_catchBlock_14 (by decide) ?_
  have hO : OKW G h0 a (upd (upd (upd (upd (upd (upd (upd F 2 (nI sz)) 9 (nI at9)) 10 (nI dp)) 11 (nI sg)) 9 (nI ((at9 + 1) + 1))) 2 (nI sz)) 9 (nI ((at9 + 1) + 1))) R Z B J K.1 (fun q99 x99 => x99 = rep G a K q99) w := hO.to rfl
  obtain ⟨_, qr16, hqr17⟩ := hO.2.1 23 _ (sg_23 G h0 a _ _ _ _ _)
  refine pn_V0 (G := G) (As := [.int 65]) (rest := []) hx hb hml hown hq hE hX pX0_al hP hD hS hA hl.1 (P_take l G h0 a (upd (upd (upd (upd (upd F 2 (nI sz)) 9 (nI at9)) 10 (nI dp)) 11 (nI sg)) 9 (nI ((at9 + 1) + 1))) R Z B J K.1 (fun q99 x99 => x99 = rep G a K q99) w 65 ((at9 + 1) + 1) sz (by omega) (by omega) (by decide) hO hl0) (gV pw_793 pw_794 pw_795 pw_796 pw_781) hV_X8_take qr16 5 hqr17 rfl rfl rfl (Nat.le_of_ble_eq_true rfl) dX8_catchBlock_16 ⟨(by show 0 + 1 ≤ (2 * (sz - at9) + 20); omega), (by show 0 + 6 ≤ (11 * (2 * (sz - at9) + 20)); omega)⟩ ⟨(by show 7 + 1 ≤ (50 * n + 56); omega), (by show 8 + (2 + 11) + 122 ≤ (1500 * n + 1600); omega)⟩ (fun v15 u13 H locs hw14 hP hD hS => ?_) (fun ux ce9 q9 H9 locs9 hux hP9 hD9 hS9 hce hcv hcl => pb_out ux (ThQ.up (Thx.same (Thx.same (Thx.f Thx.rfl (by omega)) rfl) rfl) RhX.rfl hux) hnt hlocks hce hcv hcl hP9 hD9 hS9 (by show 0 + 1 ≤ (2 * (sz - at9) + 20); omega) (by show 0 + 6 ≤ (11 * (2 * (sz - at9) + 20)); omega))
  obtain ⟨w, _⟩ := u13
  obtain ⟨hw14, h18, hO⟩ := hw14
  have h18 : ((at9 + 1) + 1) + 1 ≤ sz := h18
  obtain rfl : v15 = some (.int (nI ((at9 + 1) + 1))) := hw14
  have hO : OKP G h0 a (upd (upd (upd (upd F 2 (nI sz)) 9 (nI (((at9 + 1) + 1) + 1))) 10 (nI dp)) 11 (nI sg)) R Z B J K w := hO.to rfl
  refine W.widen (k := 0) (n := 0) (by show 0 + 0 ≤ 0; omega) (by show 0 + 0 ≤ 0; omega) ?_
  refine W.eq (g2 := F0 m 19 ls [.int (nI ((at9 + 1) + 1))]) rfl ?_
  refine lv_istore_n (lv' := [(1, .int (nI ((at9 + 1) + 1))), (0, .ref (a 3))]) hx hb dX8_catchBlock_19 rfl hl (by decide) rfl (fun ls hl => ?_)
  refine lv_aload_n hx hb dX8_catchBlock_20 rfl (lv_at hl 1 rfl) ?_
  refine c_get (v := .ref (a 1)) (C := RX8) (Tc := TX8) (N := 5) (ci := 5) hx hb hq pin_wsX80 hown hE hP hO 23 (sg_23 G h0 a _ _ _ _ _) rfl 0 (by decide) (hq _ pw_774) (fun _ h9 => h9) rfl dX8_catchBlock_21 ?_
  refine lv_iload_n hx hb dX8_catchBlock_24 rfl (lv_at hl 0 rfl) ?_
  refine lv_iconst (v := 3) hx hb dX8_catchBlock_25 (by decide) ?_
  have hO : OKW G h0 a (upd (upd (upd (upd (upd F 2 (nI sz)) 9 (nI (((at9 + 1) + 1) + 1))) 10 (nI dp)) 11 (nI sg)) 2 (nI sz)) R Z B J K.1 (fun q99 x99 => x99 = rep G a K q99) w := hO.to rfl
  obtain ⟨_, qr22, hqr23⟩ := hO.2.1 2 _ (sg_2 G h0 a _ _ _ _ _)
  refine pc_V0 (G := G) (As := [.int (nI ((at9 + 1) + 1)), .int 3]) (rest := []) hx hb hml hown hq hE hX pX0_al hP hD hS hA hl.1 (K_giveRole l G h0 a (upd (upd (upd (upd F 2 (nI sz)) 9 (nI (((at9 + 1) + 1) + 1))) 10 (nI dp)) 11 (nI sg)) R Z B J K.1 (fun q99 x99 => x99 = rep G a K q99) w (nI ((at9 + 1) + 1)) 3 sz (by omega) hO) (gV pw_822 pw_823 pw_824 pw_59 pw_819) hV_X10_giveRole qr22 7 hqr23 rfl rfl rfl (Nat.le_of_ble_eq_true rfl) dX8_catchBlock_26 ⟨(by show 0 + 0 ≤ (2 * (sz - at9) + 20); omega), (by show 0 + 0 ≤ (11 * (2 * (sz - at9) + 20)); omega)⟩ ⟨(by show 2 + 1 ≤ (50 * n + 56); omega), (by show 8 + (3 + 11) + 60 ≤ (1500 * n + 1600); omega)⟩ (fun v21 u19 H locs hw20 hP hD hS => ?_)
  obtain ⟨w, f24⟩ := u19
  obtain ⟨hw20, hO⟩ := hw20
  obtain rfl : v21 = none := hw20
  have hO : OKP G h0 a (upd (upd (upd (upd F 2 (nI sz)) 9 (nI (((at9 + 1) + 1) + 1))) 10 (nI dp)) 11 (nI sg)) R Z (updA B 10 f24) J K w := hO.to rfl
  refine W.widen (k := 0) (n := 0) (Nat.le_of_ble_eq_true rfl) (Nat.le_of_ble_eq_true rfl) ?_
  refine W.eq (g2 := F0 m 29 ls []) rfl ?_
  refine p_new (s9 := 1) (C := RX7) (T := TX7) (N := 11) (ci := 13) (fs := [.int 0, .int 0, .int 0, .int 0, .int 0, .int 0, .null, .null, .null, .null, .null]) hx hb hq pin_wsX70 tyX7 tyX7_ok hown (hq _ pw_870) (hq _ pw_871) (hq _ pw_872) hE hP hD hS hA hO rfl nw_X7 (by decide) (fun q => by rw [rep_1 (show (kN K q 1 0).1 q = 1 from if_pos rfl)]; unfold fsNode kN; simp only [if_true]; rfl) (by show 0 + 1 ≤ (2 * (sz - at9) + 20); omega) (by show 0 + 11 ≤ (11 * (2 * (sz - at9) + 20)); omega) dX8_catchBlock_29 (fun q25 H w hq26 hP hD hS hO => ?_)
  have hf27 : (kN K q25 1 0).1 q25 = 1 := if_pos rfl
  refine W.widen (k := 1) (n := 11) (by show 0 + 1 ≤ 1; omega) (by show 0 + 11 ≤ 11; omega) ?_
  refine lv_dup hx hb dX8_catchBlock_32 rfl ?_
  refine lv_bipush (v := 35) hx hb dX8_catchBlock_33 (by decide) ?_
  refine lv_aload_n hx hb dX8_catchBlock_35 rfl (lv_at hl 1 rfl) ?_
  refine lv_bipush (v := 65) hx hb dX8_catchBlock_36 (by decide) ?_
  have hO : OKW G h0 a (upd (upd (upd (upd (upd (upd (upd F 2 (nI sz)) 9 (nI at9)) 10 (nI dp)) 11 (nI sg)) 9 (nI (((at9 + 1) + 1) + 1))) 2 (nI sz)) 9 (nI (((at9 + 1) + 1) + 1))) R Z (updA B 10 f24) J ((kN K q25 1 0).1) (fun q99 x99 => x99 = rep G a (kN K q25 1 0) q99) w := hO.to rfl
  obtain ⟨_, qr31, hqr32⟩ := hO.2.1 23 _ (sg_23 G h0 a _ _ _ _ _)
  refine pn_V0 (G := G) (As := [.int 65]) (rest := [.int 35, .ref q25, .ref q25]) hx hb hml hown hq hE hX pX0_al hP hD hS hA hl.1 (P_take l G h0 a (upd (upd (upd (upd (upd F 2 (nI sz)) 9 (nI at9)) 10 (nI dp)) 11 (nI sg)) 9 (nI (((at9 + 1) + 1) + 1))) R Z (updA B 10 f24) J ((kN K q25 1 0).1) (fun q99 x99 => x99 = rep G a (kN K q25 1 0) q99) w 65 (((at9 + 1) + 1) + 1) sz (by omega) (by omega) (by decide) hO hl0) (gV pw_793 pw_794 pw_795 pw_796 pw_781) hV_X8_take qr31 5 hqr32 rfl rfl rfl (Nat.le_of_ble_eq_true rfl) dX8_catchBlock_38 ⟨(by show 1 + 1 ≤ (2 * (sz - at9) + 20); omega), (by show 11 + 6 ≤ (11 * (2 * (sz - at9) + 20)); omega)⟩ ⟨(by show 7 + 1 ≤ (50 * n + 56); omega), (by show 8 + (2 + 11) + 122 ≤ (1500 * n + 1600); omega)⟩ (fun v30 u28 H locs hw29 hP hD hS => ?_) (fun ux ce9 q9 H9 locs9 hux hP9 hD9 hS9 hce hcv hcl => pb_out ux (ThQ.up (Thx.same (Thx.same (Thx.b (Thx.f Thx.rfl (by omega)) (by omega) (by decide)) rfl) rfl) RhX.rfl hux) hnt hlocks hce hcv hcl hP9 hD9 hS9 (by show 1 + 1 ≤ (2 * (sz - at9) + 20); omega) (by show 11 + 6 ≤ (11 * (2 * (sz - at9) + 20)); omega))
  obtain ⟨w, _⟩ := u28
  obtain ⟨hw29, h33, hO⟩ := hw29
  have h33 : (((at9 + 1) + 1) + 1) + 1 ≤ sz := h33
  obtain rfl : v30 = some (.int (nI (((at9 + 1) + 1) + 1))) := hw29
  have hO : OKP G h0 a (upd (upd (upd (upd F 2 (nI sz)) 9 (nI ((((at9 + 1) + 1) + 1) + 1))) 10 (nI dp)) 11 (nI sg)) R Z (updA B 10 f24) J (kN K q25 1 0) w := hO.to rfl
  refine W.widen (k := 1) (n := 11) (by show 1 + 0 ≤ 1; omega) (by show 11 + 0 ≤ 11; omega) ?_
  refine W.eq (g2 := F0 m 41 ls [.int (nI (((at9 + 1) + 1) + 1)), .int 35, .ref q25, .ref q25]) rfl ?_
  refine lv_iload_n hx hb dX8_catchBlock_41 rfl (lv_at hl 0 rfl) ?_
  have hO : OKP G h0 a (upd (upd (upd (upd F 2 (nI sz)) 9 (nI ((((at9 + 1) + 1) + 1) + 1))) 10 (nI dp)) 11 (nI sg)) R Z (updA B 10 f24) J (kN K q25 1 0) w := hO.to rfl
  obtain ⟨qr37, hqr38⟩ := p_recv hO (by rw [hf27]; decide) (rep_1 hf27)
  refine pc_I0 (G := G) (As := [.int 35, .int (nI (((at9 + 1) + 1) + 1)), .int (nI ((at9 + 1) + 1))]) (rest := [.ref q25]) hx hb hml hown hq hE hX pX0_al hP hD hS hA hl.1 (N_init l G h0 a (upd (upd (upd (upd F 2 (nI sz)) 9 (nI ((((at9 + 1) + 1) + 1) + 1))) 10 (nI dp)) 11 (nI sg)) R Z (updA B 10 f24) J (kN K q25 1 0) w q25 35 (nI (((at9 + 1) + 1) + 1)) (nI ((at9 + 1) + 1)) (by omega) hO) pw_874 pw_875 pw_872 pw_765 rfl hS_X7_init rfl (Nat.le_of_ble_eq_true rfl) dX8_catchBlock_42 ⟨(by show 1 + 0 ≤ (2 * (sz - at9) + 20); omega), (by show 11 + 0 ≤ (11 * (2 * (sz - at9) + 20)); omega)⟩ ⟨(by show 2 + 1 ≤ (50 * n + 56); omega), (by show 8 + (4 + 11) + 60 ≤ (1500 * n + 1600); omega)⟩ (fun v36 u34 H locs hw35 hP hD hS => ?_)
  obtain ⟨w, _⟩ := u34
  obtain ⟨hw35, hO⟩ := hw35
  obtain rfl : v36 = none := hw35
  have hf39 : (kI (kI (kI (kN K q25 1 0) 0 q25 35) 1 q25 (nI (((at9 + 1) + 1) + 1))) 2 q25 (nI ((at9 + 1) + 1))).1 q25 = 1 := hf27
  have hO : OKP G h0 a (upd (upd (upd (upd F 2 (nI sz)) 9 (nI ((((at9 + 1) + 1) + 1) + 1))) 10 (nI dp)) 11 (nI sg)) R Z (updA B 10 f24) J (kI (kI (kI (kN K q25 1 0) 0 q25 35) 1 q25 (nI (((at9 + 1) + 1) + 1))) 2 q25 (nI ((at9 + 1) + 1))) w := hO.to rfl
  refine W.widen (k := 1) (n := 11) (by show 1 + 0 ≤ 1; omega) (by show 11 + 0 ≤ 11; omega) ?_
  refine W.eq (g2 := F0 m 45 ls [.ref q25]) rfl ?_
  change OKP G h0 a (upd (upd (upd (upd F 2 (nI sz)) 9 (nI ((((at9 + 1) + 1) + 1) + 1))) 10 (nI dp)) 11 (nI sg)) R Z (updA B 10 f24) J (mkN K q25 35 (nI (((at9 + 1) + 1) + 1)) (nI ((at9 + 1) + 1))) w at hO
  obtain ⟨K40, hK41⟩ : ∃ z : PK, z = (mkN K q25 35 (nI (((at9 + 1) + 1) + 1)) (nI ((at9 + 1) + 1))) := ⟨_, rfl⟩
  rw [← hK41] at hO
  have hf42 : K40.1 q25 = 1 := by rw [hK41]; exact mkN_T
  have hf43 : K40.2.1 0 q25 = 35 := by rw [hK41]; exact mkN_0
  have hf44 : K40.2.1 2 q25 = (nI ((at9 + 1) + 1)) := by rw [hK41]; exact mkN_2
  have hf45 : K40.2.2.1 0 q25 = none := by rw [hK41]; exact mkN_C
  have hf46 : K40.2.2.1 1 q25 = none := by rw [hK41]; exact mkN_C
  have hf47 : K40.2.2.1 2 q25 = none := by rw [hK41]; exact mkN_C
  have hf48 : K40.2.2.1 3 q25 = none := by rw [hK41]; exact mkN_C
  have hf49 : K40.2.2.1 4 q25 = none := by rw [hK41]; exact mkN_C
  have hns50 : NwS K K40 g (gset g q25 0 0 0) := by rw [hK41]; exact NwS.node hns0 hq26
  have hq51 : K.1 q25 = 0 := old_T hns0.2.1 hq26
  have hg52 : (gset g q25 0 0 0) 0 q25 = 0 := gset_0
  have hno53 : NoO K40 (gset g q25 0 0 0) q25 := by rw [hK41]; exact NoO.new hns0.1 hq26
  refine lv_astore_n (lv' := [(2, .ref q25), (1, .int (nI ((at9 + 1) + 1))), (0, .ref (a 3))]) hx hb dX8_catchBlock_45 rfl hl (by decide) rfl (fun ls hl => ?_)
  refine lv_aload_n hx hb dX8_catchBlock_46 rfl (lv_at hl 2 rfl) ?_
  refine lv_bipush (v := 35) hx hb dX8_catchBlock_47 (by decide) ?_
  have hO : OKW G h0 a (upd (upd (upd (upd (upd (upd (upd F 2 (nI sz)) 9 (nI at9)) 10 (nI dp)) 11 (nI sg)) 9 (nI ((((at9 + 1) + 1) + 1) + 1))) 2 (nI sz)) 9 (nI ((((at9 + 1) + 1) + 1) + 1))) R Z (updA B 10 f24) J K40.1 (fun q99 x99 => x99 = rep G a K40 q99) w := hO.to rfl
  obtain ⟨_, qr57, hqr58⟩ := hO.2.1 23 _ (sg_23 G h0 a _ _ _ _ _)
  refine pn_V0 (G := G) (As := [.int 35]) (rest := []) hx hb hml hown hq hE hX pX0_al hP hD hS hA hl.1 (P_take l G h0 a (upd (upd (upd (upd (upd F 2 (nI sz)) 9 (nI at9)) 10 (nI dp)) 11 (nI sg)) 9 (nI ((((at9 + 1) + 1) + 1) + 1))) R Z (updA B 10 f24) J K40.1 (fun q99 x99 => x99 = rep G a K40 q99) w 35 ((((at9 + 1) + 1) + 1) + 1) sz (by omega) (by omega) (by decide) hO hl0) (gV pw_793 pw_794 pw_795 pw_796 pw_781) hV_X8_take qr57 5 hqr58 rfl rfl rfl (Nat.le_of_ble_eq_true rfl) dX8_catchBlock_49 ⟨(by show 1 + 1 ≤ (2 * (sz - at9) + 20); omega), (by show 11 + 6 ≤ (11 * (2 * (sz - at9) + 20)); omega)⟩ ⟨(by show 7 + 1 ≤ (50 * n + 56); omega), (by show 8 + (2 + 11) + 122 ≤ (1500 * n + 1600); omega)⟩ (fun v56 u54 H locs hw55 hP hD hS => ?_) (fun ux ce9 q9 H9 locs9 hux hP9 hD9 hS9 hce hcv hcl => pb_out ux (ThQ.up (Thx.same (Thx.same (Thx.b (Thx.f Thx.rfl (by omega)) (by omega) (by decide)) rfl) rfl) RhX.rfl hux) hnt hlocks hce hcv hcl hP9 hD9 hS9 (by show 1 + 1 ≤ (2 * (sz - at9) + 20); omega) (by show 11 + 6 ≤ (11 * (2 * (sz - at9) + 20)); omega))
  obtain ⟨w, _⟩ := u54
  obtain ⟨hw55, h59, hO⟩ := hw55
  have h59 : ((((at9 + 1) + 1) + 1) + 1) + 1 ≤ sz := h59
  obtain rfl : v56 = some (.int (nI ((((at9 + 1) + 1) + 1) + 1))) := hw55
  have hO : OKP G h0 a (upd (upd (upd (upd F 2 (nI sz)) 9 (nI (((((at9 + 1) + 1) + 1) + 1) + 1))) 10 (nI dp)) 11 (nI sg)) R Z (updA B 10 f24) J K40 w := hO.to rfl
  refine W.widen (k := 1) (n := 11) (by show 1 + 0 ≤ 1; omega) (by show 11 + 0 ≤ 11; omega) ?_
  refine W.eq (g2 := F0 m 52 ls [.int (nI ((((at9 + 1) + 1) + 1) + 1))]) rfl ?_
  refine lv_pop hx hb dX8_catchBlock_52 rfl ?_
  refine lv_aload_n hx hb dX8_catchBlock_53 rfl (lv_at hl 0 rfl) ?_
  refine lv_aload_n hx hb dX8_catchBlock_54 rfl (lv_at hl 2 rfl) ?_
  have hO : OKP G h0 a (upd (upd (upd (upd (upd (upd (upd (upd (upd F 2 (nI sz)) 9 (nI at9)) 10 (nI dp)) 11 (nI sg)) 9 (nI (((((at9 + 1) + 1) + 1) + 1) + 1))) 2 (nI sz)) 9 (nI (((((at9 + 1) + 1) + 1) + 1) + 1))) 10 (nI dp)) 11 (nI sg)) R Z (updA B 10 f24) J K40 w := hO.to rfl
  obtain ⟨_, qr63, hqr64⟩ := hO.2.1 23 _ (sg_23 G h0 a _ _ _ _ _)
  refine pn_V0 (G := G) (As := []) (rest := [.ref q25]) hx hb hml hown hq hE hX pX0_al hP hD hS hA hl.1 (P_block l G h0 a (upd (upd (upd (upd (upd F 2 (nI sz)) 9 (nI at9)) 10 (nI dp)) 11 (nI sg)) 9 (nI (((((at9 + 1) + 1) + 1) + 1) + 1))) R Z (updA B 10 f24) J K40 w n (((((at9 + 1) + 1) + 1) + 1) + 1) sz dp sg 0 (gset g q25 0 0 0) (by omega) (by omega) hdp (by omega) hns50.1 (fun o9 h9 => absurd h9 (by omega)) ist hO hl0) (gV pw_1007 pw_1008 pw_1009 pw_796 pw_1056) hV_X8_block qr63 5 hqr64 rfl rfl rfl (Nat.le_of_ble_eq_true rfl) dX8_catchBlock_55 ⟨(by show 1 + (2 * (sz - (((((at9 + 1) + 1) + 1) + 1) + 1)) + 20) ≤ (2 * (sz - at9) + 20); omega), (by show 11 + (11 * (2 * (sz - (((((at9 + 1) + 1) + 1) + 1) + 1)) + 20)) ≤ (11 * (2 * (sz - at9) + 20)); omega)⟩ ⟨(by show (50 * n + 54) + 1 ≤ (50 * n + 56); omega), (by show 8 + (5 + 11) + (1500 * n + 1560) ≤ (1500 * n + 1600); omega)⟩ (fun v62 u60 H locs hw61 hP hD hS => ?_) (fun ux ce9 q9 H9 locs9 hux hP9 hD9 hS9 hce hcv hcl => pb_out ux (ThQ.up (Thx.same (Thx.same (Thx.same (Thx.same (Thx.b (Thx.f Thx.rfl (by omega)) (by omega) (by decide)) rfl) rfl) rfl) rfl) RhX.rfl hux) hnt hlocks hce hcv hcl hP9 hD9 hS9 (by show 1 + (2 * (sz - (((((at9 + 1) + 1) + 1) + 1) + 1)) + 20) ≤ (2 * (sz - at9) + 20); omega) (by show 11 + (11 * (2 * (sz - (((((at9 + 1) + 1) + 1) + 1) + 1)) + 20)) ≤ (11 * (2 * (sz - at9) + 20)); omega))
  obtain ⟨w, r65, K66, g67, at68, sg69, f70, k71⟩ := u60
  obtain ⟨hw61, h72, h73, h74, h75, h76, hO⟩ := hw61
  have h72 : NwR K40 K66 (gset g q25 0 0 0) g67 r65 0 k71 ((171 + 3 * (20 - dp))) := h72
  have h73 : (((((at9 + 1) + 1) + 1) + 1) + 1) + 2 ≤ at68 ∧ at68 ≤ sz := h73
  have h74 : sg ≤ sg69 ∧ sg69 ≤ 60 := h74
  have h75 : rS k71 = (((((at9 + 1) + 1) + 1) + 1) + 1) ∧ rE k71 ≤ at68 ∧ rS k71 ≤ rE k71 := h75
  have h76 : K66.2.1 0 r65 = 21 := h76
  obtain rfl : v62 = some (.ref r65) := hw61
  have hf77 : K66.1 q25 = 1 := (((h72).2.1.1 q25 (by rw [hf42]; decide)).1).trans hf42
  have hf78 : K66.2.1 0 q25 = 35 := (((h72).2.1.1 q25 (by rw [hf42]; decide)).2.1 0).trans hf43
  have hf79 : K66.2.1 2 q25 = (nI ((at9 + 1) + 1)) := (((h72).2.1.1 q25 (by rw [hf42]; decide)).2.1 2).trans hf44
  have hf80 : K66.2.2.1 0 q25 = none := (((h72).2.1.1 q25 (by rw [hf42]; decide)).2.2.1 0).trans hf45
  have hf81 : K66.2.2.1 1 q25 = none := (((h72).2.1.1 q25 (by rw [hf42]; decide)).2.2.1 1).trans hf46
  have hf82 : K66.2.2.1 2 q25 = none := (((h72).2.1.1 q25 (by rw [hf42]; decide)).2.2.1 2).trans hf47
  have hf83 : K66.2.2.1 3 q25 = none := (((h72).2.1.1 q25 (by rw [hf42]; decide)).2.2.1 3).trans hf48
  have hf84 : K66.2.2.1 4 q25 = none := (((h72).2.1.1 q25 (by rw [hf42]; decide)).2.2.1 4).trans hf49
  have hO : OKP G h0 a (upd (upd (upd (upd F 2 (nI sz)) 9 (nI at68)) 10 (nI dp)) 11 (nI sg69)) R Z (updA B 10 f70) J K66 w := hO.to rfl
  refine W.widen (k := (1 + (2 * (at68 - (((((at9 + 1) + 1) + 1) + 1) + 1)) - 3))) (n := (11 + (11 * (2 * (at68 - (((((at9 + 1) + 1) + 1) + 1) + 1)) - 3)))) (by show 1 + (2 * (at68 - (((((at9 + 1) + 1) + 1) + 1) + 1)) - 3) ≤ (1 + (2 * (at68 - (((((at9 + 1) + 1) + 1) + 1) + 1)) - 3)); omega) (by show 11 + (11 * (2 * (at68 - (((((at9 + 1) + 1) + 1) + 1) + 1)) - 3)) ≤ (11 + (11 * (2 * (at68 - (((((at9 + 1) + 1) + 1) + 1) + 1)) - 3))); omega) ?_
  refine W.eq (g2 := F0 m 58 ls [.ref r65, .ref q25]) rfl ?_
  have hns85 : NwS K K66 g g67 := NwS.call hns50 h72 (fun o9 h9 => absurd h9 (by omega))
  have hf86 : K66.1 r65 = 1 := h72.2.2.1.2.1
  have hg87 : g67 0 q25 = 0 := (h72.2.1.2 q25 (by rw [hf42]; decide) 0).trans hg52
  have hno88 : NoO K66 g67 q25 := NoO.call hno53 h72 hf42 (by omega)
  have hrk89 : g67 2 r65 = k71 := h72.2.2.1.2.2.2.2.2.1
  have hgy90 := h72.2.2.1
  have hgy90a := hgy90.2.2.1
  have hgy90b := hgy90.2.2.2.1
  refine p_put (v := .ref r65) (ty := (.object "JinjaTongue$Node")) (C := RX7) (Tc := TX7) (N := 11) (ci := 13) (K' := (kC K66 0 q25 (some r65))) hx hb hq pin_wsX70 tyX7 tyX7_ok nmX7 hown hE hP hD hS hO (by rw [hf77]; decide) (rep_1 hf77) rfl 6 (by decide) (hq _ pw_938) (fun _ h9 => h9) rfl (by decide +kernel) rfl rfl (Nat.le_of_ble_eq_true rfl) rfl (by rw [rep_1 (show (kC K66 0 q25 (some r65)).1 q25 = 1 from hf77), pc_0] <;> rfl) (fun p9 hp9 => rep_kC hp9) dX8_catchBlock_58 (fun H locs w hP hD hS hO => ?_)
  obtain ⟨K91, hK92⟩ : ∃ z : PK, z = (kC K66 0 q25 (some r65)) := ⟨_, rfl⟩
  rw [← hK92] at hO
  have hf93 : K91.1 q25 = 1 := (by rw [hK92]; exact hf77)
  have hf94 : K91.2.1 0 q25 = 35 := (by rw [hK92]; exact hf78)
  have hf95 : K91.2.1 2 q25 = (nI ((at9 + 1) + 1)) := (by rw [hK92]; exact hf79)
  have hf96 : K91.2.2.1 1 q25 = none := (by rw [hK92]; exact (kC_of (by decide)).trans hf81)
  have hf97 : K91.2.2.1 2 q25 = none := (by rw [hK92]; exact (kC_of (by decide)).trans hf82)
  have hf98 : K91.2.2.1 3 q25 = none := (by rw [hK92]; exact (kC_of (by decide)).trans hf83)
  have hf99 : K91.2.2.1 4 q25 = none := (by rw [hK92]; exact (kC_of (by decide)).trans hf84)
  have hf100 : K91.1 r65 = 1 := (by rw [hK92]; exact hf86)
  have hf101 : K91.2.1 0 r65 = 21 := (by rw [hK92]; exact h76)
  have hf102 : K91.2.2.1 0 q25 = some r65 := by rw [hK92]; exact kC_eq
  have hns103 : NwS K K91 g g67 := by rw [hK92]; exact NwS.put hns85 hq51 hg87
  have hno104 : NoO K91 g67 q25 := by rw [hK92]; exact hno88
  refine lv_aload_n hx hb dX8_catchBlock_61 rfl (lv_at hl 0 rfl) ?_
  refine W_size (fun hz1 hz2 => ?_)
  refine vx_ret ?_
  obtain ⟨k9, hkI, hkS, hkE, hkM, hkN⟩ : ∃ z : Nat, Itv z ∧ rS z = at9 ∧ rE z = at68 ∧ rM z = at68 ∧ rN z = at68 := ⟨rk at9 at68 at68 at68, Itv.of (by omega), rS_rk (by omega), rE_rk (by omega), rM_rk (by omega), rN_rk (by omega)⟩
  have hkid : ∀ f9 y9 : Nat, f9 ≤ 3 → K91.2.2.1 f9 q25 = some y9 → K91.1 y9 = 1 ∧ 1 ≤ g67 0 y9 ∧ g67 0 y9 < (172 + 3 * (20 - dp)) := by
    intro f9 y9 hf9 hy9
    rcases (show f9 = 0 ∨ f9 = 1 ∨ f9 = 2 ∨ f9 = 3 by omega) with rfl | rfl | rfl | rfl
    · rw [hf102] at hy9; cases hy9; exact ⟨hf100, (by omega), by omega⟩
    · rw [hf96] at hy9; cases hy9
    · rw [hf97] at hy9; cases hy9
    · rw [hf98] at hy9; cases hy9
  have hdn := NwS.done35 (q := q25) (L := (172 + 3 * (20 - dp))) (O := O) (k := k9) hns103 hq51 hf93 hg87 (by omega) hkI (by rw [hf94]; exact ⟨(fun _ => (by show ¬ K91.2.2.1 0 q25 = none; rw [hf102]; intro z; cases z)), (fun z => absurd z (by decide)), (fun z => absurd z (by decide)), (fun z => absurd z (by decide)), (fun z => absurd z (by decide))⟩) (fun f9 z => by rw [hf94] at z; rcases z with ⟨z, _⟩ | ⟨z | z | z, _⟩ <;> exact absurd z (by decide)) hkid hf99 hno104 (fun f9 y9 h9 e9 => by rw [hf94]; rcases (show f9 = 0 ∨ f9 = 1 ∨ f9 = 2 ∨ f9 = 3 by omega) with rfl | rfl | rfl | rfl; (· rw [hf102] at e9; cases e9; rw [hrk89]; exact Kch.k35 hf101 (fun _ => (by omega))); (· rw [hf96] at e9; cases e9); (· rw [hf97] at e9; cases e9); (· rw [hf98] at e9; cases e9)) hf94 how
  have hz105 : NwR K K91 g (gset g67 q25 (172 + 3 * (20 - dp)) O k9) q25 O k9 ((172 + 3 * (20 - dp))) := hdn
  have hz106 : at9 + 7 ≤ at68 ∧ at68 ≤ sz := (by omega)
  have hz107 : sg ≤ sg69 ∧ sg69 ≤ 60 := (by omega)
  have hz108 : rS k9 = at9 ∧ rE k9 ≤ at68 ∧ rS k9 ≤ rE k9 := (by omega)
  have hO : OKP G h0 a (upd (upd (upd (upd F 2 (nI sz)) 9 (nI at68)) 10 (nI dp)) 11 (nI sg69)) R Z (updA B 10 f70) J K91 w := hO.to rfl
  refine W.widen (k := (2 * (sz - at9) + 20)) (n := (11 * (2 * (sz - at9) + 20))) (by omega) (by omega) ?_
  have hzz1 : H.size ≤ s.heap.size + ((2 * (at68 - at9) - 6)) := (by have z : (1 + (2 * (at68 - (((((at9 + 1) + 1) + 1) + 1) + 1)) - 3)) ≤ (2 * (at68 - at9) - 6) := (by omega); omega)
  have hzz2 : hSl H ≤ hSl s.heap + ((11 * (2 * (at68 - at9) - 6))) := (by have z : (11 + (11 * (2 * (at68 - (((((at9 + 1) + 1) + 1) + 1) + 1)) - 3))) ≤ (11 * (2 * (at68 - at9) - 6)) := (by omega); omega)
  exact W.aret (v := .ref q25) hx hb hr (Or.inl ⟨_, rfl⟩) (Or.inr ⟨_, rfl⟩) (fun t99 ht99 hW99 => ⟨⟨_, (w, (q25, K91, (gset g67 q25 (172 + 3 * (20 - dp)) O k9), at68, sg69, f70, k9)), rfl, ⟨rfl, hz105, hz106, hz107, hz108, hO⟩, by rw [ht99]; exact hP, hD, by rw [ht99]; exact hzz1, by rw [ht99]; exact hzz2⟩, hS.F ht99⟩) hS.2.2 dX8_catchBlock_62
theorem dX8_ifStatement_0 : decode cX8_ifStatement 0 = .ok (.new 143, 3) := by decide +kernel
theorem dX8_ifStatement_3 : decode cX8_ifStatement 3 = .ok (.dup, 1) := by decide +kernel
theorem dX8_ifStatement_4 : decode cX8_ifStatement 4 = .ok (.bipush 25, 2) := by decide +kernel
theorem dX8_ifStatement_6 : decode cX8_ifStatement 6 = .ok (.aload_n 0, 1) := by decide +kernel
theorem dX8_ifStatement_7 : decode cX8_ifStatement 7 = .ok (.getfield 17, 3) := by decide +kernel
theorem dX8_ifStatement_10 : decode cX8_ifStatement 10 = .ok (.aload_n 0, 1) := by decide +kernel
theorem dX8_ifStatement_11 : decode cX8_ifStatement 11 = .ok (.getfield 17, 3) := by decide +kernel
theorem dX8_ifStatement_14 : decode cX8_ifStatement 14 = .ok (.invokespecial 145, 3) := by decide +kernel
theorem dX8_ifStatement_17 : decode cX8_ifStatement 17 = .ok (.astore_n 1, 1) := by decide +kernel
theorem dX8_ifStatement_18 : decode cX8_ifStatement 18 = .ok (.aload_n 0, 1) := by decide +kernel
theorem dX8_ifStatement_19 : decode cX8_ifStatement 19 = .ok (.dup, 1) := by decide +kernel
theorem dX8_ifStatement_20 : decode cX8_ifStatement 20 = .ok (.getfield 17, 3) := by decide +kernel
theorem dX8_ifStatement_23 : decode cX8_ifStatement 23 = .ok (.iconst 1, 1) := by decide +kernel
theorem dX8_ifStatement_24 : decode cX8_ifStatement 24 = .ok (.iadd, 1) := by decide +kernel
theorem dX8_ifStatement_25 : decode cX8_ifStatement 25 = .ok (.putfield 17, 3) := by decide +kernel
theorem dX8_ifStatement_28 : decode cX8_ifStatement 28 = .ok (.aload_n 1, 1) := by decide +kernel
theorem dX8_ifStatement_29 : decode cX8_ifStatement 29 = .ok (.aload_n 0, 1) := by decide +kernel
theorem dX8_ifStatement_30 : decode cX8_ifStatement 30 = .ok (.invokevirtual 233, 3) := by decide +kernel
theorem dX8_ifStatement_33 : decode cX8_ifStatement 33 = .ok (.putfield 165, 3) := by decide +kernel
theorem dX8_ifStatement_36 : decode cX8_ifStatement 36 = .ok (.aload_n 1, 1) := by decide +kernel
theorem dX8_ifStatement_37 : decode cX8_ifStatement 37 = .ok (.aload_n 0, 1) := by decide +kernel
theorem dX8_ifStatement_38 : decode cX8_ifStatement 38 = .ok (.iconst 0, 1) := by decide +kernel
theorem dX8_ifStatement_39 : decode cX8_ifStatement 39 = .ok (.invokevirtual 161, 3) := by decide +kernel
theorem dX8_ifStatement_42 : decode cX8_ifStatement 42 = .ok (.putfield 230, 3) := by decide +kernel
theorem dX8_ifStatement_45 : decode cX8_ifStatement 45 = .ok (.aload_n 0, 1) := by decide +kernel
theorem dX8_ifStatement_46 : decode cX8_ifStatement 46 = .ok (.bipush 6, 2) := by decide +kernel
theorem dX8_ifStatement_48 : decode cX8_ifStatement 48 = .ok (.invokevirtual 80, 3) := by decide +kernel
theorem dX8_ifStatement_51 : decode cX8_ifStatement 51 = .ok (.ifCond .eq 12, 3) := by decide +kernel
theorem dX8_ifStatement_63 : decode cX8_ifStatement 63 = .ok (.aload_n 1, 1) := by decide +kernel
theorem dX8_ifStatement_64 : decode cX8_ifStatement 64 = .ok (.areturn, 1) := by decide +kernel
theorem dX8_ifStatement_54 : decode cX8_ifStatement 54 = .ok (.aload_n 1, 1) := by decide +kernel
theorem dX8_ifStatement_55 : decode cX8_ifStatement 55 = .ok (.aload_n 0, 1) := by decide +kernel
theorem dX8_ifStatement_56 : decode cX8_ifStatement 56 = .ok (.iconst 0, 1) := by decide +kernel
theorem dX8_ifStatement_57 : decode cX8_ifStatement 57 = .ok (.invokevirtual 161, 3) := by decide +kernel
theorem dX8_ifStatement_60 : decode cX8_ifStatement 60 = .ok (.putfield 236, 3) := by decide +kernel
theorem hV_X8_condition : yX8_condition.cls = RX8 ∧ yX8_condition.cls ≠ "java/lang/invoke/MethodHandle" ∧ yX8_condition.cls ≠ "java/lang/invoke/VarHandle" ∧ (parseMethodDescriptor yX8_condition.desc).map (fun d => d.parameters.length) = some 0 := by decide +kernel
set_option maxHeartbeats 40000000 in
set_option maxRecDepth 100000 in
theorem P_if (l : Launch) (G : pT) (h0 : Nat) (a : Nat → Nat) (F : Nat → Int32) (R : Nat → Value) (Z : Int64) (B : Nat → Nat → Int32) (J : Nat → Nat → Int64) (K : PK) (w : va_W) (n : Nat) (at9 : Nat) (sz : Nat) (dp : Nat) (sg : Nat) (O : Nat) (g : Nat → Nat → Nat) (hsz : sz ≤ 5000) (hat : at9 ≤ sz) (hdp : dp + n = 20) (hsg : sg ≤ 60) (hwn : WN K g) (how : ∀ o : Nat, O = o + 1 → K.1 o = 1 ∧ g 0 o = 0 ∧ ¬ K.2.1 0 o = 32) (hle : at9 + 1 ≤ sz) (ist : PSt l G n) (hO : OKP G h0 a (upd (upd (upd (upd F 2 (nI sz)) 9 (nI at9)) 10 (nI dp)) 11 (nI sg)) R Z B J K w) (hl0 : l.stackTraces = false) : PBn l G pX0 yX8_ifStatement cX8_ifStatement 2 (some (.object "JinjaTongue$Node")) ({ frames := (50 * n + 58), cells := (2 * (sz - at9) + 20), slots := (11 * (2 * (sz - at9) + 20)), locals := (1500 * n + 1650) }) [.ref (a 3)] w (fun (v : Option Value) (u : va_W × (Nat × PK × (Nat → Nat → Nat) × Nat × Nat × (Nat → Int32) × Nat)) => v = some (.ref u.2.1) ∧ (NwR K u.2.2.1 g u.2.2.2.1 u.2.1 O u.2.2.2.2.2.2.2 ((173 + 3 * (20 - dp)))) ∧ (at9 + 5 ≤ u.2.2.2.2.1 ∧ u.2.2.2.2.1 ≤ sz) ∧ (sg ≤ u.2.2.2.2.2.1 ∧ u.2.2.2.2.2.1 ≤ 60) ∧ (rS u.2.2.2.2.2.2.2 = at9 ∧ rE u.2.2.2.2.2.2.2 ≤ u.2.2.2.2.1 ∧ rS u.2.2.2.2.2.2.2 ≤ rE u.2.2.2.2.2.2.2) ∧ (OKP G h0 a (upd (upd (upd (upd F 2 (nI sz)) 9 (nI u.2.2.2.2.1)) 10 (nI dp)) 11 (nI u.2.2.2.2.2.1)) R Z (updA B 10 u.2.2.2.2.2.2.1) J u.2.2.1 u.1)) (fun u => u.1) (fun (u : va_W × (Nat × PK × (Nat → Nat → Nat) × Nat × Nat × (Nat → Int32) × Nat)) => (2 * (u.2.2.2.2.1 - at9) - 5)) (fun (u : va_W × (Nat × PK × (Nat → Nat → Nat) × Nat × Nat × (Nat → Int32) × Nat)) => (11 * (2 * (u.2.2.2.2.1 - at9) - 5))) (fun (u : va_W × (Nat → Int32) × (Nat → Value) × (Nat → Nat → Int32)) => ThQ G h0 a (upd (upd (upd (upd F 2 (nI sz)) 9 (nI at9)) 10 (nI dp)) 11 (nI sg)) R Z B J u) (fun u => u.1) := by
  intro sz
  refine vx_ofW (cc := cX8_ifStatement) (maxL := 2) (ret := (some (.object "JinjaTongue$Node"))) (by decide) rfl ?_
  intro p e s m args below meth c s₁ B9 hml hnt hv
  obtain ⟨rfl, hsz, hP, hD0, hE, hX⟩ := hv
  have hx := B9.exec
  have hb := B9.bytes
  have hr := B9.returns
  have hts := atoms_spec (ws := Cond.code yX8_ifStatement cX8_ifStatement 2 (some (.object "JinjaTongue$Node")) :: pw) B9.pre
  have hq : ∀ w ∈ pw, w.before _ s = true := fun w h => hts w (List.mem_cons_of_mem _ h)
  have hown : s.vm.findClass RX8 = some m.cls := findClass_of_methodNamed B9.named
  have hlocks := B9.notSynchronized
  subst hsz
  have hD := hD0.self (sz := s.heap.size)
  have hA : ∀ q : Nat, s.heap.size ≤ q → va_A w s.heap.size q := fun q h => Or.inr h
  generalize va_A w s.heap.size = A at hD hE hA ⊢
  have hS : va_S A s.heap s.heap [] := va_S.rf
  have hl := lv_entry ([.ref (a 3)]) (n := 2) (Nat.le_of_ble_eq_true rfl)
  rw [lg_entry_eq]
  generalize (lg_sl ([.ref (a 3)]) ++ List.replicate (2 - (lg_sl ([.ref (a 3)])).length) Slot.unset).toArray = ls at hl ⊢
  have hl : lv_has ls 2 [(0, .ref (a 3))] := hl
  have hns0 : NwS K K g g := NwS.nil hwn
  refine p_new (s9 := 1) (C := RX7) (T := TX7) (N := 11) (ci := 13) (fs := [.int 0, .int 0, .int 0, .int 0, .int 0, .int 0, .null, .null, .null, .null, .null]) hx hb hq pin_wsX70 tyX7 tyX7_ok hown (hq _ pw_870) (hq _ pw_871) (hq _ pw_872) hE hP hD hS hA hO rfl nw_X7 (by decide) (fun q => by rw [rep_1 (show (kN K q 1 0).1 q = 1 from if_pos rfl)]; unfold fsNode kN; simp only [if_true]; rfl) (by show 0 + 1 ≤ (2 * (sz - at9) + 20); omega) (by show 0 + 11 ≤ (11 * (2 * (sz - at9) + 20)); omega) dX8_ifStatement_0 (fun q1 H w hq2 hP hD hS hO => ?_)
  have hf3 : (kN K q1 1 0).1 q1 = 1 := if_pos rfl
  refine W.widen (k := 1) (n := 11) (by show 0 + 1 ≤ 1; omega) (by show 0 + 11 ≤ 11; omega) ?_
  refine lv_dup hx hb dX8_ifStatement_3 rfl ?_
  refine lv_bipush (v := 25) hx hb dX8_ifStatement_4 (by decide) ?_
  refine lv_aload_n hx hb dX8_ifStatement_6 rfl (lv_at hl 0 rfl) ?_
  refine c_get (v := .int (nI at9)) (C := RX8) (Tc := TX8) (N := 5) (ci := 5) hx hb hq pin_wsX80 hown hE hP hO 23 (sg_23 G h0 a _ _ _ _ _) rfl 2 (by decide) (hq _ pw_776) (fun _ h9 => h9) rfl dX8_ifStatement_7 ?_
  refine lv_aload_n hx hb dX8_ifStatement_10 rfl (lv_at hl 0 rfl) ?_
  refine c_get (v := .int (nI at9)) (C := RX8) (Tc := TX8) (N := 5) (ci := 5) hx hb hq pin_wsX80 hown hE hP hO 23 (sg_23 G h0 a _ _ _ _ _) rfl 2 (by decide) (hq _ pw_776) (fun _ h9 => h9) rfl dX8_ifStatement_11 ?_
  have hO : OKP G h0 a (upd (upd (upd (upd F 2 (nI sz)) 9 (nI at9)) 10 (nI dp)) 11 (nI sg)) R Z B J (kN K q1 1 0) w := hO.to rfl
  obtain ⟨qr7, hqr8⟩ := p_recv hO (by rw [hf3]; decide) (rep_1 hf3)
  refine pc_I0 (G := G) (As := [.int 25, .int (nI at9), .int (nI at9)]) (rest := [.ref q1]) hx hb hml hown hq hE hX pX0_al hP hD hS hA hl.1 (N_init l G h0 a (upd (upd (upd (upd F 2 (nI sz)) 9 (nI at9)) 10 (nI dp)) 11 (nI sg)) R Z B J (kN K q1 1 0) w q1 25 (nI at9) (nI at9) (by omega) hO) pw_874 pw_875 pw_872 pw_765 rfl hS_X7_init rfl (Nat.le_of_ble_eq_true rfl) dX8_ifStatement_14 ⟨(by show 1 + 0 ≤ (2 * (sz - at9) + 20); omega), (by show 11 + 0 ≤ (11 * (2 * (sz - at9) + 20)); omega)⟩ ⟨(by show 2 + 1 ≤ (50 * n + 58); omega), (by show 8 + (4 + 11) + 60 ≤ (1500 * n + 1650); omega)⟩ (fun v6 u4 H locs hw5 hP hD hS => ?_)
  obtain ⟨w, _⟩ := u4
  obtain ⟨hw5, hO⟩ := hw5
  obtain rfl : v6 = none := hw5
  have hf9 : (kI (kI (kI (kN K q1 1 0) 0 q1 25) 1 q1 (nI at9)) 2 q1 (nI at9)).1 q1 = 1 := hf3
  have hO : OKP G h0 a (upd (upd (upd (upd F 2 (nI sz)) 9 (nI at9)) 10 (nI dp)) 11 (nI sg)) R Z B J (kI (kI (kI (kN K q1 1 0) 0 q1 25) 1 q1 (nI at9)) 2 q1 (nI at9)) w := hO.to rfl
  refine W.widen (k := 1) (n := 11) (by show 1 + 0 ≤ 1; omega) (by show 11 + 0 ≤ 11; omega) ?_
  refine W.eq (g2 := F0 m 17 ls [.ref q1]) rfl ?_
  change OKP G h0 a (upd (upd (upd (upd F 2 (nI sz)) 9 (nI at9)) 10 (nI dp)) 11 (nI sg)) R Z B J (mkN K q1 25 (nI at9) (nI at9)) w at hO
  obtain ⟨K10, hK11⟩ : ∃ z : PK, z = (mkN K q1 25 (nI at9) (nI at9)) := ⟨_, rfl⟩
  rw [← hK11] at hO
  have hf12 : K10.1 q1 = 1 := by rw [hK11]; exact mkN_T
  have hf13 : K10.2.1 0 q1 = 25 := by rw [hK11]; exact mkN_0
  have hf14 : K10.2.1 2 q1 = (nI at9) := by rw [hK11]; exact mkN_2
  have hf15 : K10.2.2.1 0 q1 = none := by rw [hK11]; exact mkN_C
  have hf16 : K10.2.2.1 1 q1 = none := by rw [hK11]; exact mkN_C
  have hf17 : K10.2.2.1 2 q1 = none := by rw [hK11]; exact mkN_C
  have hf18 : K10.2.2.1 3 q1 = none := by rw [hK11]; exact mkN_C
  have hf19 : K10.2.2.1 4 q1 = none := by rw [hK11]; exact mkN_C
  have hns20 : NwS K K10 g (gset g q1 0 0 0) := by rw [hK11]; exact NwS.node hns0 hq2
  have hq21 : K.1 q1 = 0 := old_T hns0.2.1 hq2
  have hg22 : (gset g q1 0 0 0) 0 q1 = 0 := gset_0
  have hno23 : NoO K10 (gset g q1 0 0 0) q1 := by rw [hK11]; exact NoO.new hns0.1 hq2
  refine lv_astore_n (lv' := [(1, .ref q1), (0, .ref (a 3))]) hx hb dX8_ifStatement_17 rfl hl (by decide) rfl (fun ls hl => ?_)
  refine lv_aload_n hx hb dX8_ifStatement_18 rfl (lv_at hl 1 rfl) ?_
  refine lv_dup hx hb dX8_ifStatement_19 rfl ?_
  refine c_get (v := .int (nI at9)) (C := RX8) (Tc := TX8) (N := 5) (ci := 5) hx hb hq pin_wsX80 hown hE hP hO 23 (sg_23 G h0 a _ _ _ _ _) rfl 2 (by decide) (hq _ pw_776) (fun _ h9 => h9) rfl dX8_ifStatement_20 ?_
  refine lv_iconst (v := 1) hx hb dX8_ifStatement_23 (by decide) ?_
  refine lv_iadd hx hb dX8_ifStatement_24 ?_
  refine lv_topi (fun x24 e25 => ?_)
  obtain rfl : x24 = nI (at9 + 1) := e25.trans (nI_add (at9) (1))
  refine c_put (v := .int (nI (at9 + 1))) (ty := .int) (C := RX8) (Tc := TX8) (N := 5) (ci := 5) hx hb hq pin_wsX80 tyX8 tyX8_ok nmX8 hown hE hP hD hS hO 23 (sg_23 G h0 a _ _ _ _ _) rfl 2 (by decide) (hq _ pw_776) (fun _ h9 => h9) rfl (by decide +kernel) rfl rfl (Nat.le_of_ble_eq_true rfl) (sf_9 G h0 a _ _ _ _ _ (nI (at9 + 1))) dX8_ifStatement_25 (fun H locs w hP hD hS hO => ?_)
  refine lv_aload_n hx hb dX8_ifStatement_28 rfl (lv_at hl 0 rfl) ?_
  refine lv_aload_n hx hb dX8_ifStatement_29 rfl (lv_at hl 1 rfl) ?_
  have hO : OKP G h0 a (upd (upd (upd (upd (upd (upd (upd (upd (upd F 2 (nI sz)) 9 (nI at9)) 10 (nI dp)) 11 (nI sg)) 9 (nI (at9 + 1))) 2 (nI sz)) 9 (nI (at9 + 1))) 10 (nI dp)) 11 (nI sg)) R Z B J K10 w := hO.to rfl
  obtain ⟨_, qr29, hqr30⟩ := hO.2.1 23 _ (sg_23 G h0 a _ _ _ _ _)
  refine pn_V0 (G := G) (As := []) (rest := [.ref q1]) hx hb hml hown hq hE hX pX0_al hP hD hS hA hl.1 (P_condition l G h0 a (upd (upd (upd (upd (upd F 2 (nI sz)) 9 (nI at9)) 10 (nI dp)) 11 (nI sg)) 9 (nI (at9 + 1))) R Z B J K10 w n (at9 + 1) sz dp sg 0 (gset g q1 0 0 0) (by omega) (by omega) hdp (by omega) hns20.1 (fun o9 h9 => absurd h9 (by omega)) hO hl0) (gV pw_1022 pw_1023 pw_1024 pw_796 pw_995) hV_X8_condition qr29 5 hqr30 rfl rfl rfl (Nat.le_of_ble_eq_true rfl) dX8_ifStatement_30 ⟨(by show 1 + (2 * (sz - (at9 + 1)) + 20) ≤ (2 * (sz - at9) + 20); omega), (by show 11 + (11 * (2 * (sz - (at9 + 1)) + 20)) ≤ (11 * (2 * (sz - at9) + 20)); omega)⟩ ⟨(by show (40 * n + 42) + 1 ≤ (50 * n + 58); omega), (by show 8 + (2 + 11) + (1300 * n + 1340) ≤ (1500 * n + 1650); omega)⟩ (fun v28 u26 H locs hw27 hP hD hS => ?_) (fun ux ce9 q9 H9 locs9 hux hP9 hD9 hS9 hce hcv hcl => pb_out ux (ThQ.up (Thx.same (Thx.same (Thx.same (Thx.same (Thx.f Thx.rfl (by omega)) rfl) rfl) rfl) rfl) RhX.rfl hux) hnt hlocks hce hcv hcl hP9 hD9 hS9 (by show 1 + (2 * (sz - (at9 + 1)) + 20) ≤ (2 * (sz - at9) + 20); omega) (by show 11 + (11 * (2 * (sz - (at9 + 1)) + 20)) ≤ (11 * (2 * (sz - at9) + 20)); omega))
  obtain ⟨w, r31, K32, g33, at34, sg35, f36⟩ := u26
  obtain ⟨hw27, h37, h38, h39, hO⟩ := hw27
  have h37 : NwR K10 K32 (gset g q1 0 0 0) g33 r31 0 ((at9 + 1) + 1) (5 * (20 - dp) + 6 + (sg35 - sg)) := h37
  have h38 : (at9 + 1) + 3 ≤ at34 ∧ at34 ≤ sz := h38
  have h39 : sg ≤ sg35 ∧ sg35 ≤ 60 := h39
  obtain rfl : v28 = some (.ref r31) := hw27
  have hf40 : K32.1 q1 = 1 := (((h37).2.1.1 q1 (by rw [hf12]; decide)).1).trans hf12
  have hf41 : K32.2.1 0 q1 = 25 := (((h37).2.1.1 q1 (by rw [hf12]; decide)).2.1 0).trans hf13
  have hf42 : K32.2.1 2 q1 = (nI at9) := (((h37).2.1.1 q1 (by rw [hf12]; decide)).2.1 2).trans hf14
  have hf43 : K32.2.2.1 0 q1 = none := (((h37).2.1.1 q1 (by rw [hf12]; decide)).2.2.1 0).trans hf15
  have hf44 : K32.2.2.1 1 q1 = none := (((h37).2.1.1 q1 (by rw [hf12]; decide)).2.2.1 1).trans hf16
  have hf45 : K32.2.2.1 2 q1 = none := (((h37).2.1.1 q1 (by rw [hf12]; decide)).2.2.1 2).trans hf17
  have hf46 : K32.2.2.1 3 q1 = none := (((h37).2.1.1 q1 (by rw [hf12]; decide)).2.2.1 3).trans hf18
  have hf47 : K32.2.2.1 4 q1 = none := (((h37).2.1.1 q1 (by rw [hf12]; decide)).2.2.1 4).trans hf19
  have hO : OKP G h0 a (upd (upd (upd (upd F 2 (nI sz)) 9 (nI at34)) 10 (nI dp)) 11 (nI sg35)) R Z (updA B 10 f36) J K32 w := hO.to rfl
  refine W.widen (k := (1 + (2 * (at34 - (at9 + 1)) - 5))) (n := (11 + (11 * (2 * (at34 - (at9 + 1)) - 5)))) (by show 1 + (2 * (at34 - (at9 + 1)) - 5) ≤ (1 + (2 * (at34 - (at9 + 1)) - 5)); omega) (by show 11 + (11 * (2 * (at34 - (at9 + 1)) - 5)) ≤ (11 + (11 * (2 * (at34 - (at9 + 1)) - 5))); omega) ?_
  refine W.eq (g2 := F0 m 33 ls [.ref r31, .ref q1]) rfl ?_
  have hns48 : NwS K K32 g g33 := NwS.call hns20 h37 (fun o9 h9 => absurd h9 (by omega))
  have hf49 : K32.1 r31 = 1 := h37.2.2.1.2.1
  have hg50 : g33 0 q1 = 0 := (h37.2.1.2 q1 (by rw [hf12]; decide) 0).trans hg22
  have hno51 : NoO K32 g33 q1 := NoO.call hno23 h37 hf12 (by omega)
  have hgy52 := h37.2.2.1
  have hgy52a := hgy52.2.2.1
  have hgy52b := hgy52.2.2.2.1
  refine p_put (v := .ref r31) (ty := (.object "JinjaTongue$Node")) (C := RX7) (Tc := TX7) (N := 11) (ci := 13) (K' := (kC K32 0 q1 (some r31))) hx hb hq pin_wsX70 tyX7 tyX7_ok nmX7 hown hE hP hD hS hO (by rw [hf40]; decide) (rep_1 hf40) rfl 6 (by decide) (hq _ pw_938) (fun _ h9 => h9) rfl (by decide +kernel) rfl rfl (Nat.le_of_ble_eq_true rfl) rfl (by rw [rep_1 (show (kC K32 0 q1 (some r31)).1 q1 = 1 from hf40), pc_0] <;> rfl) (fun p9 hp9 => rep_kC hp9) dX8_ifStatement_33 (fun H locs w hP hD hS hO => ?_)
  obtain ⟨K53, hK54⟩ : ∃ z : PK, z = (kC K32 0 q1 (some r31)) := ⟨_, rfl⟩
  rw [← hK54] at hO
  have hf55 : K53.1 q1 = 1 := (by rw [hK54]; exact hf40)
  have hf56 : K53.2.1 0 q1 = 25 := (by rw [hK54]; exact hf41)
  have hf57 : K53.2.1 2 q1 = (nI at9) := (by rw [hK54]; exact hf42)
  have hf58 : K53.2.2.1 1 q1 = none := (by rw [hK54]; exact (kC_of (by decide)).trans hf44)
  have hf59 : K53.2.2.1 2 q1 = none := (by rw [hK54]; exact (kC_of (by decide)).trans hf45)
  have hf60 : K53.2.2.1 3 q1 = none := (by rw [hK54]; exact (kC_of (by decide)).trans hf46)
  have hf61 : K53.2.2.1 4 q1 = none := (by rw [hK54]; exact (kC_of (by decide)).trans hf47)
  have hf62 : K53.1 r31 = 1 := (by rw [hK54]; exact hf49)
  have hf63 : K53.2.2.1 0 q1 = some r31 := by rw [hK54]; exact kC_eq
  have hns64 : NwS K K53 g g33 := by rw [hK54]; exact NwS.put hns48 hq21 hg50
  have hno65 : NoO K53 g33 q1 := by rw [hK54]; exact hno51
  refine lv_aload_n hx hb dX8_ifStatement_36 rfl (lv_at hl 0 rfl) ?_
  refine lv_aload_n hx hb dX8_ifStatement_37 rfl (lv_at hl 1 rfl) ?_
  refine lv_iconst (v := 0) hx hb dX8_ifStatement_38 (by decide) ?_
  have hO : OKP G h0 a (upd (upd (upd (upd (upd (upd (upd (upd (upd (upd F 2 (nI sz)) 9 (nI at9)) 10 (nI dp)) 11 (nI sg)) 9 (nI at34)) 11 (nI sg35)) 2 (nI sz)) 9 (nI at34)) 10 (nI dp)) 11 (nI sg35)) R Z (updA B 10 f36) J K53 w := hO.to rfl
  obtain ⟨_, qr69, hqr70⟩ := hO.2.1 23 _ (sg_23 G h0 a _ _ _ _ _)
  refine pn_V0 (G := G) (As := [.int (nI 0)]) (rest := [.ref q1]) hx hb hml hown hq hE hX pX0_al hP hD hS hA hl.1 (ist h0 a (upd (upd (upd (upd (upd (upd F 2 (nI sz)) 9 (nI at9)) 10 (nI dp)) 11 (nI sg)) 9 (nI at34)) 11 (nI sg35)) R Z (updA B 10 f36) J K53 w 0 at34 sz dp sg35 0 g33 (by omega) (by omega) hdp (by omega) hns64.1 (fun o9 h9 => absurd h9 (by omega)) (by omega) hO hl0) (gV pw_1003 pw_1004 pw_1005 pw_796 pw_1025) hV_X8_statement qr69 5 hqr70 rfl rfl rfl (Nat.le_of_ble_eq_true rfl) dX8_ifStatement_39 ⟨(by show (1 + (2 * (at34 - (at9 + 1)) - 5)) + (2 * (sz - at34) + 20) ≤ (2 * (sz - at9) + 20); omega), (by show (11 + (11 * (2 * (at34 - (at9 + 1)) - 5))) + (11 * (2 * (sz - at34) + 20)) ≤ (11 * (2 * (sz - at9) + 20)); omega)⟩ ⟨(by show (50 * n + 50) + 1 ≤ (50 * n + 58); omega), (by show 8 + (5 + 11) + (1500 * n + 1500) ≤ (1500 * n + 1650); omega)⟩ (fun v68 u66 H locs hw67 hP hD hS => ?_) (fun ux ce9 q9 H9 locs9 hux hP9 hD9 hS9 hce hcv hcl => pb_out ux (ThQ.up (Thx.same (Thx.same (Thx.same (Thx.same (Thx.b (Thx.f (Thx.f Thx.rfl (by omega)) (by omega)) (by omega) (by decide)) rfl) rfl) rfl) rfl) RhX.rfl hux) hnt hlocks hce hcv hcl hP9 hD9 hS9 (by show (1 + (2 * (at34 - (at9 + 1)) - 5)) + (2 * (sz - at34) + 20) ≤ (2 * (sz - at9) + 20); omega) (by show (11 + (11 * (2 * (at34 - (at9 + 1)) - 5))) + (11 * (2 * (sz - at34) + 20)) ≤ (11 * (2 * (sz - at9) + 20)); omega))
  obtain ⟨w, r71, K72, g73, at74, sg75, f76, k77⟩ := u66
  obtain ⟨hw67, h78, h79, h80, h81, hO⟩ := hw67
  have h78 : NwR K53 K72 g33 g73 r71 0 k77 ((170 + 3 * (20 - dp))) := h78
  have h79 : at34 + 1 ≤ at74 ∧ at74 ≤ sz := h79
  have h80 : sg35 ≤ sg75 ∧ sg75 ≤ 60 := h80
  have h81 : rS k77 = at34 ∧ rE k77 ≤ at74 ∧ rS k77 ≤ rE k77 := h81
  obtain rfl : v68 = some (.ref r71) := hw67
  have hf82 : K72.1 q1 = 1 := (((h78).2.1.1 q1 (by rw [hf55]; decide)).1).trans hf55
  have hf83 : K72.2.1 0 q1 = 25 := (((h78).2.1.1 q1 (by rw [hf55]; decide)).2.1 0).trans hf56
  have hf84 : K72.2.1 2 q1 = (nI at9) := (((h78).2.1.1 q1 (by rw [hf55]; decide)).2.1 2).trans hf57
  have hf85 : K72.2.2.1 1 q1 = none := (((h78).2.1.1 q1 (by rw [hf55]; decide)).2.2.1 1).trans hf58
  have hf86 : K72.2.2.1 2 q1 = none := (((h78).2.1.1 q1 (by rw [hf55]; decide)).2.2.1 2).trans hf59
  have hf87 : K72.2.2.1 3 q1 = none := (((h78).2.1.1 q1 (by rw [hf55]; decide)).2.2.1 3).trans hf60
  have hf88 : K72.2.2.1 4 q1 = none := (((h78).2.1.1 q1 (by rw [hf55]; decide)).2.2.1 4).trans hf61
  have hf89 : K72.1 r31 = 1 := (((h78).2.1.1 r31 (by rw [hf62]; decide)).1).trans hf62
  have hf90 : K72.2.2.1 0 q1 = some r31 := (((h78).2.1.1 q1 (by rw [hf55]; decide)).2.2.1 0).trans hf63
  have hO : OKP G h0 a (upd (upd (upd (upd F 2 (nI sz)) 9 (nI at74)) 10 (nI dp)) 11 (nI sg75)) R Z (updA B 10 f76) J K72 w := hO.to rfl
  refine W.widen (k := ((1 + (2 * (at34 - (at9 + 1)) - 5)) + (2 * (at74 - at34) - 1))) (n := ((11 + (11 * (2 * (at34 - (at9 + 1)) - 5))) + (11 * (2 * (at74 - at34) - 1)))) (by show (1 + (2 * (at34 - (at9 + 1)) - 5)) + (2 * (at74 - at34) - 1) ≤ ((1 + (2 * (at34 - (at9 + 1)) - 5)) + (2 * (at74 - at34) - 1)); omega) (by show (11 + (11 * (2 * (at34 - (at9 + 1)) - 5))) + (11 * (2 * (at74 - at34) - 1)) ≤ ((11 + (11 * (2 * (at34 - (at9 + 1)) - 5))) + (11 * (2 * (at74 - at34) - 1))); omega) ?_
  refine W.eq (g2 := F0 m 42 ls [.ref r71, .ref q1]) rfl ?_
  have hns91 : NwS K K72 g g73 := NwS.call hns64 h78 (fun o9 h9 => absurd h9 (by omega))
  have hf92 : K72.1 r71 = 1 := h78.2.2.1.2.1
  have hg93 : g73 0 q1 = 0 := (h78.2.1.2 q1 (by rw [hf55]; decide) 0).trans hg50
  have hno94 : NoO K72 g73 q1 := NoO.call hno65 h78 hf55 (by omega)
  have hgz95 : g73 0 r31 = g33 0 r31 := h78.2.1.2 r31 (by rw [hf62]; decide) 0
  have hrk96 : g73 2 r71 = k77 := h78.2.2.1.2.2.2.2.2.1
  have hgy97 := h78.2.2.1
  have hgy97a := hgy97.2.2.1
  have hgy97b := hgy97.2.2.2.1
  refine p_put (v := .ref r71) (ty := (.object "JinjaTongue$Node")) (C := RX7) (Tc := TX7) (N := 11) (ci := 13) (K' := (kC K72 1 q1 (some r71))) hx hb hq pin_wsX70 tyX7 tyX7_ok nmX7 hown hE hP hD hS hO (by rw [hf82]; decide) (rep_1 hf82) rfl 7 (by decide) (hq _ pw_910) (fun _ h9 => h9) rfl (by decide +kernel) rfl rfl (Nat.le_of_ble_eq_true rfl) rfl (by rw [rep_1 (show (kC K72 1 q1 (some r71)).1 q1 = 1 from hf82), pc_1] <;> rfl) (fun p9 hp9 => rep_kC hp9) dX8_ifStatement_42 (fun H locs w hP hD hS hO => ?_)
  obtain ⟨K98, hK99⟩ : ∃ z : PK, z = (kC K72 1 q1 (some r71)) := ⟨_, rfl⟩
  rw [← hK99] at hO
  have hf100 : K98.1 q1 = 1 := (by rw [hK99]; exact hf82)
  have hf101 : K98.2.1 0 q1 = 25 := (by rw [hK99]; exact hf83)
  have hf102 : K98.2.1 2 q1 = (nI at9) := (by rw [hK99]; exact hf84)
  have hf103 : K98.2.2.1 2 q1 = none := (by rw [hK99]; exact (kC_of (by decide)).trans hf86)
  have hf104 : K98.2.2.1 3 q1 = none := (by rw [hK99]; exact (kC_of (by decide)).trans hf87)
  have hf105 : K98.2.2.1 4 q1 = none := (by rw [hK99]; exact (kC_of (by decide)).trans hf88)
  have hf106 : K98.1 r31 = 1 := (by rw [hK99]; exact hf89)
  have hf107 : K98.2.2.1 0 q1 = some r31 := (by rw [hK99]; exact (kC_of (by decide)).trans hf90)
  have hf108 : K98.1 r71 = 1 := (by rw [hK99]; exact hf92)
  have hf109 : K98.2.2.1 1 q1 = some r71 := by rw [hK99]; exact kC_eq
  have hns110 : NwS K K98 g g73 := by rw [hK99]; exact NwS.put hns91 hq21 hg93
  have hno111 : NoO K98 g73 q1 := by rw [hK99]; exact hno94
  refine lv_aload_n hx hb dX8_ifStatement_45 rfl (lv_at hl 1 rfl) ?_
  refine lv_bipush (v := 6) hx hb dX8_ifStatement_46 (by decide) ?_
  have hO : OKW G h0 a (upd (upd (upd (upd (upd (upd F 2 (nI sz)) 9 (nI at74)) 10 (nI dp)) 11 (nI sg75)) 2 (nI sz)) 9 (nI at74)) R Z (updA B 10 f76) J K98.1 (fun q99 x99 => x99 = rep G a K98 q99) w := hO.to rfl
  obtain ⟨_, qr115, hqr116⟩ := hO.2.1 23 _ (sg_23 G h0 a _ _ _ _ _)
  refine pc_V0 (G := G) (As := [.int 6]) (rest := []) hx hb hml hown hq hE hX pX0_al hP hD hS hA hl.1 (P_takeIf l G h0 a (upd (upd (upd (upd F 2 (nI sz)) 9 (nI at74)) 10 (nI dp)) 11 (nI sg75)) R Z (updA B 10 f76) J K98.1 (fun q99 x99 => x99 = rep G a K98 q99) w 6 at74 sz (by omega) (by omega) (by decide) hO) (gV pw_797 pw_798 pw_799 pw_796 pw_789) hV_X8_takeIf qr115 5 hqr116 rfl rfl rfl (Nat.le_of_ble_eq_true rfl) dX8_ifStatement_48 ⟨(by show ((1 + (2 * (at34 - (at9 + 1)) - 5)) + (2 * (at74 - at34) - 1)) + 0 ≤ (2 * (sz - at9) + 20); omega), (by show ((11 + (11 * (2 * (at34 - (at9 + 1)) - 5))) + (11 * (2 * (at74 - at34) - 1))) + 0 ≤ (11 * (2 * (sz - at9) + 20)); omega)⟩ ⟨(by show 3 + 1 ≤ (50 * n + 58); omega), (by show 8 + (2 + 11) + 81 ≤ (1500 * n + 1650); omega)⟩ (fun v114 u112 H locs hw113 hP hD hS => ?_)
  obtain ⟨w, r117⟩ := u112
  obtain ⟨hw113, h118, h119, hO⟩ := hw113
  have h118 : r117 ≤ 1 := h118
  have h119 : at74 + r117 ≤ sz := h119
  obtain rfl : v114 = some (.int (nI r117)) := hw113
  have hO : OKP G h0 a (upd (upd (upd (upd F 2 (nI sz)) 9 (nI (at74 + r117))) 10 (nI dp)) 11 (nI sg75)) R Z (updA B 10 f76) J K98 w := hO.to rfl
  refine W.widen (k := ((1 + (2 * (at34 - (at9 + 1)) - 5)) + (2 * (at74 - at34) - 1))) (n := ((11 + (11 * (2 * (at34 - (at9 + 1)) - 5))) + (11 * (2 * (at74 - at34) - 1)))) (by show ((1 + (2 * (at34 - (at9 + 1)) - 5)) + (2 * (at74 - at34) - 1)) + 0 ≤ ((1 + (2 * (at34 - (at9 + 1)) - 5)) + (2 * (at74 - at34) - 1)); omega) (by show ((11 + (11 * (2 * (at34 - (at9 + 1)) - 5))) + (11 * (2 * (at74 - at34) - 1))) + 0 ≤ ((11 + (11 * (2 * (at34 - (at9 + 1)) - 5))) + (11 * (2 * (at74 - at34) - 1))); omega) ?_
  refine W.eq (g2 := F0 m 51 ls [.int (nI r117)]) rfl ?_
  refine lv_if_eq (tgt := 63) hx hb dX8_ifStatement_51 (by decide) (fun c120 => ?_) (fun c120 => ?_)
  · have n121 : r117 = 0 := (nI_eq (a := r117) (b := 0) (by omega) (by omega)).mp c120
    refine lv_aload_n hx hb dX8_ifStatement_63 rfl (lv_at hl 0 rfl) ?_
    refine W_size (fun hz1 hz2 => ?_)
    refine vx_ret ?_
    obtain ⟨k9, hkI, hkS, hkE, hkM, hkN⟩ : ∃ z : Nat, Itv z ∧ rS z = at9 ∧ rE z = (at74 + r117) ∧ rM z = (rE k77) ∧ rN z = (at74 + r117) := ⟨rk at9 (at74 + r117) (rE k77) (at74 + r117), Itv.of (by omega), rS_rk (by omega), rE_rk (by omega), rM_rk (by omega), rN_rk (by omega)⟩
    have hkch9 : ∀ f9 y9 : Nat, f9 ≤ 3 → K98.2.2.1 f9 q1 = some y9 → Kch (K98.2.1 0 q1) f9 (K98.2.1 0 y9) k9 (g73 2 y9) := by
      intro f9 y9 hf9 hy9
      rw [hf101]
      rcases (show f9 = 0 ∨ f9 = 1 ∨ f9 = 2 ∨ f9 = 3 by omega) with rfl | rfl | rfl | rfl
      · rw [hf107] at hy9; cases hy9; exact Kch.k25 (fun z => absurd z (by decide)) (fun z => absurd z (by decide))
      · rw [hf109] at hy9; cases hy9; rw [hrk96]; exact Kch.k25 (fun _ => (by omega)) (fun z => absurd z (by decide))
      · rw [hf103] at hy9; cases hy9
      · rw [hf104] at hy9; cases hy9
    have hkid : ∀ f9 y9 : Nat, f9 ≤ 3 → K98.2.2.1 f9 q1 = some y9 → K98.1 y9 = 1 ∧ 1 ≤ g73 0 y9 ∧ g73 0 y9 < (173 + 3 * (20 - dp)) := by
      intro f9 y9 hf9 hy9
      rcases (show f9 = 0 ∨ f9 = 1 ∨ f9 = 2 ∨ f9 = 3 by omega) with rfl | rfl | rfl | rfl
      · rw [hf107] at hy9; cases hy9; exact ⟨hf106, (by omega), by omega⟩
      · rw [hf109] at hy9; cases hy9; exact ⟨hf108, (by omega), by omega⟩
      · rw [hf103] at hy9; cases hy9
      · rw [hf104] at hy9; cases hy9
    have hdn := NwS.done1I (q := q1) (L := (173 + 3 * (20 - dp))) (O := O) (k := k9) hns110 hq21 hf100 hg93 (by omega) hkI (by rw [hf101]; exact ⟨(fun z => absurd z (by decide)), (fun _ => ⟨(by show ¬ K98.2.2.1 0 q1 = none; rw [hf107]; intro z; cases z), (by show ¬ K98.2.2.1 1 q1 = none; rw [hf109]; intro z; cases z)⟩), (fun z => absurd z (by decide)), (fun z => absurd z (by decide)), (fun z => absurd z (by decide))⟩) (fun f9 z => by rw [hf101] at z; rcases z with ⟨z, _⟩ | ⟨z | z | z, _⟩ <;> exact absurd z (by decide)) hkid hf105 hno111 hkch9 how
    have hz122 : NwR K K98 g (gset g73 q1 (173 + 3 * (20 - dp)) O k9) q1 O k9 ((173 + 3 * (20 - dp))) := hdn
    have hz123 : at9 + 5 ≤ (at74 + r117) ∧ (at74 + r117) ≤ sz := (by omega)
    have hz124 : sg ≤ sg75 ∧ sg75 ≤ 60 := (by omega)
    have hz125 : rS k9 = at9 ∧ rE k9 ≤ (at74 + r117) ∧ rS k9 ≤ rE k9 := (by omega)
    have hO : OKP G h0 a (upd (upd (upd (upd F 2 (nI sz)) 9 (nI (at74 + r117))) 10 (nI dp)) 11 (nI sg75)) R Z (updA B 10 f76) J K98 w := hO.to rfl
    refine W.widen (k := (2 * (sz - at9) + 20)) (n := (11 * (2 * (sz - at9) + 20))) (by omega) (by omega) ?_
    have hzz1 : H.size ≤ s.heap.size + ((2 * ((at74 + r117) - at9) - 5)) := (by have z : ((1 + (2 * (at34 - (at9 + 1)) - 5)) + (2 * (at74 - at34) - 1)) ≤ (2 * ((at74 + r117) - at9) - 5) := (by omega); omega)
    have hzz2 : hSl H ≤ hSl s.heap + ((11 * (2 * ((at74 + r117) - at9) - 5))) := (by have z : ((11 + (11 * (2 * (at34 - (at9 + 1)) - 5))) + (11 * (2 * (at74 - at34) - 1))) ≤ (11 * (2 * ((at74 + r117) - at9) - 5)) := (by omega); omega)
    exact W.aret (v := .ref q1) hx hb hr (Or.inl ⟨_, rfl⟩) (Or.inr ⟨_, rfl⟩) (fun t99 ht99 hW99 => ⟨⟨_, (w, (q1, K98, (gset g73 q1 (173 + 3 * (20 - dp)) O k9), (at74 + r117), sg75, f76, k9)), rfl, ⟨rfl, hz122, hz123, hz124, hz125, hO⟩, by rw [ht99]; exact hP, hD, by rw [ht99]; exact hzz1, by rw [ht99]; exact hzz2⟩, hS.F ht99⟩) hS.2.2 dX8_ifStatement_64
  · have n126 : ¬ (r117 = 0) := fun h9 => c120 ((nI_eq (a := r117) (b := 0) (by omega) (by omega)).mpr h9)
    refine lv_aload_n hx hb dX8_ifStatement_54 rfl (lv_at hl 0 rfl) ?_
    refine lv_aload_n hx hb dX8_ifStatement_55 rfl (lv_at hl 1 rfl) ?_
    refine lv_iconst (v := 0) hx hb dX8_ifStatement_56 (by decide) ?_
    have hO : OKP G h0 a (upd (upd (upd (upd (upd (upd (upd (upd (upd (upd F 2 (nI sz)) 9 (nI at9)) 10 (nI dp)) 11 (nI sg)) 9 (nI (at74 + r117))) 11 (nI sg75)) 2 (nI sz)) 9 (nI (at74 + r117))) 10 (nI dp)) 11 (nI sg75)) R Z (updA B 10 f76) J K98 w := hO.to rfl
    obtain ⟨_, qr130, hqr131⟩ := hO.2.1 23 _ (sg_23 G h0 a _ _ _ _ _)
    refine pn_V0 (G := G) (As := [.int (nI 0)]) (rest := [.ref q1]) hx hb hml hown hq hE hX pX0_al hP hD hS hA hl.1 (ist h0 a (upd (upd (upd (upd (upd (upd F 2 (nI sz)) 9 (nI at9)) 10 (nI dp)) 11 (nI sg)) 9 (nI (at74 + r117))) 11 (nI sg75)) R Z (updA B 10 f76) J K98 w 0 (at74 + r117) sz dp sg75 0 g73 (by omega) (by omega) hdp (by omega) hns110.1 (fun o9 h9 => absurd h9 (by omega)) (by omega) hO hl0) (gV pw_1003 pw_1004 pw_1005 pw_796 pw_1025) hV_X8_statement qr130 5 hqr131 rfl rfl rfl (Nat.le_of_ble_eq_true rfl) dX8_ifStatement_57 ⟨(by show ((1 + (2 * (at34 - (at9 + 1)) - 5)) + (2 * (at74 - at34) - 1)) + (2 * (sz - (at74 + r117)) + 20) ≤ (2 * (sz - at9) + 20); omega), (by show ((11 + (11 * (2 * (at34 - (at9 + 1)) - 5))) + (11 * (2 * (at74 - at34) - 1))) + (11 * (2 * (sz - (at74 + r117)) + 20)) ≤ (11 * (2 * (sz - at9) + 20)); omega)⟩ ⟨(by show (50 * n + 50) + 1 ≤ (50 * n + 58); omega), (by show 8 + (5 + 11) + (1500 * n + 1500) ≤ (1500 * n + 1650); omega)⟩ (fun v129 u127 H locs hw128 hP hD hS => ?_) (fun ux ce9 q9 H9 locs9 hux hP9 hD9 hS9 hce hcv hcl => pb_out ux (ThQ.up (Thx.same (Thx.same (Thx.same (Thx.same (Thx.b (Thx.f (Thx.f Thx.rfl (by omega)) (by omega)) (by omega) (by decide)) rfl) rfl) rfl) rfl) RhX.rfl hux) hnt hlocks hce hcv hcl hP9 hD9 hS9 (by show ((1 + (2 * (at34 - (at9 + 1)) - 5)) + (2 * (at74 - at34) - 1)) + (2 * (sz - (at74 + r117)) + 20) ≤ (2 * (sz - at9) + 20); omega) (by show ((11 + (11 * (2 * (at34 - (at9 + 1)) - 5))) + (11 * (2 * (at74 - at34) - 1))) + (11 * (2 * (sz - (at74 + r117)) + 20)) ≤ (11 * (2 * (sz - at9) + 20)); omega))
    obtain ⟨w, r132, K133, g134, at135, sg136, f137, k138⟩ := u127
    obtain ⟨hw128, h139, h140, h141, h142, hO⟩ := hw128
    have h139 : NwR K98 K133 g73 g134 r132 0 k138 ((170 + 3 * (20 - dp))) := h139
    have h140 : (at74 + r117) + 1 ≤ at135 ∧ at135 ≤ sz := h140
    have h141 : sg75 ≤ sg136 ∧ sg136 ≤ 60 := h141
    have h142 : rS k138 = (at74 + r117) ∧ rE k138 ≤ at135 ∧ rS k138 ≤ rE k138 := h142
    obtain rfl : v129 = some (.ref r132) := hw128
    have hf143 : K133.1 q1 = 1 := (((h139).2.1.1 q1 (by rw [hf100]; decide)).1).trans hf100
    have hf144 : K133.2.1 0 q1 = 25 := (((h139).2.1.1 q1 (by rw [hf100]; decide)).2.1 0).trans hf101
    have hf145 : K133.2.1 2 q1 = (nI at9) := (((h139).2.1.1 q1 (by rw [hf100]; decide)).2.1 2).trans hf102
    have hf146 : K133.2.2.1 2 q1 = none := (((h139).2.1.1 q1 (by rw [hf100]; decide)).2.2.1 2).trans hf103
    have hf147 : K133.2.2.1 3 q1 = none := (((h139).2.1.1 q1 (by rw [hf100]; decide)).2.2.1 3).trans hf104
    have hf148 : K133.2.2.1 4 q1 = none := (((h139).2.1.1 q1 (by rw [hf100]; decide)).2.2.1 4).trans hf105
    have hf149 : K133.1 r31 = 1 := (((h139).2.1.1 r31 (by rw [hf106]; decide)).1).trans hf106
    have hf150 : K133.2.2.1 0 q1 = some r31 := (((h139).2.1.1 q1 (by rw [hf100]; decide)).2.2.1 0).trans hf107
    have hf151 : K133.1 r71 = 1 := (((h139).2.1.1 r71 (by rw [hf108]; decide)).1).trans hf108
    have hf152 : K133.2.2.1 1 q1 = some r71 := (((h139).2.1.1 q1 (by rw [hf100]; decide)).2.2.1 1).trans hf109
    have hO : OKP G h0 a (upd (upd (upd (upd F 2 (nI sz)) 9 (nI at135)) 10 (nI dp)) 11 (nI sg136)) R Z (updA B 10 f137) J K133 w := hO.to rfl
    refine W.widen (k := (((1 + (2 * (at34 - (at9 + 1)) - 5)) + (2 * (at74 - at34) - 1)) + (2 * (at135 - (at74 + r117)) - 1))) (n := (((11 + (11 * (2 * (at34 - (at9 + 1)) - 5))) + (11 * (2 * (at74 - at34) - 1))) + (11 * (2 * (at135 - (at74 + r117)) - 1)))) (by show ((1 + (2 * (at34 - (at9 + 1)) - 5)) + (2 * (at74 - at34) - 1)) + (2 * (at135 - (at74 + r117)) - 1) ≤ (((1 + (2 * (at34 - (at9 + 1)) - 5)) + (2 * (at74 - at34) - 1)) + (2 * (at135 - (at74 + r117)) - 1)); omega) (by show ((11 + (11 * (2 * (at34 - (at9 + 1)) - 5))) + (11 * (2 * (at74 - at34) - 1))) + (11 * (2 * (at135 - (at74 + r117)) - 1)) ≤ (((11 + (11 * (2 * (at34 - (at9 + 1)) - 5))) + (11 * (2 * (at74 - at34) - 1))) + (11 * (2 * (at135 - (at74 + r117)) - 1))); omega) ?_
    refine W.eq (g2 := F0 m 60 ls [.ref r132, .ref q1]) rfl ?_
    have hns153 : NwS K K133 g g134 := NwS.call hns110 h139 (fun o9 h9 => absurd h9 (by omega))
    have hf154 : K133.1 r132 = 1 := h139.2.2.1.2.1
    have hg155 : g134 0 q1 = 0 := (h139.2.1.2 q1 (by rw [hf100]; decide) 0).trans hg93
    have hno156 : NoO K133 g134 q1 := NoO.call hno111 h139 hf100 (by omega)
    have hgz157 : g134 0 r31 = g73 0 r31 := h139.2.1.2 r31 (by rw [hf106]; decide) 0
    have hgz158 : g134 0 r71 = g73 0 r71 := h139.2.1.2 r71 (by rw [hf108]; decide) 0
    have hrk159 : g134 2 r71 = k77 := (h139.2.1.2 r71 (by rw [hf108]; decide) 2).trans hrk96
    have hrk160 : g134 2 r132 = k138 := h139.2.2.1.2.2.2.2.2.1
    have hgy161 := h139.2.2.1
    have hgy161a := hgy161.2.2.1
    have hgy161b := hgy161.2.2.2.1
    refine p_put (v := .ref r132) (ty := (.object "JinjaTongue$Node")) (C := RX7) (Tc := TX7) (N := 11) (ci := 13) (K' := (kC K133 2 q1 (some r132))) hx hb hq pin_wsX70 tyX7 tyX7_ok nmX7 hown hE hP hD hS hO (by rw [hf143]; decide) (rep_1 hf143) rfl 8 (by decide) (hq _ pw_943) (fun _ h9 => h9) rfl (by decide +kernel) rfl rfl (Nat.le_of_ble_eq_true rfl) rfl (by rw [rep_1 (show (kC K133 2 q1 (some r132)).1 q1 = 1 from hf143), pc_2] <;> rfl) (fun p9 hp9 => rep_kC hp9) dX8_ifStatement_60 (fun H locs w hP hD hS hO => ?_)
    obtain ⟨K162, hK163⟩ : ∃ z : PK, z = (kC K133 2 q1 (some r132)) := ⟨_, rfl⟩
    rw [← hK163] at hO
    have hf164 : K162.1 q1 = 1 := (by rw [hK163]; exact hf143)
    have hf165 : K162.2.1 0 q1 = 25 := (by rw [hK163]; exact hf144)
    have hf166 : K162.2.1 2 q1 = (nI at9) := (by rw [hK163]; exact hf145)
    have hf167 : K162.2.2.1 3 q1 = none := (by rw [hK163]; exact (kC_of (by decide)).trans hf147)
    have hf168 : K162.2.2.1 4 q1 = none := (by rw [hK163]; exact (kC_of (by decide)).trans hf148)
    have hf169 : K162.1 r31 = 1 := (by rw [hK163]; exact hf149)
    have hf170 : K162.2.2.1 0 q1 = some r31 := (by rw [hK163]; exact (kC_of (by decide)).trans hf150)
    have hf171 : K162.1 r71 = 1 := (by rw [hK163]; exact hf151)
    have hf172 : K162.2.2.1 1 q1 = some r71 := (by rw [hK163]; exact (kC_of (by decide)).trans hf152)
    have hf173 : K162.1 r132 = 1 := (by rw [hK163]; exact hf154)
    have hf174 : K162.2.2.1 2 q1 = some r132 := by rw [hK163]; exact kC_eq
    have hns175 : NwS K K162 g g134 := by rw [hK163]; exact NwS.put hns153 hq21 hg155
    have hno176 : NoO K162 g134 q1 := by rw [hK163]; exact hno156
    refine lv_aload_n hx hb dX8_ifStatement_63 rfl (lv_at hl 0 rfl) ?_
    refine W_size (fun hz1 hz2 => ?_)
    refine vx_ret ?_
    obtain ⟨k9, hkI, hkS, hkE, hkM, hkN⟩ : ∃ z : Nat, Itv z ∧ rS z = at9 ∧ rE z = at135 ∧ rM z = (rE k77) ∧ rN z = at135 := ⟨rk at9 at135 (rE k77) at135, Itv.of (by omega), rS_rk (by omega), rE_rk (by omega), rM_rk (by omega), rN_rk (by omega)⟩
    have hkch9 : ∀ f9 y9 : Nat, f9 ≤ 3 → K162.2.2.1 f9 q1 = some y9 → Kch (K162.2.1 0 q1) f9 (K162.2.1 0 y9) k9 (g134 2 y9) := by
      intro f9 y9 hf9 hy9
      rw [hf165]
      rcases (show f9 = 0 ∨ f9 = 1 ∨ f9 = 2 ∨ f9 = 3 by omega) with rfl | rfl | rfl | rfl
      · rw [hf170] at hy9; cases hy9; exact Kch.k25 (fun z => absurd z (by decide)) (fun z => absurd z (by decide))
      · rw [hf172] at hy9; cases hy9; rw [hrk159]; exact Kch.k25 (fun _ => (by omega)) (fun z => absurd z (by decide))
      · rw [hf174] at hy9; cases hy9; rw [hrk160]; exact Kch.k25 (fun z => absurd z (by decide)) (fun _ => (by omega))
      · rw [hf167] at hy9; cases hy9
    have hkid : ∀ f9 y9 : Nat, f9 ≤ 3 → K162.2.2.1 f9 q1 = some y9 → K162.1 y9 = 1 ∧ 1 ≤ g134 0 y9 ∧ g134 0 y9 < (173 + 3 * (20 - dp)) := by
      intro f9 y9 hf9 hy9
      rcases (show f9 = 0 ∨ f9 = 1 ∨ f9 = 2 ∨ f9 = 3 by omega) with rfl | rfl | rfl | rfl
      · rw [hf170] at hy9; cases hy9; exact ⟨hf169, (by omega), by omega⟩
      · rw [hf172] at hy9; cases hy9; exact ⟨hf171, (by omega), by omega⟩
      · rw [hf174] at hy9; cases hy9; exact ⟨hf173, (by omega), by omega⟩
      · rw [hf167] at hy9; cases hy9
    have hdn := NwS.done1I (q := q1) (L := (173 + 3 * (20 - dp))) (O := O) (k := k9) hns175 hq21 hf164 hg155 (by omega) hkI (by rw [hf165]; exact ⟨(fun z => absurd z (by decide)), (fun _ => ⟨(by show ¬ K162.2.2.1 0 q1 = none; rw [hf170]; intro z; cases z), (by show ¬ K162.2.2.1 1 q1 = none; rw [hf172]; intro z; cases z)⟩), (fun z => absurd z (by decide)), (fun z => absurd z (by decide)), (fun z => absurd z (by decide))⟩) (fun f9 z => by rw [hf165] at z; rcases z with ⟨z, _⟩ | ⟨z | z | z, _⟩ <;> exact absurd z (by decide)) hkid hf168 hno176 hkch9 how
    have hz177 : NwR K K162 g (gset g134 q1 (173 + 3 * (20 - dp)) O k9) q1 O k9 ((173 + 3 * (20 - dp))) := hdn
    have hz178 : at9 + 5 ≤ at135 ∧ at135 ≤ sz := (by omega)
    have hz179 : sg ≤ sg136 ∧ sg136 ≤ 60 := (by omega)
    have hz180 : rS k9 = at9 ∧ rE k9 ≤ at135 ∧ rS k9 ≤ rE k9 := (by omega)
    have hO : OKP G h0 a (upd (upd (upd (upd F 2 (nI sz)) 9 (nI at135)) 10 (nI dp)) 11 (nI sg136)) R Z (updA B 10 f137) J K162 w := hO.to rfl
    refine W.widen (k := (2 * (sz - at9) + 20)) (n := (11 * (2 * (sz - at9) + 20))) (by omega) (by omega) ?_
    have hzz1 : H.size ≤ s.heap.size + ((2 * (at135 - at9) - 5)) := (by have z : (((1 + (2 * (at34 - (at9 + 1)) - 5)) + (2 * (at74 - at34) - 1)) + (2 * (at135 - (at74 + r117)) - 1)) ≤ (2 * (at135 - at9) - 5) := (by omega); omega)
    have hzz2 : hSl H ≤ hSl s.heap + ((11 * (2 * (at135 - at9) - 5))) := (by have z : (((11 + (11 * (2 * (at34 - (at9 + 1)) - 5))) + (11 * (2 * (at74 - at34) - 1))) + (11 * (2 * (at135 - (at74 + r117)) - 1))) ≤ (11 * (2 * (at135 - at9) - 5)) := (by omega); omega)
    exact W.aret (v := .ref q1) hx hb hr (Or.inl ⟨_, rfl⟩) (Or.inr ⟨_, rfl⟩) (fun t99 ht99 hW99 => ⟨⟨_, (w, (q1, K162, (gset g134 q1 (173 + 3 * (20 - dp)) O k9), at135, sg136, f137, k9)), rfl, ⟨rfl, hz177, hz178, hz179, hz180, hO⟩, by rw [ht99]; exact hP, hD, by rw [ht99]; exact hzz1, by rw [ht99]; exact hzz2⟩, hS.F ht99⟩) hS.2.2 dX8_ifStatement_64
theorem dX8_whileStatement_0 : decode cX8_whileStatement 0 = .ok (.new 143, 3) := by decide +kernel
theorem dX8_whileStatement_3 : decode cX8_whileStatement 3 = .ok (.dup, 1) := by decide +kernel
theorem dX8_whileStatement_4 : decode cX8_whileStatement 4 = .ok (.bipush 26, 2) := by decide +kernel
theorem dX8_whileStatement_6 : decode cX8_whileStatement 6 = .ok (.aload_n 0, 1) := by decide +kernel
theorem dX8_whileStatement_7 : decode cX8_whileStatement 7 = .ok (.getfield 17, 3) := by decide +kernel
theorem dX8_whileStatement_10 : decode cX8_whileStatement 10 = .ok (.aload_n 0, 1) := by decide +kernel
theorem dX8_whileStatement_11 : decode cX8_whileStatement 11 = .ok (.getfield 17, 3) := by decide +kernel
theorem dX8_whileStatement_14 : decode cX8_whileStatement 14 = .ok (.invokespecial 145, 3) := by decide +kernel
theorem dX8_whileStatement_17 : decode cX8_whileStatement 17 = .ok (.astore_n 1, 1) := by decide +kernel
theorem dX8_whileStatement_18 : decode cX8_whileStatement 18 = .ok (.aload_n 0, 1) := by decide +kernel
theorem dX8_whileStatement_19 : decode cX8_whileStatement 19 = .ok (.dup, 1) := by decide +kernel
theorem dX8_whileStatement_20 : decode cX8_whileStatement 20 = .ok (.getfield 17, 3) := by decide +kernel
theorem dX8_whileStatement_23 : decode cX8_whileStatement 23 = .ok (.iconst 1, 1) := by decide +kernel
theorem dX8_whileStatement_24 : decode cX8_whileStatement 24 = .ok (.iadd, 1) := by decide +kernel
theorem dX8_whileStatement_25 : decode cX8_whileStatement 25 = .ok (.putfield 17, 3) := by decide +kernel
theorem dX8_whileStatement_28 : decode cX8_whileStatement 28 = .ok (.aload_n 1, 1) := by decide +kernel
theorem dX8_whileStatement_29 : decode cX8_whileStatement 29 = .ok (.aload_n 0, 1) := by decide +kernel
theorem dX8_whileStatement_30 : decode cX8_whileStatement 30 = .ok (.invokevirtual 233, 3) := by decide +kernel
theorem dX8_whileStatement_33 : decode cX8_whileStatement 33 = .ok (.putfield 230, 3) := by decide +kernel
theorem dX8_whileStatement_36 : decode cX8_whileStatement 36 = .ok (.aload_n 1, 1) := by decide +kernel
theorem dX8_whileStatement_37 : decode cX8_whileStatement 37 = .ok (.aload_n 0, 1) := by decide +kernel
theorem dX8_whileStatement_38 : decode cX8_whileStatement 38 = .ok (.iconst 0, 1) := by decide +kernel
theorem dX8_whileStatement_39 : decode cX8_whileStatement 39 = .ok (.invokevirtual 161, 3) := by decide +kernel
theorem dX8_whileStatement_42 : decode cX8_whileStatement 42 = .ok (.putfield 239, 3) := by decide +kernel
theorem dX8_whileStatement_45 : decode cX8_whileStatement 45 = .ok (.aload_n 1, 1) := by decide +kernel
theorem dX8_whileStatement_46 : decode cX8_whileStatement 46 = .ok (.areturn, 1) := by decide +kernel
set_option maxHeartbeats 40000000 in
set_option maxRecDepth 100000 in
theorem P_while (l : Launch) (G : pT) (h0 : Nat) (a : Nat → Nat) (F : Nat → Int32) (R : Nat → Value) (Z : Int64) (B : Nat → Nat → Int32) (J : Nat → Nat → Int64) (K : PK) (w : va_W) (n : Nat) (at9 : Nat) (sz : Nat) (dp : Nat) (sg : Nat) (O : Nat) (g : Nat → Nat → Nat) (hsz : sz ≤ 5000) (hat : at9 ≤ sz) (hdp : dp + n = 20) (hsg : sg ≤ 60) (hwn : WN K g) (how : ∀ o : Nat, O = o + 1 → K.1 o = 1 ∧ g 0 o = 0 ∧ ¬ K.2.1 0 o = 32) (hle : at9 + 1 ≤ sz) (ist : PSt l G n) (hO : OKP G h0 a (upd (upd (upd (upd F 2 (nI sz)) 9 (nI at9)) 10 (nI dp)) 11 (nI sg)) R Z B J K w) (hl0 : l.stackTraces = false) : PBn l G pX0 yX8_whileStatement cX8_whileStatement 2 (some (.object "JinjaTongue$Node")) ({ frames := (50 * n + 58), cells := (2 * (sz - at9) + 20), slots := (11 * (2 * (sz - at9) + 20)), locals := (1500 * n + 1650) }) [.ref (a 3)] w (fun (v : Option Value) (u : va_W × (Nat × PK × (Nat → Nat → Nat) × Nat × Nat × (Nat → Int32) × Nat)) => v = some (.ref u.2.1) ∧ (NwR K u.2.2.1 g u.2.2.2.1 u.2.1 O u.2.2.2.2.2.2.2 ((173 + 3 * (20 - dp)))) ∧ (at9 + 5 ≤ u.2.2.2.2.1 ∧ u.2.2.2.2.1 ≤ sz) ∧ (sg ≤ u.2.2.2.2.2.1 ∧ u.2.2.2.2.2.1 ≤ 60) ∧ (rS u.2.2.2.2.2.2.2 = at9 ∧ rE u.2.2.2.2.2.2.2 ≤ u.2.2.2.2.1 ∧ rS u.2.2.2.2.2.2.2 ≤ rE u.2.2.2.2.2.2.2) ∧ (OKP G h0 a (upd (upd (upd (upd F 2 (nI sz)) 9 (nI u.2.2.2.2.1)) 10 (nI dp)) 11 (nI u.2.2.2.2.2.1)) R Z (updA B 10 u.2.2.2.2.2.2.1) J u.2.2.1 u.1)) (fun u => u.1) (fun (u : va_W × (Nat × PK × (Nat → Nat → Nat) × Nat × Nat × (Nat → Int32) × Nat)) => (2 * (u.2.2.2.2.1 - at9) - 5)) (fun (u : va_W × (Nat × PK × (Nat → Nat → Nat) × Nat × Nat × (Nat → Int32) × Nat)) => (11 * (2 * (u.2.2.2.2.1 - at9) - 5))) (fun (u : va_W × (Nat → Int32) × (Nat → Value) × (Nat → Nat → Int32)) => ThQ G h0 a (upd (upd (upd (upd F 2 (nI sz)) 9 (nI at9)) 10 (nI dp)) 11 (nI sg)) R Z B J u) (fun u => u.1) := by
  intro sz
  refine vx_ofW (cc := cX8_whileStatement) (maxL := 2) (ret := (some (.object "JinjaTongue$Node"))) (by decide) rfl ?_
  intro p e s m args below meth c s₁ B9 hml hnt hv
  obtain ⟨rfl, hsz, hP, hD0, hE, hX⟩ := hv
  have hx := B9.exec
  have hb := B9.bytes
  have hr := B9.returns
  have hts := atoms_spec (ws := Cond.code yX8_whileStatement cX8_whileStatement 2 (some (.object "JinjaTongue$Node")) :: pw) B9.pre
  have hq : ∀ w ∈ pw, w.before _ s = true := fun w h => hts w (List.mem_cons_of_mem _ h)
  have hown : s.vm.findClass RX8 = some m.cls := findClass_of_methodNamed B9.named
  have hlocks := B9.notSynchronized
  subst hsz
  have hD := hD0.self (sz := s.heap.size)
  have hA : ∀ q : Nat, s.heap.size ≤ q → va_A w s.heap.size q := fun q h => Or.inr h
  generalize va_A w s.heap.size = A at hD hE hA ⊢
  have hS : va_S A s.heap s.heap [] := va_S.rf
  have hl := lv_entry ([.ref (a 3)]) (n := 2) (Nat.le_of_ble_eq_true rfl)
  rw [lg_entry_eq]
  generalize (lg_sl ([.ref (a 3)]) ++ List.replicate (2 - (lg_sl ([.ref (a 3)])).length) Slot.unset).toArray = ls at hl ⊢
  have hl : lv_has ls 2 [(0, .ref (a 3))] := hl
  have hns0 : NwS K K g g := NwS.nil hwn
  refine p_new (s9 := 1) (C := RX7) (T := TX7) (N := 11) (ci := 13) (fs := [.int 0, .int 0, .int 0, .int 0, .int 0, .int 0, .null, .null, .null, .null, .null]) hx hb hq pin_wsX70 tyX7 tyX7_ok hown (hq _ pw_870) (hq _ pw_871) (hq _ pw_872) hE hP hD hS hA hO rfl nw_X7 (by decide) (fun q => by rw [rep_1 (show (kN K q 1 0).1 q = 1 from if_pos rfl)]; unfold fsNode kN; simp only [if_true]; rfl) (by show 0 + 1 ≤ (2 * (sz - at9) + 20); omega) (by show 0 + 11 ≤ (11 * (2 * (sz - at9) + 20)); omega) dX8_whileStatement_0 (fun q1 H w hq2 hP hD hS hO => ?_)
  have hf3 : (kN K q1 1 0).1 q1 = 1 := if_pos rfl
  refine W.widen (k := 1) (n := 11) (by show 0 + 1 ≤ 1; omega) (by show 0 + 11 ≤ 11; omega) ?_
  refine lv_dup hx hb dX8_whileStatement_3 rfl ?_
  refine lv_bipush (v := 26) hx hb dX8_whileStatement_4 (by decide) ?_
  refine lv_aload_n hx hb dX8_whileStatement_6 rfl (lv_at hl 0 rfl) ?_
  refine c_get (v := .int (nI at9)) (C := RX8) (Tc := TX8) (N := 5) (ci := 5) hx hb hq pin_wsX80 hown hE hP hO 23 (sg_23 G h0 a _ _ _ _ _) rfl 2 (by decide) (hq _ pw_776) (fun _ h9 => h9) rfl dX8_whileStatement_7 ?_
  refine lv_aload_n hx hb dX8_whileStatement_10 rfl (lv_at hl 0 rfl) ?_
  refine c_get (v := .int (nI at9)) (C := RX8) (Tc := TX8) (N := 5) (ci := 5) hx hb hq pin_wsX80 hown hE hP hO 23 (sg_23 G h0 a _ _ _ _ _) rfl 2 (by decide) (hq _ pw_776) (fun _ h9 => h9) rfl dX8_whileStatement_11 ?_
  have hO : OKP G h0 a (upd (upd (upd (upd F 2 (nI sz)) 9 (nI at9)) 10 (nI dp)) 11 (nI sg)) R Z B J (kN K q1 1 0) w := hO.to rfl
  obtain ⟨qr7, hqr8⟩ := p_recv hO (by rw [hf3]; decide) (rep_1 hf3)
  refine pc_I0 (G := G) (As := [.int 26, .int (nI at9), .int (nI at9)]) (rest := [.ref q1]) hx hb hml hown hq hE hX pX0_al hP hD hS hA hl.1 (N_init l G h0 a (upd (upd (upd (upd F 2 (nI sz)) 9 (nI at9)) 10 (nI dp)) 11 (nI sg)) R Z B J (kN K q1 1 0) w q1 26 (nI at9) (nI at9) (by omega) hO) pw_874 pw_875 pw_872 pw_765 rfl hS_X7_init rfl (Nat.le_of_ble_eq_true rfl) dX8_whileStatement_14 ⟨(by show 1 + 0 ≤ (2 * (sz - at9) + 20); omega), (by show 11 + 0 ≤ (11 * (2 * (sz - at9) + 20)); omega)⟩ ⟨(by show 2 + 1 ≤ (50 * n + 58); omega), (by show 8 + (4 + 11) + 60 ≤ (1500 * n + 1650); omega)⟩ (fun v6 u4 H locs hw5 hP hD hS => ?_)
  obtain ⟨w, _⟩ := u4
  obtain ⟨hw5, hO⟩ := hw5
  obtain rfl : v6 = none := hw5
  have hf9 : (kI (kI (kI (kN K q1 1 0) 0 q1 26) 1 q1 (nI at9)) 2 q1 (nI at9)).1 q1 = 1 := hf3
  have hO : OKP G h0 a (upd (upd (upd (upd F 2 (nI sz)) 9 (nI at9)) 10 (nI dp)) 11 (nI sg)) R Z B J (kI (kI (kI (kN K q1 1 0) 0 q1 26) 1 q1 (nI at9)) 2 q1 (nI at9)) w := hO.to rfl
  refine W.widen (k := 1) (n := 11) (by show 1 + 0 ≤ 1; omega) (by show 11 + 0 ≤ 11; omega) ?_
  refine W.eq (g2 := F0 m 17 ls [.ref q1]) rfl ?_
  change OKP G h0 a (upd (upd (upd (upd F 2 (nI sz)) 9 (nI at9)) 10 (nI dp)) 11 (nI sg)) R Z B J (mkN K q1 26 (nI at9) (nI at9)) w at hO
  obtain ⟨K10, hK11⟩ : ∃ z : PK, z = (mkN K q1 26 (nI at9) (nI at9)) := ⟨_, rfl⟩
  rw [← hK11] at hO
  have hf12 : K10.1 q1 = 1 := by rw [hK11]; exact mkN_T
  have hf13 : K10.2.1 0 q1 = 26 := by rw [hK11]; exact mkN_0
  have hf14 : K10.2.1 2 q1 = (nI at9) := by rw [hK11]; exact mkN_2
  have hf15 : K10.2.2.1 0 q1 = none := by rw [hK11]; exact mkN_C
  have hf16 : K10.2.2.1 1 q1 = none := by rw [hK11]; exact mkN_C
  have hf17 : K10.2.2.1 2 q1 = none := by rw [hK11]; exact mkN_C
  have hf18 : K10.2.2.1 3 q1 = none := by rw [hK11]; exact mkN_C
  have hf19 : K10.2.2.1 4 q1 = none := by rw [hK11]; exact mkN_C
  have hns20 : NwS K K10 g (gset g q1 0 0 0) := by rw [hK11]; exact NwS.node hns0 hq2
  have hq21 : K.1 q1 = 0 := old_T hns0.2.1 hq2
  have hg22 : (gset g q1 0 0 0) 0 q1 = 0 := gset_0
  have hno23 : NoO K10 (gset g q1 0 0 0) q1 := by rw [hK11]; exact NoO.new hns0.1 hq2
  refine lv_astore_n (lv' := [(1, .ref q1), (0, .ref (a 3))]) hx hb dX8_whileStatement_17 rfl hl (by decide) rfl (fun ls hl => ?_)
  refine lv_aload_n hx hb dX8_whileStatement_18 rfl (lv_at hl 1 rfl) ?_
  refine lv_dup hx hb dX8_whileStatement_19 rfl ?_
  refine c_get (v := .int (nI at9)) (C := RX8) (Tc := TX8) (N := 5) (ci := 5) hx hb hq pin_wsX80 hown hE hP hO 23 (sg_23 G h0 a _ _ _ _ _) rfl 2 (by decide) (hq _ pw_776) (fun _ h9 => h9) rfl dX8_whileStatement_20 ?_
  refine lv_iconst (v := 1) hx hb dX8_whileStatement_23 (by decide) ?_
  refine lv_iadd hx hb dX8_whileStatement_24 ?_
  refine lv_topi (fun x24 e25 => ?_)
  obtain rfl : x24 = nI (at9 + 1) := e25.trans (nI_add (at9) (1))
  refine c_put (v := .int (nI (at9 + 1))) (ty := .int) (C := RX8) (Tc := TX8) (N := 5) (ci := 5) hx hb hq pin_wsX80 tyX8 tyX8_ok nmX8 hown hE hP hD hS hO 23 (sg_23 G h0 a _ _ _ _ _) rfl 2 (by decide) (hq _ pw_776) (fun _ h9 => h9) rfl (by decide +kernel) rfl rfl (Nat.le_of_ble_eq_true rfl) (sf_9 G h0 a _ _ _ _ _ (nI (at9 + 1))) dX8_whileStatement_25 (fun H locs w hP hD hS hO => ?_)
  refine lv_aload_n hx hb dX8_whileStatement_28 rfl (lv_at hl 0 rfl) ?_
  refine lv_aload_n hx hb dX8_whileStatement_29 rfl (lv_at hl 1 rfl) ?_
  have hO : OKP G h0 a (upd (upd (upd (upd (upd (upd (upd (upd (upd F 2 (nI sz)) 9 (nI at9)) 10 (nI dp)) 11 (nI sg)) 9 (nI (at9 + 1))) 2 (nI sz)) 9 (nI (at9 + 1))) 10 (nI dp)) 11 (nI sg)) R Z B J K10 w := hO.to rfl
  obtain ⟨_, qr29, hqr30⟩ := hO.2.1 23 _ (sg_23 G h0 a _ _ _ _ _)
  refine pn_V0 (G := G) (As := []) (rest := [.ref q1]) hx hb hml hown hq hE hX pX0_al hP hD hS hA hl.1 (P_condition l G h0 a (upd (upd (upd (upd (upd F 2 (nI sz)) 9 (nI at9)) 10 (nI dp)) 11 (nI sg)) 9 (nI (at9 + 1))) R Z B J K10 w n (at9 + 1) sz dp sg 0 (gset g q1 0 0 0) (by omega) (by omega) hdp (by omega) hns20.1 (fun o9 h9 => absurd h9 (by omega)) hO hl0) (gV pw_1022 pw_1023 pw_1024 pw_796 pw_995) hV_X8_condition qr29 5 hqr30 rfl rfl rfl (Nat.le_of_ble_eq_true rfl) dX8_whileStatement_30 ⟨(by show 1 + (2 * (sz - (at9 + 1)) + 20) ≤ (2 * (sz - at9) + 20); omega), (by show 11 + (11 * (2 * (sz - (at9 + 1)) + 20)) ≤ (11 * (2 * (sz - at9) + 20)); omega)⟩ ⟨(by show (40 * n + 42) + 1 ≤ (50 * n + 58); omega), (by show 8 + (2 + 11) + (1300 * n + 1340) ≤ (1500 * n + 1650); omega)⟩ (fun v28 u26 H locs hw27 hP hD hS => ?_) (fun ux ce9 q9 H9 locs9 hux hP9 hD9 hS9 hce hcv hcl => pb_out ux (ThQ.up (Thx.same (Thx.same (Thx.same (Thx.same (Thx.f Thx.rfl (by omega)) rfl) rfl) rfl) rfl) RhX.rfl hux) hnt hlocks hce hcv hcl hP9 hD9 hS9 (by show 1 + (2 * (sz - (at9 + 1)) + 20) ≤ (2 * (sz - at9) + 20); omega) (by show 11 + (11 * (2 * (sz - (at9 + 1)) + 20)) ≤ (11 * (2 * (sz - at9) + 20)); omega))
  obtain ⟨w, r31, K32, g33, at34, sg35, f36⟩ := u26
  obtain ⟨hw27, h37, h38, h39, hO⟩ := hw27
  have h37 : NwR K10 K32 (gset g q1 0 0 0) g33 r31 0 ((at9 + 1) + 1) (5 * (20 - dp) + 6 + (sg35 - sg)) := h37
  have h38 : (at9 + 1) + 3 ≤ at34 ∧ at34 ≤ sz := h38
  have h39 : sg ≤ sg35 ∧ sg35 ≤ 60 := h39
  obtain rfl : v28 = some (.ref r31) := hw27
  have hf40 : K32.1 q1 = 1 := (((h37).2.1.1 q1 (by rw [hf12]; decide)).1).trans hf12
  have hf41 : K32.2.1 0 q1 = 26 := (((h37).2.1.1 q1 (by rw [hf12]; decide)).2.1 0).trans hf13
  have hf42 : K32.2.1 2 q1 = (nI at9) := (((h37).2.1.1 q1 (by rw [hf12]; decide)).2.1 2).trans hf14
  have hf43 : K32.2.2.1 0 q1 = none := (((h37).2.1.1 q1 (by rw [hf12]; decide)).2.2.1 0).trans hf15
  have hf44 : K32.2.2.1 1 q1 = none := (((h37).2.1.1 q1 (by rw [hf12]; decide)).2.2.1 1).trans hf16
  have hf45 : K32.2.2.1 2 q1 = none := (((h37).2.1.1 q1 (by rw [hf12]; decide)).2.2.1 2).trans hf17
  have hf46 : K32.2.2.1 3 q1 = none := (((h37).2.1.1 q1 (by rw [hf12]; decide)).2.2.1 3).trans hf18
  have hf47 : K32.2.2.1 4 q1 = none := (((h37).2.1.1 q1 (by rw [hf12]; decide)).2.2.1 4).trans hf19
  have hO : OKP G h0 a (upd (upd (upd (upd F 2 (nI sz)) 9 (nI at34)) 10 (nI dp)) 11 (nI sg35)) R Z (updA B 10 f36) J K32 w := hO.to rfl
  refine W.widen (k := (1 + (2 * (at34 - (at9 + 1)) - 5))) (n := (11 + (11 * (2 * (at34 - (at9 + 1)) - 5)))) (by show 1 + (2 * (at34 - (at9 + 1)) - 5) ≤ (1 + (2 * (at34 - (at9 + 1)) - 5)); omega) (by show 11 + (11 * (2 * (at34 - (at9 + 1)) - 5)) ≤ (11 + (11 * (2 * (at34 - (at9 + 1)) - 5))); omega) ?_
  refine W.eq (g2 := F0 m 33 ls [.ref r31, .ref q1]) rfl ?_
  have hns48 : NwS K K32 g g33 := NwS.call hns20 h37 (fun o9 h9 => absurd h9 (by omega))
  have hf49 : K32.1 r31 = 1 := h37.2.2.1.2.1
  have hg50 : g33 0 q1 = 0 := (h37.2.1.2 q1 (by rw [hf12]; decide) 0).trans hg22
  have hno51 : NoO K32 g33 q1 := NoO.call hno23 h37 hf12 (by omega)
  have hgy52 := h37.2.2.1
  have hgy52a := hgy52.2.2.1
  have hgy52b := hgy52.2.2.2.1
  refine p_put (v := .ref r31) (ty := (.object "JinjaTongue$Node")) (C := RX7) (Tc := TX7) (N := 11) (ci := 13) (K' := (kC K32 1 q1 (some r31))) hx hb hq pin_wsX70 tyX7 tyX7_ok nmX7 hown hE hP hD hS hO (by rw [hf40]; decide) (rep_1 hf40) rfl 7 (by decide) (hq _ pw_910) (fun _ h9 => h9) rfl (by decide +kernel) rfl rfl (Nat.le_of_ble_eq_true rfl) rfl (by rw [rep_1 (show (kC K32 1 q1 (some r31)).1 q1 = 1 from hf40), pc_1] <;> rfl) (fun p9 hp9 => rep_kC hp9) dX8_whileStatement_33 (fun H locs w hP hD hS hO => ?_)
  obtain ⟨K53, hK54⟩ : ∃ z : PK, z = (kC K32 1 q1 (some r31)) := ⟨_, rfl⟩
  rw [← hK54] at hO
  have hf55 : K53.1 q1 = 1 := (by rw [hK54]; exact hf40)
  have hf56 : K53.2.1 0 q1 = 26 := (by rw [hK54]; exact hf41)
  have hf57 : K53.2.1 2 q1 = (nI at9) := (by rw [hK54]; exact hf42)
  have hf58 : K53.2.2.1 0 q1 = none := (by rw [hK54]; exact (kC_of (by decide)).trans hf43)
  have hf59 : K53.2.2.1 2 q1 = none := (by rw [hK54]; exact (kC_of (by decide)).trans hf45)
  have hf60 : K53.2.2.1 3 q1 = none := (by rw [hK54]; exact (kC_of (by decide)).trans hf46)
  have hf61 : K53.2.2.1 4 q1 = none := (by rw [hK54]; exact (kC_of (by decide)).trans hf47)
  have hf62 : K53.1 r31 = 1 := (by rw [hK54]; exact hf49)
  have hf63 : K53.2.2.1 1 q1 = some r31 := by rw [hK54]; exact kC_eq
  have hns64 : NwS K K53 g g33 := by rw [hK54]; exact NwS.put hns48 hq21 hg50
  have hno65 : NoO K53 g33 q1 := by rw [hK54]; exact hno51
  refine lv_aload_n hx hb dX8_whileStatement_36 rfl (lv_at hl 0 rfl) ?_
  refine lv_aload_n hx hb dX8_whileStatement_37 rfl (lv_at hl 1 rfl) ?_
  refine lv_iconst (v := 0) hx hb dX8_whileStatement_38 (by decide) ?_
  have hO : OKP G h0 a (upd (upd (upd (upd (upd (upd (upd (upd (upd (upd F 2 (nI sz)) 9 (nI at9)) 10 (nI dp)) 11 (nI sg)) 9 (nI at34)) 11 (nI sg35)) 2 (nI sz)) 9 (nI at34)) 10 (nI dp)) 11 (nI sg35)) R Z (updA B 10 f36) J K53 w := hO.to rfl
  obtain ⟨_, qr69, hqr70⟩ := hO.2.1 23 _ (sg_23 G h0 a _ _ _ _ _)
  refine pn_V0 (G := G) (As := [.int (nI 0)]) (rest := [.ref q1]) hx hb hml hown hq hE hX pX0_al hP hD hS hA hl.1 (ist h0 a (upd (upd (upd (upd (upd (upd F 2 (nI sz)) 9 (nI at9)) 10 (nI dp)) 11 (nI sg)) 9 (nI at34)) 11 (nI sg35)) R Z (updA B 10 f36) J K53 w 0 at34 sz dp sg35 0 g33 (by omega) (by omega) hdp (by omega) hns64.1 (fun o9 h9 => absurd h9 (by omega)) (by omega) hO hl0) (gV pw_1003 pw_1004 pw_1005 pw_796 pw_1025) hV_X8_statement qr69 5 hqr70 rfl rfl rfl (Nat.le_of_ble_eq_true rfl) dX8_whileStatement_39 ⟨(by show (1 + (2 * (at34 - (at9 + 1)) - 5)) + (2 * (sz - at34) + 20) ≤ (2 * (sz - at9) + 20); omega), (by show (11 + (11 * (2 * (at34 - (at9 + 1)) - 5))) + (11 * (2 * (sz - at34) + 20)) ≤ (11 * (2 * (sz - at9) + 20)); omega)⟩ ⟨(by show (50 * n + 50) + 1 ≤ (50 * n + 58); omega), (by show 8 + (5 + 11) + (1500 * n + 1500) ≤ (1500 * n + 1650); omega)⟩ (fun v68 u66 H locs hw67 hP hD hS => ?_) (fun ux ce9 q9 H9 locs9 hux hP9 hD9 hS9 hce hcv hcl => pb_out ux (ThQ.up (Thx.same (Thx.same (Thx.same (Thx.same (Thx.b (Thx.f (Thx.f Thx.rfl (by omega)) (by omega)) (by omega) (by decide)) rfl) rfl) rfl) rfl) RhX.rfl hux) hnt hlocks hce hcv hcl hP9 hD9 hS9 (by show (1 + (2 * (at34 - (at9 + 1)) - 5)) + (2 * (sz - at34) + 20) ≤ (2 * (sz - at9) + 20); omega) (by show (11 + (11 * (2 * (at34 - (at9 + 1)) - 5))) + (11 * (2 * (sz - at34) + 20)) ≤ (11 * (2 * (sz - at9) + 20)); omega))
  obtain ⟨w, r71, K72, g73, at74, sg75, f76, k77⟩ := u66
  obtain ⟨hw67, h78, h79, h80, h81, hO⟩ := hw67
  have h78 : NwR K53 K72 g33 g73 r71 0 k77 ((170 + 3 * (20 - dp))) := h78
  have h79 : at34 + 1 ≤ at74 ∧ at74 ≤ sz := h79
  have h80 : sg35 ≤ sg75 ∧ sg75 ≤ 60 := h80
  have h81 : rS k77 = at34 ∧ rE k77 ≤ at74 ∧ rS k77 ≤ rE k77 := h81
  obtain rfl : v68 = some (.ref r71) := hw67
  have hf82 : K72.1 q1 = 1 := (((h78).2.1.1 q1 (by rw [hf55]; decide)).1).trans hf55
  have hf83 : K72.2.1 0 q1 = 26 := (((h78).2.1.1 q1 (by rw [hf55]; decide)).2.1 0).trans hf56
  have hf84 : K72.2.1 2 q1 = (nI at9) := (((h78).2.1.1 q1 (by rw [hf55]; decide)).2.1 2).trans hf57
  have hf85 : K72.2.2.1 0 q1 = none := (((h78).2.1.1 q1 (by rw [hf55]; decide)).2.2.1 0).trans hf58
  have hf86 : K72.2.2.1 2 q1 = none := (((h78).2.1.1 q1 (by rw [hf55]; decide)).2.2.1 2).trans hf59
  have hf87 : K72.2.2.1 3 q1 = none := (((h78).2.1.1 q1 (by rw [hf55]; decide)).2.2.1 3).trans hf60
  have hf88 : K72.2.2.1 4 q1 = none := (((h78).2.1.1 q1 (by rw [hf55]; decide)).2.2.1 4).trans hf61
  have hf89 : K72.1 r31 = 1 := (((h78).2.1.1 r31 (by rw [hf62]; decide)).1).trans hf62
  have hf90 : K72.2.2.1 1 q1 = some r31 := (((h78).2.1.1 q1 (by rw [hf55]; decide)).2.2.1 1).trans hf63
  have hO : OKP G h0 a (upd (upd (upd (upd F 2 (nI sz)) 9 (nI at74)) 10 (nI dp)) 11 (nI sg75)) R Z (updA B 10 f76) J K72 w := hO.to rfl
  refine W.widen (k := ((1 + (2 * (at34 - (at9 + 1)) - 5)) + (2 * (at74 - at34) - 1))) (n := ((11 + (11 * (2 * (at34 - (at9 + 1)) - 5))) + (11 * (2 * (at74 - at34) - 1)))) (by show (1 + (2 * (at34 - (at9 + 1)) - 5)) + (2 * (at74 - at34) - 1) ≤ ((1 + (2 * (at34 - (at9 + 1)) - 5)) + (2 * (at74 - at34) - 1)); omega) (by show (11 + (11 * (2 * (at34 - (at9 + 1)) - 5))) + (11 * (2 * (at74 - at34) - 1)) ≤ ((11 + (11 * (2 * (at34 - (at9 + 1)) - 5))) + (11 * (2 * (at74 - at34) - 1))); omega) ?_
  refine W.eq (g2 := F0 m 42 ls [.ref r71, .ref q1]) rfl ?_
  have hns91 : NwS K K72 g g73 := NwS.call hns64 h78 (fun o9 h9 => absurd h9 (by omega))
  have hf92 : K72.1 r71 = 1 := h78.2.2.1.2.1
  have hg93 : g73 0 q1 = 0 := (h78.2.1.2 q1 (by rw [hf55]; decide) 0).trans hg50
  have hno94 : NoO K72 g73 q1 := NoO.call hno65 h78 hf55 (by omega)
  have hgz95 : g73 0 r31 = g33 0 r31 := h78.2.1.2 r31 (by rw [hf62]; decide) 0
  have hrk96 : g73 2 r71 = k77 := h78.2.2.1.2.2.2.2.2.1
  have hgy97 := h78.2.2.1
  have hgy97a := hgy97.2.2.1
  have hgy97b := hgy97.2.2.2.1
  refine p_put (v := .ref r71) (ty := (.object "JinjaTongue$Node")) (C := RX7) (Tc := TX7) (N := 11) (ci := 13) (K' := (kC K72 3 q1 (some r71))) hx hb hq pin_wsX70 tyX7 tyX7_ok nmX7 hown hE hP hD hS hO (by rw [hf82]; decide) (rep_1 hf82) rfl 9 (by decide) (hq _ pw_1011) (fun _ h9 => h9) rfl (by decide +kernel) rfl rfl (Nat.le_of_ble_eq_true rfl) rfl (by rw [rep_1 (show (kC K72 3 q1 (some r71)).1 q1 = 1 from hf82), pc_3] <;> rfl) (fun p9 hp9 => rep_kC hp9) dX8_whileStatement_42 (fun H locs w hP hD hS hO => ?_)
  obtain ⟨K98, hK99⟩ : ∃ z : PK, z = (kC K72 3 q1 (some r71)) := ⟨_, rfl⟩
  rw [← hK99] at hO
  have hf100 : K98.1 q1 = 1 := (by rw [hK99]; exact hf82)
  have hf101 : K98.2.1 0 q1 = 26 := (by rw [hK99]; exact hf83)
  have hf102 : K98.2.1 2 q1 = (nI at9) := (by rw [hK99]; exact hf84)
  have hf103 : K98.2.2.1 0 q1 = none := (by rw [hK99]; exact (kC_of (by decide)).trans hf85)
  have hf104 : K98.2.2.1 2 q1 = none := (by rw [hK99]; exact (kC_of (by decide)).trans hf86)
  have hf105 : K98.2.2.1 4 q1 = none := (by rw [hK99]; exact (kC_of (by decide)).trans hf88)
  have hf106 : K98.1 r31 = 1 := (by rw [hK99]; exact hf89)
  have hf107 : K98.2.2.1 1 q1 = some r31 := (by rw [hK99]; exact (kC_of (by decide)).trans hf90)
  have hf108 : K98.1 r71 = 1 := (by rw [hK99]; exact hf92)
  have hf109 : K98.2.2.1 3 q1 = some r71 := by rw [hK99]; exact kC_eq
  have hns110 : NwS K K98 g g73 := by rw [hK99]; exact NwS.put hns91 hq21 hg93
  have hno111 : NoO K98 g73 q1 := by rw [hK99]; exact hno94
  refine lv_aload_n hx hb dX8_whileStatement_45 rfl (lv_at hl 0 rfl) ?_
  refine W_size (fun hz1 hz2 => ?_)
  refine vx_ret ?_
  obtain ⟨k9, hkI, hkS, hkE, hkM, hkN⟩ : ∃ z : Nat, Itv z ∧ rS z = at9 ∧ rE z = at74 ∧ rM z = (rS k77) ∧ rN z = (rS k77) := ⟨rk at9 at74 (rS k77) (rS k77), Itv.of (by omega), rS_rk (by omega), rE_rk (by omega), rM_rk (by omega), rN_rk (by omega)⟩
  have hkch9 : ∀ f9 y9 : Nat, f9 ≤ 3 → K98.2.2.1 f9 q1 = some y9 → Kch (K98.2.1 0 q1) f9 (K98.2.1 0 y9) k9 (g73 2 y9) := by
    intro f9 y9 hf9 hy9
    rw [hf101]
    rcases (show f9 = 0 ∨ f9 = 1 ∨ f9 = 2 ∨ f9 = 3 by omega) with rfl | rfl | rfl | rfl
    · rw [hf103] at hy9; cases hy9
    · rw [hf107] at hy9; cases hy9; exact Kch.k26 (by decide) (fun z => absurd z (by decide)) (fun z => absurd z (by decide)) (fun z => absurd z (by decide))
    · rw [hf104] at hy9; cases hy9
    · rw [hf109] at hy9; cases hy9; rw [hrk96]; exact Kch.k26 (by decide) (fun z => absurd z (by decide)) (fun z => absurd z (by decide)) (fun _ => (by omega))
  have hkid : ∀ f9 y9 : Nat, f9 ≤ 3 → K98.2.2.1 f9 q1 = some y9 → K98.1 y9 = 1 ∧ 1 ≤ g73 0 y9 ∧ g73 0 y9 < (173 + 3 * (20 - dp)) := by
    intro f9 y9 hf9 hy9
    rcases (show f9 = 0 ∨ f9 = 1 ∨ f9 = 2 ∨ f9 = 3 by omega) with rfl | rfl | rfl | rfl
    · rw [hf103] at hy9; cases hy9
    · rw [hf107] at hy9; cases hy9; exact ⟨hf106, (by omega), by omega⟩
    · rw [hf104] at hy9; cases hy9
    · rw [hf109] at hy9; cases hy9; exact ⟨hf108, (by omega), by omega⟩
  have hdn := NwS.done1I (q := q1) (L := (173 + 3 * (20 - dp))) (O := O) (k := k9) hns110 hq21 hf100 hg93 (by omega) hkI (by rw [hf101]; exact ⟨(fun z => absurd z (by decide)), (fun z => absurd z (by decide)), (fun z => absurd z (by decide)), (fun _ => ⟨(by show ¬ K98.2.2.1 1 q1 = none; rw [hf107]; intro z; cases z), (by show ¬ K98.2.2.1 3 q1 = none; rw [hf109]; intro z; cases z)⟩), (fun z => absurd z (by decide))⟩) (fun f9 z => by rw [hf101] at z; rcases z with ⟨z, _⟩ | ⟨z | z | z, _⟩ <;> exact absurd z (by decide)) hkid hf105 hno111 hkch9 how
  have hz112 : NwR K K98 g (gset g73 q1 (173 + 3 * (20 - dp)) O k9) q1 O k9 ((173 + 3 * (20 - dp))) := hdn
  have hz113 : at9 + 5 ≤ at74 ∧ at74 ≤ sz := (by omega)
  have hz114 : sg ≤ sg75 ∧ sg75 ≤ 60 := (by omega)
  have hz115 : rS k9 = at9 ∧ rE k9 ≤ at74 ∧ rS k9 ≤ rE k9 := (by omega)
  have hO : OKP G h0 a (upd (upd (upd (upd F 2 (nI sz)) 9 (nI at74)) 10 (nI dp)) 11 (nI sg75)) R Z (updA B 10 f76) J K98 w := hO.to rfl
  refine W.widen (k := (2 * (sz - at9) + 20)) (n := (11 * (2 * (sz - at9) + 20))) (by omega) (by omega) ?_
  have hzz1 : H.size ≤ s.heap.size + ((2 * (at74 - at9) - 5)) := (by have z : ((1 + (2 * (at34 - (at9 + 1)) - 5)) + (2 * (at74 - at34) - 1)) ≤ (2 * (at74 - at9) - 5) := (by omega); omega)
  have hzz2 : hSl H ≤ hSl s.heap + ((11 * (2 * (at74 - at9) - 5))) := (by have z : ((11 + (11 * (2 * (at34 - (at9 + 1)) - 5))) + (11 * (2 * (at74 - at34) - 1))) ≤ (11 * (2 * (at74 - at9) - 5)) := (by omega); omega)
  exact W.aret (v := .ref q1) hx hb hr (Or.inl ⟨_, rfl⟩) (Or.inr ⟨_, rfl⟩) (fun t99 ht99 hW99 => ⟨⟨_, (w, (q1, K98, (gset g73 q1 (173 + 3 * (20 - dp)) O k9), at74, sg75, f76, k9)), rfl, ⟨rfl, hz112, hz113, hz114, hz115, hO⟩, by rw [ht99]; exact hP, hD, by rw [ht99]; exact hzz1, by rw [ht99]; exact hzz2⟩, hS.F ht99⟩) hS.2.2 dX8_whileStatement_46

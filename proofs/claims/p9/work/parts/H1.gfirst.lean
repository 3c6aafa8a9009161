theorem i32_cases (x : Int32) : x < 0 ∨ ∃ k : Nat, x = nI k ∧ k < 2147483648 := by
  by_cases h : x < 0
  · exact Or.inl h
  · exact Or.inr (nI_nn2 h)
theorem dX9_judgeAboveName_0 : decode cX9_judgeAboveName 0 = .ok (.aload_n 0, 1) := by decide +kernel
theorem dX9_judgeAboveName_1 : decode cX9_judgeAboveName 1 = .ok (.aload_n 0, 1) := by decide +kernel
theorem dX9_judgeAboveName_2 : decode cX9_judgeAboveName 2 = .ok (.aload_n 0, 1) := by decide +kernel
theorem dX9_judgeAboveName_3 : decode cX9_judgeAboveName 3 = .ok (.getfield 9, 3) := by decide +kernel
theorem dX9_judgeAboveName_6 : decode cX9_judgeAboveName 6 = .ok (.iload_n 1, 1) := by decide +kernel
theorem dX9_judgeAboveName_7 : decode cX9_judgeAboveName 7 = .ok (.invokevirtual 41, 3) := by decide +kernel
theorem dX9_judgeAboveName_10 : decode cX9_judgeAboveName 10 = .ok (.invokevirtual 116, 3) := by decide +kernel
theorem dX9_judgeAboveName_13 : decode cX9_judgeAboveName 13 = .ok (.invokevirtual 160, 3) := by decide +kernel
theorem dX9_judgeAboveName_16 : decode cX9_judgeAboveName 16 = .ok (.astore_n 3, 1) := by decide +kernel
theorem dX9_judgeAboveName_17 : decode cX9_judgeAboveName 17 = .ok (.aload_n 3, 1) := by decide +kernel
theorem dX9_judgeAboveName_18 : decode cX9_judgeAboveName 18 = .ok (.ifnonnull 12, 3) := by decide +kernel
theorem dX9_judgeAboveName_21 : decode cX9_judgeAboveName 21 = .ok (.aload_n 0, 1) := by decide +kernel
theorem dX9_judgeAboveName_22 : decode cX9_judgeAboveName 22 = .ok (.iconst 4, 1) := by decide +kernel
theorem dX9_judgeAboveName_23 : decode cX9_judgeAboveName 23 = .ok (.iload_n 1, 1) := by decide +kernel
theorem dX9_judgeAboveName_24 : decode cX9_judgeAboveName 24 = .ok (.invokevirtual 87, 3) := by decide +kernel
theorem dX9_judgeAboveName_27 : decode cX9_judgeAboveName 27 = .ok (.goto 17, 3) := by decide +kernel
theorem dX9_judgeAboveName_44 : decode cX9_judgeAboveName 44 = .ok (.return_, 1) := by decide +kernel
theorem dX9_judgeAboveName_30 : decode cX9_judgeAboveName 30 = .ok (.aload_n 3, 1) := by decide +kernel
theorem dX9_judgeAboveName_31 : decode cX9_judgeAboveName 31 = .ok (.getfield 164, 3) := by decide +kernel
theorem dX9_judgeAboveName_34 : decode cX9_judgeAboveName 34 = .ok (.iload_n 2, 1) := by decide +kernel
theorem dX9_judgeAboveName_35 : decode cX9_judgeAboveName 35 = .ok (.if_icmp .eq 9, 3) := by decide +kernel
theorem dX9_judgeAboveName_38 : decode cX9_judgeAboveName 38 = .ok (.aload_n 0, 1) := by decide +kernel
theorem dX9_judgeAboveName_39 : decode cX9_judgeAboveName 39 = .ok (.iconst 5, 1) := by decide +kernel
theorem dX9_judgeAboveName_40 : decode cX9_judgeAboveName 40 = .ok (.iload_n 1, 1) := by decide +kernel
theorem dX9_judgeAboveName_41 : decode cX9_judgeAboveName 41 = .ok (.invokevirtual 87, 3) := by decide +kernel
theorem hV_X9_find : yX9_find.cls = RX9 ∧ yX9_find.cls ≠ "java/lang/invoke/MethodHandle" ∧ yX9_find.cls ≠ "java/lang/invoke/VarHandle" ∧ (parseMethodDescriptor yX9_find.desc).map (fun d => d.parameters.length) = some 1 := by decide +kernel
theorem hV_X9_decl : yX9_decl.cls = RX9 ∧ yX9_decl.cls ≠ "java/lang/invoke/MethodHandle" ∧ yX9_decl.cls ≠ "java/lang/invoke/VarHandle" ∧ (parseMethodDescriptor yX9_decl.desc).map (fun d => d.parameters.length) = some 1 := by decide +kernel
set_option maxHeartbeats 16000000 in
set_option maxRecDepth 100000 in
theorem G_judgeAboveName (l : Launch) (G : pT) (h0 : Nat) (a : Nat → Nat) (F : Nat → Int32) (R : Nat → Value) (Z : Int64) (B : Nat → Nat → Int32) (J : Nat → Nat → Int64) (K : PK) (w : va_W) (pq : Nat) (dr : Nat) (ml : Nat) (nd : Nat) (nm : Nat) (cp : Nat) (it : Nat → Nat) (s9 : Nat) (x1 : Int32) (x2 : Int32) (sz : Nat) (g : Nat → Nat → Nat) (hsz : sz ≤ 5000) (hwp : WPr G K g) (hps : PgT G K g (a 1) pq dr ml nd nm cp it s9) (hO : OKP G h0 a (upd F 2 (nI sz)) R Z B J K w) : PM l G pX0 yX9_judgeAboveName cX9_judgeAboveName 4 none ({ frames := 4, cells := 0, slots := 0, locals := 103 }) [.ref pq, .int x1, .int x2] w (fun (v : Option Value) (u : va_W × (PK)) => v = none ∧ (LgK K u.2 pq) ∧ (OKP G h0 a (upd F 2 (nI sz)) R Z B J u.2 u.1)) (fun u => u.1) := by
  intro sz
  refine Met.ofW (cc := cX9_judgeAboveName) (maxL := 4) (ret := none) (by decide) rfl ?_
  intro p e s m args below meth c s₁ B9 hml hv
  obtain ⟨rfl, hsz, hP, hD0, hE, hX⟩ := hv
  have hx := B9.exec
  have hb := B9.bytes
  have hr := B9.returns
  have hts := atoms_spec (ws := Cond.code yX9_judgeAboveName cX9_judgeAboveName 4 none :: pw) B9.pre
  have hq : ∀ w ∈ pw, w.before _ s = true := fun w h => hts w (List.mem_cons_of_mem _ h)
  have hown : s.vm.findClass RX9 = some m.cls := findClass_of_methodNamed B9.named
  have hlocks := B9.notSynchronized
  subst hsz
  have hD := hD0.self (sz := s.heap.size)
  have hA : ∀ q : Nat, s.heap.size ≤ q → va_A w s.heap.size q := fun q h => Or.inr h
  generalize va_A w s.heap.size = A at hD hE hA ⊢
  have hS : va_S A s.heap s.heap [] := va_S.rf
  have hl := lv_entry ([.ref pq, .int x1, .int x2]) (n := 4) (Nat.le_of_ble_eq_true rfl)
  rw [lg_entry_eq]
  generalize (lg_sl ([.ref pq, .int x1, .int x2]) ++ List.replicate (4 - (lg_sl ([.ref pq, .int x1, .int x2])).length) Slot.unset).toArray = ls at hl ⊢
  have hl : lv_has ls 4 [(0, .ref pq), (1, .int x1), (2, .int x2)] := hl
  have hp1 := hps.1.1
  have hp2 := hps.1.2.1
  have hp3 := hps.1.2.2.1
  have hp4 := hps.1.2.2.2.1
  have hp5 := hps.1.2.2.2.2.1
  have hp6 := hps.1.2.2.2.2.2.1
  have hp8 := hps.1.2.2.2.2.2.2.2.1
  have hp9 := hps.1.2.2.2.2.2.2.2.2
  refine lv_aload_n hx hb dX9_judgeAboveName_0 rfl (lv_at hl 0 rfl) ?_
  refine lv_aload_n hx hb dX9_judgeAboveName_1 rfl (lv_at hl 0 rfl) ?_
  refine lv_aload_n hx hb dX9_judgeAboveName_2 rfl (lv_at hl 0 rfl) ?_
  refine p_get (v := .ref (a 1)) (C := RX9) (Tc := TX9) (N := 5) (ci := 6) hx hb hq pin_wsX90 hown hE hP hO (by rw [hp1]; decide) (rep_7 hp1) rfl 0 (by decide) (hq _ pw_784) (fun _ h9 => h9) (congrArg (fun z => some (va_rf z)) hp2) dX9_judgeAboveName_3 ?_
  refine lv_iload_n hx hb dX9_judgeAboveName_6 rfl (lv_at hl 1 rfl) ?_
  have hO : OKW G h0 a (upd (upd F 2 (nI sz)) 2 (nI sz)) R Z B J K.1 (fun q99 x99 => x99 = rep G a K q99) w := hO.to rfl
  obtain ⟨_, qr4, hqr5⟩ := hO.2.1 2 _ (sg_2 G h0 a _ _ _ _ _)
  refine pc_V0 (G := G) (As := [.int x1]) (rest := [.ref pq, .ref pq]) hx hb hml hown hq hE hX pX0_al hP hD hS hA hl.1 (K_valueAt l G h0 a (upd F 2 (nI sz)) R Z B J K.1 (fun q99 x99 => x99 = rep G a K q99) w x1 sz (by omega) hO) (gV pw_785 pw_57 pw_58 pw_59 pw_39) hV_X10_valueAt qr4 7 hqr5 rfl rfl rfl (Nat.le_of_ble_eq_true rfl) dX9_judgeAboveName_7 ⟨Nat.le_of_ble_eq_true rfl, Nat.le_of_ble_eq_true rfl⟩ ⟨Nat.le_of_ble_eq_true rfl, Nat.le_of_ble_eq_true rfl⟩ (fun v3 u1 H locs hw2 hP hD hS => ?_)
  obtain ⟨w, r6⟩ := u1
  obtain ⟨hw2, hO⟩ := hw2
  obtain rfl : v3 = some (.int r6) := hw2
  have hO : OKP G h0 a (upd F 2 (nI sz)) R Z B J K w := hO.to rfl
  refine W.widen (k := 0) (n := 0) (Nat.le_of_ble_eq_true rfl) (Nat.le_of_ble_eq_true rfl) ?_
  refine W.eq (g2 := F0 m 10 ls [.int r6, .ref pq, .ref pq]) rfl ?_
  have hO : OKP G h0 a (upd F 2 (nI sz)) R Z B J K w := hO.to rfl
  obtain ⟨qr10, hqr11⟩ := p_recv hO (by rw [hp1]; decide) (rep_7 hp1)
  refine pc_V0 (G := G) (As := [.int r6]) (rest := [.ref pq]) hx hb hml hown hq hE hX pX0_al hP hD hS hA hl.1 (G_find l G h0 a (upd F 2 (nI sz)) R Z B J K w pq dr ml nd r6 g hps.1 hps.2.1 hO) (gV pw_1102 pw_585 pw_586 pw_106 pw_509) hV_X9_find qr10 6 hqr11 rfl rfl rfl (Nat.le_of_ble_eq_true rfl) dX9_judgeAboveName_10 ⟨Nat.le_of_ble_eq_true rfl, Nat.le_of_ble_eq_true rfl⟩ ⟨Nat.le_of_ble_eq_true rfl, Nat.le_of_ble_eq_true rfl⟩ (fun v9 u7 H locs hw8 hP hD hS => ?_)
  obtain ⟨w, r12⟩ := u7
  obtain ⟨hw8, h13, hO⟩ := hw8
  have h13 : FnQ r12 nd := h13
  obtain rfl : v9 = some (.int r12) := hw8
  have hO : OKP G h0 a (upd F 2 (nI sz)) R Z B J K w := hO.to rfl
  refine W.widen (k := 0) (n := 0) (Nat.le_of_ble_eq_true rfl) (Nat.le_of_ble_eq_true rfl) ?_
  refine W.eq (g2 := F0 m 13 ls [.int r12, .ref pq]) rfl ?_
  have hO : OKP G h0 a (upd F 2 (nI sz)) R Z B J K w := hO.to rfl
  obtain ⟨qr17, hqr18⟩ := p_recv hO (by rw [hp1]; decide) (rep_7 hp1)
  refine pc_V0 (G := G) (As := [.int r12]) (rest := []) hx hb hml hown hq hE hX pX0_al hP hD hS hA hl.1 (G_decl l G h0 a (upd F 2 (nI sz)) R Z B J K w pq dr ml nd r12 g hps.1 hps.2.1 hO) (gV pw_1103 pw_182 pw_183 pw_106 pw_13) hV_X9_decl qr17 6 hqr18 rfl rfl rfl (Nat.le_of_ble_eq_true rfl) dX9_judgeAboveName_13 ⟨Nat.le_of_ble_eq_true rfl, Nat.le_of_ble_eq_true rfl⟩ ⟨Nat.le_of_ble_eq_true rfl, Nat.le_of_ble_eq_true rfl⟩ (fun v16 u14 H locs hw15 hP hD hS => ?_)
  obtain ⟨w, o19⟩ := u14
  obtain ⟨hw15, h20, h21, hO⟩ := hw15
  have h20 : DoN K o19 := h20
  have h21 : DoK K dr nd r12 o19 := h21
  obtain rfl : v16 = some ((va_rf o19)) := hw15
  have hO : OKP G h0 a (upd F 2 (nI sz)) R Z B J K w := hO.to rfl
  refine W.widen (k := 0) (n := 0) (Nat.le_of_ble_eq_true rfl) (Nat.le_of_ble_eq_true rfl) ?_
  refine W.eq (g2 := F0 m 16 ls [(va_rf o19)]) rfl ?_
  rcases o19 with _ | d22
  · have hl : lv_has ls 4 [(0, .ref pq), (1, .int x1), (2, .int x2)] := hl
    refine W.eq (g2 := F0 m 16 ls [.null]) rfl ?_
    refine lv_astore_nN (lv' := [(3, .null), (0, .ref pq), (1, .int x1), (2, .int x2)]) hx hb dX9_judgeAboveName_16 rfl hl (by decide) rfl (fun ls hl => ?_)
    refine lv_aload_nN hx hb dX9_judgeAboveName_17 rfl (lv_at hl 0 rfl) ?_
    refine lv_ifnonnullN hx hb dX9_judgeAboveName_18 ?_
    refine lv_aload_n hx hb dX9_judgeAboveName_21 rfl (lv_at hl 1 rfl) ?_
    refine lv_iconst (v := 4) hx hb dX9_judgeAboveName_22 (by decide) ?_
    refine lv_iload_n hx hb dX9_judgeAboveName_23 rfl (lv_at hl 2 rfl) ?_
    have hO : OKP G h0 a (upd (upd F 2 (nI sz)) 2 (nI sz)) R Z B J K w := hO.to rfl
    obtain ⟨qr26, hqr27⟩ := p_recv hO (by rw [hp1]; decide) (rep_7 hp1)
    refine pc_V0 (G := G) (As := [.int 4, .int x1]) (rest := []) hx hb hml hown hq hE hX pX0_al hP hD hS hA hl.1 (G_report l G h0 a (upd F 2 (nI sz)) R Z B J K w pq dr ml nd nm cp it s9 4 x1 sz g (by omega) hwp hps hO) (gV pw_1096 pw_1097 pw_1098 pw_106 pw_1084) hV_X9_report qr26 6 hqr27 rfl rfl rfl (Nat.le_of_ble_eq_true rfl) dX9_judgeAboveName_24 ⟨Nat.le_of_ble_eq_true rfl, Nat.le_of_ble_eq_true rfl⟩ ⟨Nat.le_of_ble_eq_true rfl, Nat.le_of_ble_eq_true rfl⟩ (fun v25 u23 H locs hw24 hP hD hS => ?_)
    obtain ⟨w, K28⟩ := u23
    obtain ⟨hw24, h29, h30, hO⟩ := hw24
    have h29 : LgK K K28 pq := h29
    have h30 : RpQ 4 K28 pq := h30
    obtain rfl : v25 = none := hw24
    have hO : OKP G h0 a (upd F 2 (nI sz)) R Z B J K28 w := hO.to rfl
    refine W.widen (k := 0) (n := 0) (Nat.le_of_ble_eq_true rfl) (Nat.le_of_ble_eq_true rfl) ?_
    refine W.eq (g2 := F0 m 27 ls []) rfl ?_
    have hlg31 : LgK K K28 pq := LgK.trans LgK.rfl h29
    refine lv_goto (tgt := 44) hx hb dX9_judgeAboveName_27 (by decide) ?_
    have hz32 : LgK K K28 pq := hlg31
    have hO : OKP G h0 a (upd F 2 (nI sz)) R Z B J K28 w := hO.to rfl
    exact W.vret hx hb hr (fun t99 ht99 hW99 => ⟨⟨_, (w, K28), rfl, ⟨rfl, hz32, hO⟩, by rw [ht99]; exact hP, hD⟩, hS.F ht99⟩) hS.2.2 dX9_judgeAboveName_44
  · have hl : lv_has ls 4 [(0, .ref pq), (1, .int x1), (2, .int x2)] := hl
    refine W.eq (g2 := F0 m 16 ls [.ref d22]) rfl ?_
    have hf33 : K.1 d22 = 4 := h20 d22 rfl
    refine lv_astore_n (lv' := [(3, .ref d22), (0, .ref pq), (1, .int x1), (2, .int x2)]) hx hb dX9_judgeAboveName_16 rfl hl (by decide) rfl (fun ls hl => ?_)
    refine lv_aload_n hx hb dX9_judgeAboveName_17 rfl (lv_at hl 0 rfl) ?_
    refine lv_ifnonnull (tgt := 30) hx hb dX9_judgeAboveName_18 (by decide) ?_
    refine lv_aload_n hx hb dX9_judgeAboveName_30 rfl (lv_at hl 0 rfl) ?_
    refine p_get (v := .int (K.2.1 18 d22)) (C := RX2) (Tc := TX2) (N := 13) (ci := 2) hx hb hq pin_wsX20 hown hE hP hO (by rw [hf33]; decide) (rep_4 hf33) rfl 3 (by decide) (hq _ pw_1101) (fun _ h9 => h9) rfl dX9_judgeAboveName_31 ?_
    refine lv_iload_n hx hb dX9_judgeAboveName_34 rfl (lv_at hl 3 rfl) ?_
    refine lv_icmp_eq (tgt := 44) hx hb dX9_judgeAboveName_35 (by decide) (fun c34 => ?_) (fun c34 => ?_)
    · have hz35 : LgK K K pq := LgK.rfl
      have hO : OKP G h0 a (upd F 2 (nI sz)) R Z B J K w := hO.to rfl
      exact W.vret hx hb hr (fun t99 ht99 hW99 => ⟨⟨_, (w, K), rfl, ⟨rfl, hz35, hO⟩, by rw [ht99]; exact hP, hD⟩, hS.F ht99⟩) hS.2.2 dX9_judgeAboveName_44
    · refine lv_aload_n hx hb dX9_judgeAboveName_38 rfl (lv_at hl 1 rfl) ?_
      refine lv_iconst (v := 5) hx hb dX9_judgeAboveName_39 (by decide) ?_
      refine lv_iload_n hx hb dX9_judgeAboveName_40 rfl (lv_at hl 2 rfl) ?_
      have hO : OKP G h0 a (upd (upd F 2 (nI sz)) 2 (nI sz)) R Z B J K w := hO.to rfl
      obtain ⟨qr39, hqr40⟩ := p_recv hO (by rw [hp1]; decide) (rep_7 hp1)
      refine pc_V0 (G := G) (As := [.int 5, .int x1]) (rest := []) hx hb hml hown hq hE hX pX0_al hP hD hS hA hl.1 (G_report l G h0 a (upd F 2 (nI sz)) R Z B J K w pq dr ml nd nm cp it s9 5 x1 sz g (by omega) hwp hps hO) (gV pw_1096 pw_1097 pw_1098 pw_106 pw_1084) hV_X9_report qr39 6 hqr40 rfl rfl rfl (Nat.le_of_ble_eq_true rfl) dX9_judgeAboveName_41 ⟨Nat.le_of_ble_eq_true rfl, Nat.le_of_ble_eq_true rfl⟩ ⟨Nat.le_of_ble_eq_true rfl, Nat.le_of_ble_eq_true rfl⟩ (fun v38 u36 H locs hw37 hP hD hS => ?_)
      obtain ⟨w, K41⟩ := u36
      obtain ⟨hw37, h42, h43, hO⟩ := hw37
      have h42 : LgK K K41 pq := h42
      have h43 : RpQ 5 K41 pq := h43
      obtain rfl : v38 = none := hw37
      have hO : OKP G h0 a (upd F 2 (nI sz)) R Z B J K41 w := hO.to rfl
      refine W.widen (k := 0) (n := 0) (Nat.le_of_ble_eq_true rfl) (Nat.le_of_ble_eq_true rfl) ?_
      refine W.eq (g2 := F0 m 44 ls []) rfl ?_
      have hlg44 : LgK K K41 pq := LgK.trans LgK.rfl h42
      have hz45 : LgK K K41 pq := hlg44
      have hO : OKP G h0 a (upd F 2 (nI sz)) R Z B J K41 w := hO.to rfl
      exact W.vret hx hb hr (fun t99 ht99 hW99 => ⟨⟨_, (w, K41), rfl, ⟨rfl, hz45, hO⟩, by rw [ht99]; exact hP, hD⟩, hS.F ht99⟩) hS.2.2 dX9_judgeAboveName_44
theorem dX9_judgeTypeName_0 : decode cX9_judgeTypeName 0 = .ok (.aload_n 0, 1) := by decide +kernel
theorem dX9_judgeTypeName_1 : decode cX9_judgeTypeName 1 = .ok (.aload_n 0, 1) := by decide +kernel
theorem dX9_judgeTypeName_2 : decode cX9_judgeTypeName 2 = .ok (.aload_n 0, 1) := by decide +kernel
theorem dX9_judgeTypeName_3 : decode cX9_judgeTypeName 3 = .ok (.getfield 9, 3) := by decide +kernel
theorem dX9_judgeTypeName_6 : decode cX9_judgeTypeName 6 = .ok (.iload_n 1, 1) := by decide +kernel
theorem dX9_judgeTypeName_7 : decode cX9_judgeTypeName 7 = .ok (.invokevirtual 41, 3) := by decide +kernel
theorem dX9_judgeTypeName_10 : decode cX9_judgeTypeName 10 = .ok (.invokevirtual 116, 3) := by decide +kernel
theorem dX9_judgeTypeName_13 : decode cX9_judgeTypeName 13 = .ok (.invokevirtual 160, 3) := by decide +kernel
theorem dX9_judgeTypeName_16 : decode cX9_judgeTypeName 16 = .ok (.astore_n 3, 1) := by decide +kernel
theorem dX9_judgeTypeName_17 : decode cX9_judgeTypeName 17 = .ok (.aload_n 3, 1) := by decide +kernel
theorem dX9_judgeTypeName_18 : decode cX9_judgeTypeName 18 = .ok (.ifnonnull 12, 3) := by decide +kernel
theorem dX9_judgeTypeName_21 : decode cX9_judgeTypeName 21 = .ok (.aload_n 0, 1) := by decide +kernel
theorem dX9_judgeTypeName_22 : decode cX9_judgeTypeName 22 = .ok (.iconst 4, 1) := by decide +kernel
theorem dX9_judgeTypeName_23 : decode cX9_judgeTypeName 23 = .ok (.iload_n 1, 1) := by decide +kernel
theorem dX9_judgeTypeName_24 : decode cX9_judgeTypeName 24 = .ok (.invokevirtual 87, 3) := by decide +kernel
theorem dX9_judgeTypeName_27 : decode cX9_judgeTypeName 27 = .ok (.goto 20, 3) := by decide +kernel
theorem dX9_judgeTypeName_47 : decode cX9_judgeTypeName 47 = .ok (.return_, 1) := by decide +kernel
theorem dX9_judgeTypeName_30 : decode cX9_judgeTypeName 30 = .ok (.aload_n 3, 1) := by decide +kernel
theorem dX9_judgeTypeName_31 : decode cX9_judgeTypeName 31 = .ok (.getfield 164, 3) := by decide +kernel
theorem dX9_judgeTypeName_34 : decode cX9_judgeTypeName 34 = .ok (.ifCond .eq 13, 3) := by decide +kernel
theorem dX9_judgeTypeName_37 : decode cX9_judgeTypeName 37 = .ok (.iload_n 2, 1) := by decide +kernel
theorem dX9_judgeTypeName_38 : decode cX9_judgeTypeName 38 = .ok (.ifCond .ne 9, 3) := by decide +kernel
theorem dX9_judgeTypeName_41 : decode cX9_judgeTypeName 41 = .ok (.aload_n 0, 1) := by decide +kernel
theorem dX9_judgeTypeName_42 : decode cX9_judgeTypeName 42 = .ok (.iconst 5, 1) := by decide +kernel
theorem dX9_judgeTypeName_43 : decode cX9_judgeTypeName 43 = .ok (.iload_n 1, 1) := by decide +kernel
theorem dX9_judgeTypeName_44 : decode cX9_judgeTypeName 44 = .ok (.invokevirtual 87, 3) := by decide +kernel
set_option maxHeartbeats 16000000 in
set_option maxRecDepth 100000 in
theorem G_judgeTypeName (l : Launch) (G : pT) (h0 : Nat) (a : Nat → Nat) (F : Nat → Int32) (R : Nat → Value) (Z : Int64) (B : Nat → Nat → Int32) (J : Nat → Nat → Int64) (K : PK) (w : va_W) (pq : Nat) (dr : Nat) (ml : Nat) (nd : Nat) (nm : Nat) (cp : Nat) (it : Nat → Nat) (s9 : Nat) (x1 : Int32) (x2 : Int32) (sz : Nat) (g : Nat → Nat → Nat) (hsz : sz ≤ 5000) (hwp : WPr G K g) (hps : PgT G K g (a 1) pq dr ml nd nm cp it s9) (hO : OKP G h0 a (upd F 2 (nI sz)) R Z B J K w) : PM l G pX0 yX9_judgeTypeName cX9_judgeTypeName 4 none ({ frames := 4, cells := 0, slots := 0, locals := 103 }) [.ref pq, .int x1, .int x2] w (fun (v : Option Value) (u : va_W × (PK)) => v = none ∧ (LgK K u.2 pq) ∧ (OKP G h0 a (upd F 2 (nI sz)) R Z B J u.2 u.1)) (fun u => u.1) := by
  intro sz
  refine Met.ofW (cc := cX9_judgeTypeName) (maxL := 4) (ret := none) (by decide) rfl ?_
  intro p e s m args below meth c s₁ B9 hml hv
  obtain ⟨rfl, hsz, hP, hD0, hE, hX⟩ := hv
  have hx := B9.exec
  have hb := B9.bytes
  have hr := B9.returns
  have hts := atoms_spec (ws := Cond.code yX9_judgeTypeName cX9_judgeTypeName 4 none :: pw) B9.pre
  have hq : ∀ w ∈ pw, w.before _ s = true := fun w h => hts w (List.mem_cons_of_mem _ h)
  have hown : s.vm.findClass RX9 = some m.cls := findClass_of_methodNamed B9.named
  have hlocks := B9.notSynchronized
  subst hsz
  have hD := hD0.self (sz := s.heap.size)
  have hA : ∀ q : Nat, s.heap.size ≤ q → va_A w s.heap.size q := fun q h => Or.inr h
  generalize va_A w s.heap.size = A at hD hE hA ⊢
  have hS : va_S A s.heap s.heap [] := va_S.rf
  have hl := lv_entry ([.ref pq, .int x1, .int x2]) (n := 4) (Nat.le_of_ble_eq_true rfl)
  rw [lg_entry_eq]
  generalize (lg_sl ([.ref pq, .int x1, .int x2]) ++ List.replicate (4 - (lg_sl ([.ref pq, .int x1, .int x2])).length) Slot.unset).toArray = ls at hl ⊢
  have hl : lv_has ls 4 [(0, .ref pq), (1, .int x1), (2, .int x2)] := hl
  have hp1 := hps.1.1
  have hp2 := hps.1.2.1
  have hp3 := hps.1.2.2.1
  have hp4 := hps.1.2.2.2.1
  have hp5 := hps.1.2.2.2.2.1
  have hp6 := hps.1.2.2.2.2.2.1
  have hp8 := hps.1.2.2.2.2.2.2.2.1
  have hp9 := hps.1.2.2.2.2.2.2.2.2
  refine lv_aload_n hx hb dX9_judgeTypeName_0 rfl (lv_at hl 0 rfl) ?_
  refine lv_aload_n hx hb dX9_judgeTypeName_1 rfl (lv_at hl 0 rfl) ?_
  refine lv_aload_n hx hb dX9_judgeTypeName_2 rfl (lv_at hl 0 rfl) ?_
  refine p_get (v := .ref (a 1)) (C := RX9) (Tc := TX9) (N := 5) (ci := 6) hx hb hq pin_wsX90 hown hE hP hO (by rw [hp1]; decide) (rep_7 hp1) rfl 0 (by decide) (hq _ pw_784) (fun _ h9 => h9) (congrArg (fun z => some (va_rf z)) hp2) dX9_judgeTypeName_3 ?_
  refine lv_iload_n hx hb dX9_judgeTypeName_6 rfl (lv_at hl 1 rfl) ?_
  have hO : OKW G h0 a (upd (upd F 2 (nI sz)) 2 (nI sz)) R Z B J K.1 (fun q99 x99 => x99 = rep G a K q99) w := hO.to rfl
  obtain ⟨_, qr4, hqr5⟩ := hO.2.1 2 _ (sg_2 G h0 a _ _ _ _ _)
  refine pc_V0 (G := G) (As := [.int x1]) (rest := [.ref pq, .ref pq]) hx hb hml hown hq hE hX pX0_al hP hD hS hA hl.1 (K_valueAt l G h0 a (upd F 2 (nI sz)) R Z B J K.1 (fun q99 x99 => x99 = rep G a K q99) w x1 sz (by omega) hO) (gV pw_785 pw_57 pw_58 pw_59 pw_39) hV_X10_valueAt qr4 7 hqr5 rfl rfl rfl (Nat.le_of_ble_eq_true rfl) dX9_judgeTypeName_7 ⟨Nat.le_of_ble_eq_true rfl, Nat.le_of_ble_eq_true rfl⟩ ⟨Nat.le_of_ble_eq_true rfl, Nat.le_of_ble_eq_true rfl⟩ (fun v3 u1 H locs hw2 hP hD hS => ?_)
  obtain ⟨w, r6⟩ := u1
  obtain ⟨hw2, hO⟩ := hw2
  obtain rfl : v3 = some (.int r6) := hw2
  have hO : OKP G h0 a (upd F 2 (nI sz)) R Z B J K w := hO.to rfl
  refine W.widen (k := 0) (n := 0) (Nat.le_of_ble_eq_true rfl) (Nat.le_of_ble_eq_true rfl) ?_
  refine W.eq (g2 := F0 m 10 ls [.int r6, .ref pq, .ref pq]) rfl ?_
  have hO : OKP G h0 a (upd F 2 (nI sz)) R Z B J K w := hO.to rfl
  obtain ⟨qr10, hqr11⟩ := p_recv hO (by rw [hp1]; decide) (rep_7 hp1)
  refine pc_V0 (G := G) (As := [.int r6]) (rest := [.ref pq]) hx hb hml hown hq hE hX pX0_al hP hD hS hA hl.1 (G_find l G h0 a (upd F 2 (nI sz)) R Z B J K w pq dr ml nd r6 g hps.1 hps.2.1 hO) (gV pw_1102 pw_585 pw_586 pw_106 pw_509) hV_X9_find qr10 6 hqr11 rfl rfl rfl (Nat.le_of_ble_eq_true rfl) dX9_judgeTypeName_10 ⟨Nat.le_of_ble_eq_true rfl, Nat.le_of_ble_eq_true rfl⟩ ⟨Nat.le_of_ble_eq_true rfl, Nat.le_of_ble_eq_true rfl⟩ (fun v9 u7 H locs hw8 hP hD hS => ?_)
  obtain ⟨w, r12⟩ := u7
  obtain ⟨hw8, h13, hO⟩ := hw8
  have h13 : FnQ r12 nd := h13
  obtain rfl : v9 = some (.int r12) := hw8
  have hO : OKP G h0 a (upd F 2 (nI sz)) R Z B J K w := hO.to rfl
  refine W.widen (k := 0) (n := 0) (Nat.le_of_ble_eq_true rfl) (Nat.le_of_ble_eq_true rfl) ?_
  refine W.eq (g2 := F0 m 13 ls [.int r12, .ref pq]) rfl ?_
  have hO : OKP G h0 a (upd F 2 (nI sz)) R Z B J K w := hO.to rfl
  obtain ⟨qr17, hqr18⟩ := p_recv hO (by rw [hp1]; decide) (rep_7 hp1)
  refine pc_V0 (G := G) (As := [.int r12]) (rest := []) hx hb hml hown hq hE hX pX0_al hP hD hS hA hl.1 (G_decl l G h0 a (upd F 2 (nI sz)) R Z B J K w pq dr ml nd r12 g hps.1 hps.2.1 hO) (gV pw_1103 pw_182 pw_183 pw_106 pw_13) hV_X9_decl qr17 6 hqr18 rfl rfl rfl (Nat.le_of_ble_eq_true rfl) dX9_judgeTypeName_13 ⟨Nat.le_of_ble_eq_true rfl, Nat.le_of_ble_eq_true rfl⟩ ⟨Nat.le_of_ble_eq_true rfl, Nat.le_of_ble_eq_true rfl⟩ (fun v16 u14 H locs hw15 hP hD hS => ?_)
  obtain ⟨w, o19⟩ := u14
  obtain ⟨hw15, h20, h21, hO⟩ := hw15
  have h20 : DoN K o19 := h20
  have h21 : DoK K dr nd r12 o19 := h21
  obtain rfl : v16 = some ((va_rf o19)) := hw15
  have hO : OKP G h0 a (upd F 2 (nI sz)) R Z B J K w := hO.to rfl
  refine W.widen (k := 0) (n := 0) (Nat.le_of_ble_eq_true rfl) (Nat.le_of_ble_eq_true rfl) ?_
  refine W.eq (g2 := F0 m 16 ls [(va_rf o19)]) rfl ?_
  rcases o19 with _ | d22
  · have hl : lv_has ls 4 [(0, .ref pq), (1, .int x1), (2, .int x2)] := hl
    refine W.eq (g2 := F0 m 16 ls [.null]) rfl ?_
    refine lv_astore_nN (lv' := [(3, .null), (0, .ref pq), (1, .int x1), (2, .int x2)]) hx hb dX9_judgeTypeName_16 rfl hl (by decide) rfl (fun ls hl => ?_)
    refine lv_aload_nN hx hb dX9_judgeTypeName_17 rfl (lv_at hl 0 rfl) ?_
    refine lv_ifnonnullN hx hb dX9_judgeTypeName_18 ?_
    refine lv_aload_n hx hb dX9_judgeTypeName_21 rfl (lv_at hl 1 rfl) ?_
    refine lv_iconst (v := 4) hx hb dX9_judgeTypeName_22 (by decide) ?_
    refine lv_iload_n hx hb dX9_judgeTypeName_23 rfl (lv_at hl 2 rfl) ?_
    have hO : OKP G h0 a (upd (upd F 2 (nI sz)) 2 (nI sz)) R Z B J K w := hO.to rfl
    obtain ⟨qr26, hqr27⟩ := p_recv hO (by rw [hp1]; decide) (rep_7 hp1)
    refine pc_V0 (G := G) (As := [.int 4, .int x1]) (rest := []) hx hb hml hown hq hE hX pX0_al hP hD hS hA hl.1 (G_report l G h0 a (upd F 2 (nI sz)) R Z B J K w pq dr ml nd nm cp it s9 4 x1 sz g (by omega) hwp hps hO) (gV pw_1096 pw_1097 pw_1098 pw_106 pw_1084) hV_X9_report qr26 6 hqr27 rfl rfl rfl (Nat.le_of_ble_eq_true rfl) dX9_judgeTypeName_24 ⟨Nat.le_of_ble_eq_true rfl, Nat.le_of_ble_eq_true rfl⟩ ⟨Nat.le_of_ble_eq_true rfl, Nat.le_of_ble_eq_true rfl⟩ (fun v25 u23 H locs hw24 hP hD hS => ?_)
    obtain ⟨w, K28⟩ := u23
    obtain ⟨hw24, h29, h30, hO⟩ := hw24
    have h29 : LgK K K28 pq := h29
    have h30 : RpQ 4 K28 pq := h30
    obtain rfl : v25 = none := hw24
    have hO : OKP G h0 a (upd F 2 (nI sz)) R Z B J K28 w := hO.to rfl
    refine W.widen (k := 0) (n := 0) (Nat.le_of_ble_eq_true rfl) (Nat.le_of_ble_eq_true rfl) ?_
    refine W.eq (g2 := F0 m 27 ls []) rfl ?_
    have hlg31 : LgK K K28 pq := LgK.trans LgK.rfl h29
    refine lv_goto (tgt := 47) hx hb dX9_judgeTypeName_27 (by decide) ?_
    have hz32 : LgK K K28 pq := hlg31
    have hO : OKP G h0 a (upd F 2 (nI sz)) R Z B J K28 w := hO.to rfl
    exact W.vret hx hb hr (fun t99 ht99 hW99 => ⟨⟨_, (w, K28), rfl, ⟨rfl, hz32, hO⟩, by rw [ht99]; exact hP, hD⟩, hS.F ht99⟩) hS.2.2 dX9_judgeTypeName_47
  · have hl : lv_has ls 4 [(0, .ref pq), (1, .int x1), (2, .int x2)] := hl
    refine W.eq (g2 := F0 m 16 ls [.ref d22]) rfl ?_
    have hf33 : K.1 d22 = 4 := h20 d22 rfl
    refine lv_astore_n (lv' := [(3, .ref d22), (0, .ref pq), (1, .int x1), (2, .int x2)]) hx hb dX9_judgeTypeName_16 rfl hl (by decide) rfl (fun ls hl => ?_)
    refine lv_aload_n hx hb dX9_judgeTypeName_17 rfl (lv_at hl 0 rfl) ?_
    refine lv_ifnonnull (tgt := 30) hx hb dX9_judgeTypeName_18 (by decide) ?_
    refine lv_aload_n hx hb dX9_judgeTypeName_30 rfl (lv_at hl 0 rfl) ?_
    refine p_get (v := .int (K.2.1 18 d22)) (C := RX2) (Tc := TX2) (N := 13) (ci := 2) hx hb hq pin_wsX20 hown hE hP hO (by rw [hf33]; decide) (rep_4 hf33) rfl 3 (by decide) (hq _ pw_1101) (fun _ h9 => h9) rfl dX9_judgeTypeName_31 ?_
    refine lv_if_eq (tgt := 47) hx hb dX9_judgeTypeName_34 (by decide) (fun c34 => ?_) (fun c34 => ?_)
    · have hz35 : LgK K K pq := LgK.rfl
      have hO : OKP G h0 a (upd F 2 (nI sz)) R Z B J K w := hO.to rfl
      exact W.vret hx hb hr (fun t99 ht99 hW99 => ⟨⟨_, (w, K), rfl, ⟨rfl, hz35, hO⟩, by rw [ht99]; exact hP, hD⟩, hS.F ht99⟩) hS.2.2 dX9_judgeTypeName_47
    · refine lv_iload_n hx hb dX9_judgeTypeName_37 rfl (lv_at hl 3 rfl) ?_
      refine lv_if_ne (tgt := 47) hx hb dX9_judgeTypeName_38 (by decide) (fun c36 => ?_) (fun c36 => ?_)
      · have hz37 : LgK K K pq := LgK.rfl
        have hO : OKP G h0 a (upd F 2 (nI sz)) R Z B J K w := hO.to rfl
        exact W.vret hx hb hr (fun t99 ht99 hW99 => ⟨⟨_, (w, K), rfl, ⟨rfl, hz37, hO⟩, by rw [ht99]; exact hP, hD⟩, hS.F ht99⟩) hS.2.2 dX9_judgeTypeName_47
      · refine lv_aload_n hx hb dX9_judgeTypeName_41 rfl (lv_at hl 1 rfl) ?_
        refine lv_iconst (v := 5) hx hb dX9_judgeTypeName_42 (by decide) ?_
        refine lv_iload_n hx hb dX9_judgeTypeName_43 rfl (lv_at hl 2 rfl) ?_
        have hO : OKP G h0 a (upd (upd F 2 (nI sz)) 2 (nI sz)) R Z B J K w := hO.to rfl
        obtain ⟨qr41, hqr42⟩ := p_recv hO (by rw [hp1]; decide) (rep_7 hp1)
        refine pc_V0 (G := G) (As := [.int 5, .int x1]) (rest := []) hx hb hml hown hq hE hX pX0_al hP hD hS hA hl.1 (G_report l G h0 a (upd F 2 (nI sz)) R Z B J K w pq dr ml nd nm cp it s9 5 x1 sz g (by omega) hwp hps hO) (gV pw_1096 pw_1097 pw_1098 pw_106 pw_1084) hV_X9_report qr41 6 hqr42 rfl rfl rfl (Nat.le_of_ble_eq_true rfl) dX9_judgeTypeName_44 ⟨Nat.le_of_ble_eq_true rfl, Nat.le_of_ble_eq_true rfl⟩ ⟨Nat.le_of_ble_eq_true rfl, Nat.le_of_ble_eq_true rfl⟩ (fun v40 u38 H locs hw39 hP hD hS => ?_)
        obtain ⟨w, K43⟩ := u38
        obtain ⟨hw39, h44, h45, hO⟩ := hw39
        have h44 : LgK K K43 pq := h44
        have h45 : RpQ 5 K43 pq := h45
        obtain rfl : v40 = none := hw39
        have hO : OKP G h0 a (upd F 2 (nI sz)) R Z B J K43 w := hO.to rfl
        refine W.widen (k := 0) (n := 0) (Nat.le_of_ble_eq_true rfl) (Nat.le_of_ble_eq_true rfl) ?_
        refine W.eq (g2 := F0 m 47 ls []) rfl ?_
        have hlg46 : LgK K K43 pq := LgK.trans LgK.rfl h44
        have hz47 : LgK K K43 pq := hlg46
        have hO : OKP G h0 a (upd F 2 (nI sz)) R Z B J K43 w := hO.to rfl
        exact W.vret hx hb hr (fun t99 ht99 hW99 => ⟨⟨_, (w, K43), rfl, ⟨rfl, hz47, hO⟩, by rw [ht99]; exact hP, hD⟩, hS.F ht99⟩) hS.2.2 dX9_judgeTypeName_47
theorem dX9_judgeHead_0 : decode cX9_judgeHead 0 = .ok (.aload_n 1, 1) := by decide +kernel
theorem dX9_judgeHead_1 : decode cX9_judgeHead 1 = .ok (.getfield 148, 3) := by decide +kernel
theorem dX9_judgeHead_4 : decode cX9_judgeHead 4 = .ok (.iconst (-1), 1) := by decide +kernel
theorem dX9_judgeHead_5 : decode cX9_judgeHead 5 = .ok (.if_icmp .eq 12, 3) := by decide +kernel
theorem dX9_judgeHead_17 : decode cX9_judgeHead 17 = .ok (.iconst 0, 1) := by decide +kernel
theorem dX9_judgeHead_18 : decode cX9_judgeHead 18 = .ok (.istore_n 2, 1) := by decide +kernel
theorem dX9_judgeHead_19 : decode cX9_judgeHead 19 = .ok (.iload_n 2, 1) := by decide +kernel
theorem dX9_judgeHead_20 : decode cX9_judgeHead 20 = .ok (.aload_n 1, 1) := by decide +kernel
theorem dX9_judgeHead_21 : decode cX9_judgeHead 21 = .ok (.getfield 154, 3) := by decide +kernel
theorem dX9_judgeHead_24 : decode cX9_judgeHead 24 = .ok (.if_icmp .ge 72, 3) := by decide +kernel
theorem dX9_judgeHead_96 : decode cX9_judgeHead 96 = .ok (.return_, 1) := by decide +kernel
theorem dX9_judgeHead_27 : decode cX9_judgeHead 27 = .ok (.aload_n 1, 1) := by decide +kernel
theorem dX9_judgeHead_28 : decode cX9_judgeHead 28 = .ok (.getfield 157, 3) := by decide +kernel
theorem dX9_judgeHead_31 : decode cX9_judgeHead 31 = .ok (.iconst 2, 1) := by decide +kernel
theorem dX9_judgeHead_32 : decode cX9_judgeHead 32 = .ok (.iload_n 2, 1) := by decide +kernel
theorem dX9_judgeHead_33 : decode cX9_judgeHead 33 = .ok (.imul, 1) := by decide +kernel
theorem dX9_judgeHead_34 : decode cX9_judgeHead 34 = .ok (.iadd, 1) := by decide +kernel
theorem dX9_judgeHead_35 : decode cX9_judgeHead 35 = .ok (.istore_n 3, 1) := by decide +kernel
theorem dX9_judgeHead_36 : decode cX9_judgeHead 36 = .ok (.aload_n 0, 1) := by decide +kernel
theorem dX9_judgeHead_37 : decode cX9_judgeHead 37 = .ok (.iload_n 3, 1) := by decide +kernel
theorem dX9_judgeHead_38 : decode cX9_judgeHead 38 = .ok (.iconst 1, 1) := by decide +kernel
theorem dX9_judgeHead_39 : decode cX9_judgeHead 39 = .ok (.invokevirtual 151, 3) := by decide +kernel
theorem dX9_judgeHead_42 : decode cX9_judgeHead 42 = .ok (.iconst 0, 1) := by decide +kernel
theorem dX9_judgeHead_43 : decode cX9_judgeHead 43 = .ok (.istore 4, 2) := by decide +kernel
theorem dX9_judgeHead_45 : decode cX9_judgeHead 45 = .ok (.iload 4, 2) := by decide +kernel
theorem dX9_judgeHead_47 : decode cX9_judgeHead 47 = .ok (.iload_n 2, 1) := by decide +kernel
theorem dX9_judgeHead_48 : decode cX9_judgeHead 48 = .ok (.if_icmp .ge 42, 3) := by decide +kernel
theorem dX9_judgeHead_90 : decode cX9_judgeHead 90 = .ok (.iinc 2 1, 3) := by decide +kernel
theorem dX9_judgeHead_93 : decode cX9_judgeHead 93 = .ok (.goto (-74), 3) := by decide +kernel
theorem dX9_judgeHead_51 : decode cX9_judgeHead 51 = .ok (.aload_n 0, 1) := by decide +kernel
theorem dX9_judgeHead_52 : decode cX9_judgeHead 52 = .ok (.getfield 9, 3) := by decide +kernel
theorem dX9_judgeHead_55 : decode cX9_judgeHead 55 = .ok (.aload_n 1, 1) := by decide +kernel
theorem dX9_judgeHead_56 : decode cX9_judgeHead 56 = .ok (.getfield 157, 3) := by decide +kernel
theorem dX9_judgeHead_59 : decode cX9_judgeHead 59 = .ok (.iconst 2, 1) := by decide +kernel
theorem dX9_judgeHead_60 : decode cX9_judgeHead 60 = .ok (.iload 4, 2) := by decide +kernel
theorem dX9_judgeHead_62 : decode cX9_judgeHead 62 = .ok (.imul, 1) := by decide +kernel
theorem dX9_judgeHead_63 : decode cX9_judgeHead 63 = .ok (.iadd, 1) := by decide +kernel
theorem dX9_judgeHead_64 : decode cX9_judgeHead 64 = .ok (.invokevirtual 41, 3) := by decide +kernel
theorem dX9_judgeHead_67 : decode cX9_judgeHead 67 = .ok (.aload_n 0, 1) := by decide +kernel
theorem dX9_judgeHead_68 : decode cX9_judgeHead 68 = .ok (.getfield 9, 3) := by decide +kernel
theorem dX9_judgeHead_71 : decode cX9_judgeHead 71 = .ok (.iload_n 3, 1) := by decide +kernel
theorem dX9_judgeHead_72 : decode cX9_judgeHead 72 = .ok (.invokevirtual 41, 3) := by decide +kernel
theorem dX9_judgeHead_75 : decode cX9_judgeHead 75 = .ok (.if_icmp .ne 9, 3) := by decide +kernel
theorem dX9_judgeHead_84 : decode cX9_judgeHead 84 = .ok (.iinc 4 1, 3) := by decide +kernel
theorem dX9_judgeHead_87 : decode cX9_judgeHead 87 = .ok (.goto (-42), 3) := by decide +kernel
theorem dX9_judgeHead_78 : decode cX9_judgeHead 78 = .ok (.aload_n 0, 1) := by decide +kernel
theorem dX9_judgeHead_79 : decode cX9_judgeHead 79 = .ok (.iconst 5, 1) := by decide +kernel
theorem dX9_judgeHead_80 : decode cX9_judgeHead 80 = .ok (.iload_n 3, 1) := by decide +kernel
theorem dX9_judgeHead_81 : decode cX9_judgeHead 81 = .ok (.invokevirtual 87, 3) := by decide +kernel
theorem dX9_judgeHead_8 : decode cX9_judgeHead 8 = .ok (.aload_n 0, 1) := by decide +kernel
theorem dX9_judgeHead_9 : decode cX9_judgeHead 9 = .ok (.aload_n 1, 1) := by decide +kernel
theorem dX9_judgeHead_10 : decode cX9_judgeHead 10 = .ok (.getfield 148, 3) := by decide +kernel
theorem dX9_judgeHead_13 : decode cX9_judgeHead 13 = .ok (.iconst 0, 1) := by decide +kernel
theorem dX9_judgeHead_14 : decode cX9_judgeHead 14 = .ok (.invokevirtual 151, 3) := by decide +kernel
theorem hV_X9_judgeAboveName : yX9_judgeAboveName.cls = RX9 ∧ yX9_judgeAboveName.cls ≠ "java/lang/invoke/MethodHandle" ∧ yX9_judgeAboveName.cls ≠ "java/lang/invoke/VarHandle" ∧ (parseMethodDescriptor yX9_judgeAboveName.desc).map (fun d => d.parameters.length) = some 2 := by decide +kernel
set_option maxHeartbeats 16000000 in
set_option maxRecDepth 100000 in
theorem G_judgeHead (l : Launch) (G : pT) (h0 : Nat) (a : Nat → Nat) (F : Nat → Int32) (R : Nat → Value) (Z : Int64) (B : Nat → Nat → Int32) (J : Nat → Nat → Int64) (K : PK) (w : va_W) (pq : Nat) (dr : Nat) (ml : Nat) (nd : Nat) (nm : Nat) (cp : Nat) (it : Nat → Nat) (s9 : Nat) (d0 : Nat) (sz : Nat) (g : Nat → Nat → Nat) (hsz : sz ≤ 5000) (hwp : WPr G K g) (hps : PgT G K g (a 1) pq dr ml nd nm cp it s9) (hd0 : K.1 d0 = 4) (hO : OKP G h0 a (upd F 2 (nI sz)) R Z B J K w) : PM l G pX0 yX9_judgeHead cX9_judgeHead 5 none ({ frames := 5, cells := 0, slots := 0, locals := 126 }) [.ref pq, .ref d0] w (fun (v : Option Value) (u : va_W × (PK)) => v = none ∧ (LgK K u.2 pq) ∧ (OKP G h0 a (upd F 2 (nI sz)) R Z B J u.2 u.1)) (fun u => u.1) := by
  intro sz
  refine Met.ofW (cc := cX9_judgeHead) (maxL := 5) (ret := none) (by decide) rfl ?_
  intro p e s m args below meth c s₁ B9 hml hv
  obtain ⟨rfl, hsz, hP, hD0, hE, hX⟩ := hv
  have hx := B9.exec
  have hb := B9.bytes
  have hr := B9.returns
  have hts := atoms_spec (ws := Cond.code yX9_judgeHead cX9_judgeHead 5 none :: pw) B9.pre
  have hq : ∀ w ∈ pw, w.before _ s = true := fun w h => hts w (List.mem_cons_of_mem _ h)
  have hown : s.vm.findClass RX9 = some m.cls := findClass_of_methodNamed B9.named
  have hlocks := B9.notSynchronized
  subst hsz
  have hD := hD0.self (sz := s.heap.size)
  have hA : ∀ q : Nat, s.heap.size ≤ q → va_A w s.heap.size q := fun q h => Or.inr h
  generalize va_A w s.heap.size = A at hD hE hA ⊢
  have hS : va_S A s.heap s.heap [] := va_S.rf
  have hl := lv_entry ([.ref pq, .ref d0]) (n := 5) (Nat.le_of_ble_eq_true rfl)
  rw [lg_entry_eq]
  generalize (lg_sl ([.ref pq, .ref d0]) ++ List.replicate (5 - (lg_sl ([.ref pq, .ref d0])).length) Slot.unset).toArray = ls at hl ⊢
  have hl : lv_has ls 5 [(0, .ref pq), (1, .ref d0)] := hl
  have hp1 := hps.1.1
  have hp2 := hps.1.2.1
  have hp3 := hps.1.2.2.1
  have hp4 := hps.1.2.2.2.1
  have hp5 := hps.1.2.2.2.2.1
  have hp6 := hps.1.2.2.2.2.2.1
  have hp8 := hps.1.2.2.2.2.2.2.2.1
  have hp9 := hps.1.2.2.2.2.2.2.2.2
  obtain ⟨lz9, hlz9⟩ : ∃ z : Int32, K.2.1 21 d0 = z := ⟨_, rfl⟩
  obtain ⟨b9, hb9, hb8⟩ : ∃ k : Nat, k < 2147483648 ∧ (∀ i : Nat, i < 2147483648 → nI i < lz9 → i < k) := by
    rcases i32_cases lz9 with h | ⟨k, h1, h2⟩
    · exact ⟨0, by decide, fun i hi h9 => absurd (Int32.lt_trans h9 h) (nI_pos hi)⟩
    · exact ⟨k, h2, fun i hi h9 => by rw [h1] at h9; exact (nI_ltI (a := i) (b := k) hi h2).mp h9⟩
  refine lv_aload_n hx hb dX9_judgeHead_0 rfl (lv_at hl 1 rfl) ?_
  refine p_get (v := .int (K.2.1 19 d0)) (C := RX2) (Tc := TX2) (N := 13) (ci := 2) hx hb hq pin_wsX20 hown hE hP hO (by rw [hd0]; decide) (rep_4 hd0) rfl 4 (by decide) (hq _ pw_1105) (fun _ h9 => h9) rfl dX9_judgeHead_1 ?_
  refine lv_iconst (v := (-1)) hx hb dX9_judgeHead_4 (by decide) ?_
  refine lv_icmp_eq (tgt := 17) hx hb dX9_judgeHead_5 (by decide) (fun c1 => ?_) (fun c1 => ?_)
  · refine lv_iconst (v := 0) hx hb dX9_judgeHead_17 (by decide) ?_
    refine lv_istore_n (lv' := [(2, .int 0), (0, .ref pq), (1, .ref d0)]) hx hb dX9_judgeHead_18 rfl hl (by decide) rfl (fun ls hl => ?_)
    have loop_2 : ∀ (n_2 : Nat) (i2 : Nat) (K2 : PK) (H : Heap) (locs : List Loc) (ls : Array Slot) (w : va_W), i2 ≤ b9 → b9 + 1 ≤ i2 + n_2 → (LgK K K2 pq) → va_P G.1 pCl w H → va_D A w → va_S A s.heap H locs → OKP G h0 a (upd F 2 (nI sz)) R Z B J K2 w → lv_has ls 5 [(2, .int (nI i2)), (1, .ref d0), (0, .ref pq)] → W p l e (headSpec (Cond.code yX9_judgeHead cX9_judgeHead 5 none :: pw) ({ frames := 5, cells := 0, slots := 0, locals := 126 } : Room)).room s m ([.ref pq, .ref d0] : List Value).toArray below meth c H locs 0 0 (MQ below (pQ G A (fun (v : Option Value) (u : va_W × (PK)) => v = none ∧ (LgK K u.2 pq) ∧ (OKP G h0 a (upd F 2 (nI sz)) R Z B J u.2 u.1)) (fun u => u.1)) ([.ref pq, .ref d0] : List Value).toArray s ({ frames := 5, cells := 0, slots := 0, locals := 126 } : Room).cells ({ frames := 5, cells := 0, slots := 0, locals := 126 } : Room).slots A) (F0 m 19 ls []) := by
      intro n_2
      induction n_2 with
      | zero => intro i2 K2 H locs ls w hk_2 hn_2; omega
      | succ n_2 ih_2 =>
        intro i2 K2 H locs ls w hk_2 hn_2 hlg2 hP hD hS hO hl
        refine lv_iload_n hx hb dX9_judgeHead_19 rfl (lv_at hl 0 rfl) ?_
        refine lv_aload_n hx hb dX9_judgeHead_20 rfl (lv_at hl 1 rfl) ?_
        refine p_get (v := .int lz9) (C := RX2) (Tc := TX2) (N := 13) (ci := 2) hx hb hq pin_wsX20 hown hE hP hO (by rw [((LgK.T hlg2 d0).trans hd0)]; decide) (rep_4 ((LgK.T hlg2 d0).trans hd0)) rfl 6 (by decide) (hq _ pw_1106) (fun _ h9 => h9) (congrArg (fun z => some (Value.int z)) ((LgK.I hlg2 21 d0 (by decide)).trans hlz9)) dX9_judgeHead_21 ?_
        refine lv_icmp_ge (tgt := 96) hx hb dX9_judgeHead_24 (by decide) (fun c2 => ?_) (fun c2 => ?_)
        · have hz3 : LgK K K2 pq := hlg2
          have hO : OKP G h0 a (upd F 2 (nI sz)) R Z B J K2 w := hO.to rfl
          exact W.vret hx hb hr (fun t99 ht99 hW99 => ⟨⟨_, (w, K2), rfl, ⟨rfl, hz3, hO⟩, by rw [ht99]; exact hP, hD⟩, hS.F ht99⟩) hS.2.2 dX9_judgeHead_96
        · have hi9 := hb8 i2 (by omega) (Int32.not_le.mp c2)
          refine lv_aload_n hx hb dX9_judgeHead_27 rfl (lv_at hl 1 rfl) ?_
          refine p_get (v := .int (K2.2.1 20 d0)) (C := RX2) (Tc := TX2) (N := 13) (ci := 2) hx hb hq pin_wsX20 hown hE hP hO (by rw [((LgK.T hlg2 d0).trans hd0)]; decide) (rep_4 ((LgK.T hlg2 d0).trans hd0)) rfl 5 (by decide) (hq _ pw_1107) (fun _ h9 => h9) rfl dX9_judgeHead_28 ?_
          refine lv_iconst (v := 2) hx hb dX9_judgeHead_31 (by decide) ?_
          refine lv_iload_n hx hb dX9_judgeHead_32 rfl (lv_at hl 0 rfl) ?_
          refine lv_imul hx hb dX9_judgeHead_33 ?_
          refine lv_topi (fun x4 e5 => ?_)
          obtain rfl : x4 = nI (2 * i2) := e5.trans (nI_mulN (2) (i2))
          refine lv_iadd hx hb dX9_judgeHead_34 ?_
          refine lv_topi (fun x6 e7 => ?_)
          refine lv_istore_n (lv' := [(3, .int x6), (2, .int (nI i2)), (1, .ref d0), (0, .ref pq)]) hx hb dX9_judgeHead_35 rfl hl (by decide) rfl (fun ls hl => ?_)
          refine lv_aload_n hx hb dX9_judgeHead_36 rfl (lv_at hl 3 rfl) ?_
          refine lv_iload_n hx hb dX9_judgeHead_37 rfl (lv_at hl 0 rfl) ?_
          refine lv_iconst (v := 1) hx hb dX9_judgeHead_38 (by decide) ?_
          have hO : OKP G h0 a (upd (upd F 2 (nI sz)) 2 (nI sz)) R Z B J K2 w := hO.to rfl
          obtain ⟨qr11, hqr12⟩ := p_recv hO (by rw [((LgK.T hlg2 pq).trans hp1)]; decide) (rep_7 ((LgK.T hlg2 pq).trans hp1))
          refine pc_V0 (G := G) (As := [.int x6, .int 1]) (rest := []) hx hb hml hown hq hE hX pX0_al hP hD hS hA hl.1 (G_judgeAboveName l G h0 a (upd F 2 (nI sz)) R Z B J K2 w pq dr ml nd nm cp it s9 x6 1 sz g (by omega) (LgK.wp hlg2 hwp) (LgK.ps hlg2 hps) hO) (gV pw_1108 pw_1109 pw_1110 pw_106 pw_1104) hV_X9_judgeAboveName qr11 6 hqr12 rfl rfl rfl (Nat.le_of_ble_eq_true rfl) dX9_judgeHead_39 ⟨Nat.le_of_ble_eq_true rfl, Nat.le_of_ble_eq_true rfl⟩ ⟨Nat.le_of_ble_eq_true rfl, Nat.le_of_ble_eq_true rfl⟩ (fun v10 u8 H locs hw9 hP hD hS => ?_)
          obtain ⟨w, K13⟩ := u8
          obtain ⟨hw9, h14, hO⟩ := hw9
          have h14 : LgK K2 K13 pq := h14
          obtain rfl : v10 = none := hw9
          have hO : OKP G h0 a (upd F 2 (nI sz)) R Z B J K13 w := hO.to rfl
          refine W.widen (k := 0) (n := 0) (Nat.le_of_ble_eq_true rfl) (Nat.le_of_ble_eq_true rfl) ?_
          refine W.eq (g2 := F0 m 42 ls []) rfl ?_
          have hlg15 : LgK K K13 pq := LgK.trans hlg2 h14
          refine lv_iconst (v := 0) hx hb dX9_judgeHead_42 (by decide) ?_
          refine lv_istore (lv' := [(4, .int 0), (3, .int x6), (2, .int (nI i2)), (1, .ref d0), (0, .ref pq)]) hx hb dX9_judgeHead_43 hl (by decide) rfl (fun ls hl => ?_)
          have loop_3 : ∀ (n_3 : Nat) (i3 : Nat) (K3 : PK) (tk3 : Int32) (H : Heap) (locs : List Loc) (ls : Array Slot) (w : va_W), i3 ≤ i2 → i2 + 1 ≤ i3 + n_3 → (LgK K K3 pq) → va_P G.1 pCl w H → va_D A w → va_S A s.heap H locs → OKP G h0 a (upd F 2 (nI sz)) R Z B J K3 w → lv_has ls 5 [(4, .int (nI i3)), (3, .int tk3), (2, .int (nI i2)), (1, .ref d0), (0, .ref pq)] → W p l e (headSpec (Cond.code yX9_judgeHead cX9_judgeHead 5 none :: pw) ({ frames := 5, cells := 0, slots := 0, locals := 126 } : Room)).room s m ([.ref pq, .ref d0] : List Value).toArray below meth c H locs 0 0 (MQ below (pQ G A (fun (v : Option Value) (u : va_W × (PK)) => v = none ∧ (LgK K u.2 pq) ∧ (OKP G h0 a (upd F 2 (nI sz)) R Z B J u.2 u.1)) (fun u => u.1)) ([.ref pq, .ref d0] : List Value).toArray s ({ frames := 5, cells := 0, slots := 0, locals := 126 } : Room).cells ({ frames := 5, cells := 0, slots := 0, locals := 126 } : Room).slots A) (F0 m 45 ls []) := by
            intro n_3
            induction n_3 with
            | zero => intro i3 K3 tk3 H locs ls w hk_3 hn_3; omega
            | succ n_3 ih_3 =>
              intro i3 K3 tk3 H locs ls w hk_3 hn_3 hlg3 hP hD hS hO hl
              refine lv_iload hx hb dX9_judgeHead_45 (lv_at hl 0 rfl) ?_
              refine lv_iload_n hx hb dX9_judgeHead_47 rfl (lv_at hl 2 rfl) ?_
              refine lv_icmp_ge (tgt := 90) hx hb dX9_judgeHead_48 (by decide) (fun c16 => ?_) (fun c16 => ?_)
              · have n17 : i2 ≤ i3 := (nI_leI (a := i2) (b := i3) (by omega) (by omega)).mp c16
                refine lv_iinc (v := (nI (i2 + 1))) (lv' := [(2, .int (nI (i2 + 1))), (4, .int (nI i3)), (3, .int tk3), (1, .ref d0), (0, .ref pq)]) hx hb dX9_judgeHead_90 hl (k := 2) rfl (nI_1 i2) (by decide) rfl (fun ls hl => ?_)
                refine lv_goto (tgt := 19) hx hb dX9_judgeHead_93 (by decide) ?_
                have hO : OKP G h0 a (upd F 2 (nI sz)) R Z B J K3 w := hO.to rfl
                exact ih_2 (i2 + 1) K3 _ _ _ _ (by omega) (by omega) hlg3 hP hD hS hO (lv_sub hl [0, 3, 4] rfl)
              · have n18 : ¬ (i2 ≤ i3) := fun h9 => c16 ((nI_leI (a := i2) (b := i3) (by omega) (by omega)).mpr h9)
                refine lv_aload_n hx hb dX9_judgeHead_51 rfl (lv_at hl 4 rfl) ?_
                refine p_get (v := .ref (a 1)) (C := RX9) (Tc := TX9) (N := 5) (ci := 6) hx hb hq pin_wsX90 hown hE hP hO (by rw [((LgK.T hlg3 pq).trans hp1)]; decide) (rep_7 ((LgK.T hlg3 pq).trans hp1)) rfl 0 (by decide) (hq _ pw_784) (fun _ h9 => h9) (congrArg (fun z => some (va_rf z)) ((LgK.C hlg3 18 pq).trans hp2)) dX9_judgeHead_52 ?_
                refine lv_aload_n hx hb dX9_judgeHead_55 rfl (lv_at hl 3 rfl) ?_
                refine p_get (v := .int (K3.2.1 20 d0)) (C := RX2) (Tc := TX2) (N := 13) (ci := 2) hx hb hq pin_wsX20 hown hE hP hO (by rw [((LgK.T hlg3 d0).trans hd0)]; decide) (rep_4 ((LgK.T hlg3 d0).trans hd0)) rfl 5 (by decide) (hq _ pw_1107) (fun _ h9 => h9) rfl dX9_judgeHead_56 ?_
                refine lv_iconst (v := 2) hx hb dX9_judgeHead_59 (by decide) ?_
                refine lv_iload hx hb dX9_judgeHead_60 (lv_at hl 0 rfl) ?_
                refine lv_imul hx hb dX9_judgeHead_62 ?_
                refine lv_topi (fun x19 e20 => ?_)
                obtain rfl : x19 = nI (2 * i3) := e20.trans (nI_mulN (2) (i3))
                refine lv_iadd hx hb dX9_judgeHead_63 ?_
                refine lv_topi (fun x21 e22 => ?_)
                have hO : OKW G h0 a (upd (upd F 2 (nI sz)) 2 (nI sz)) R Z B J K3.1 (fun q99 x99 => x99 = rep G a K3 q99) w := hO.to rfl
                obtain ⟨_, qr26, hqr27⟩ := hO.2.1 2 _ (sg_2 G h0 a _ _ _ _ _)
                refine pc_V0 (G := G) (As := [.int x21]) (rest := []) hx hb hml hown hq hE hX pX0_al hP hD hS hA hl.1 (K_valueAt l G h0 a (upd F 2 (nI sz)) R Z B J K3.1 (fun q99 x99 => x99 = rep G a K3 q99) w x21 sz (by omega) hO) (gV pw_785 pw_57 pw_58 pw_59 pw_39) hV_X10_valueAt qr26 7 hqr27 rfl rfl rfl (Nat.le_of_ble_eq_true rfl) dX9_judgeHead_64 ⟨Nat.le_of_ble_eq_true rfl, Nat.le_of_ble_eq_true rfl⟩ ⟨Nat.le_of_ble_eq_true rfl, Nat.le_of_ble_eq_true rfl⟩ (fun v25 u23 H locs hw24 hP hD hS => ?_)
                obtain ⟨w, r28⟩ := u23
                obtain ⟨hw24, hO⟩ := hw24
                obtain rfl : v25 = some (.int r28) := hw24
                have hO : OKP G h0 a (upd F 2 (nI sz)) R Z B J K3 w := hO.to rfl
                refine W.widen (k := 0) (n := 0) (Nat.le_of_ble_eq_true rfl) (Nat.le_of_ble_eq_true rfl) ?_
                refine W.eq (g2 := F0 m 67 ls [.int r28]) rfl ?_
                refine lv_aload_n hx hb dX9_judgeHead_67 rfl (lv_at hl 4 rfl) ?_
                refine p_get (v := .ref (a 1)) (C := RX9) (Tc := TX9) (N := 5) (ci := 6) hx hb hq pin_wsX90 hown hE hP hO (by rw [((LgK.T hlg3 pq).trans hp1)]; decide) (rep_7 ((LgK.T hlg3 pq).trans hp1)) rfl 0 (by decide) (hq _ pw_784) (fun _ h9 => h9) (congrArg (fun z => some (va_rf z)) ((LgK.C hlg3 18 pq).trans hp2)) dX9_judgeHead_68 ?_
                refine lv_iload_n hx hb dX9_judgeHead_71 rfl (lv_at hl 1 rfl) ?_
                have hO : OKW G h0 a (upd (upd F 2 (nI sz)) 2 (nI sz)) R Z B J K3.1 (fun q99 x99 => x99 = rep G a K3 q99) w := hO.to rfl
                obtain ⟨_, qr32, hqr33⟩ := hO.2.1 2 _ (sg_2 G h0 a _ _ _ _ _)
                refine pc_V0 (G := G) (As := [.int tk3]) (rest := [.int r28]) hx hb hml hown hq hE hX pX0_al hP hD hS hA hl.1 (K_valueAt l G h0 a (upd F 2 (nI sz)) R Z B J K3.1 (fun q99 x99 => x99 = rep G a K3 q99) w tk3 sz (by omega) hO) (gV pw_785 pw_57 pw_58 pw_59 pw_39) hV_X10_valueAt qr32 7 hqr33 rfl rfl rfl (Nat.le_of_ble_eq_true rfl) dX9_judgeHead_72 ⟨Nat.le_of_ble_eq_true rfl, Nat.le_of_ble_eq_true rfl⟩ ⟨Nat.le_of_ble_eq_true rfl, Nat.le_of_ble_eq_true rfl⟩ (fun v31 u29 H locs hw30 hP hD hS => ?_)
                obtain ⟨w, r34⟩ := u29
                obtain ⟨hw30, hO⟩ := hw30
                obtain rfl : v31 = some (.int r34) := hw30
                have hO : OKP G h0 a (upd F 2 (nI sz)) R Z B J K3 w := hO.to rfl
                refine W.widen (k := 0) (n := 0) (Nat.le_of_ble_eq_true rfl) (Nat.le_of_ble_eq_true rfl) ?_
                refine W.eq (g2 := F0 m 75 ls [.int r34, .int r28]) rfl ?_
                refine lv_icmp_ne (tgt := 84) hx hb dX9_judgeHead_75 (by decide) (fun c35 => ?_) (fun c35 => ?_)
                · refine lv_iinc (v := (nI (i3 + 1))) (lv' := [(4, .int (nI (i3 + 1))), (3, .int tk3), (2, .int (nI i2)), (1, .ref d0), (0, .ref pq)]) hx hb dX9_judgeHead_84 hl (k := 0) rfl (nI_1 i3) (by decide) rfl (fun ls hl => ?_)
                  refine lv_goto (tgt := 45) hx hb dX9_judgeHead_87 (by decide) ?_
                  have hO : OKP G h0 a (upd F 2 (nI sz)) R Z B J K3 w := hO.to rfl
                  exact ih_3 (i3 + 1) K3 tk3 _ _ _ _ (by omega) (by omega) hlg3 hP hD hS hO (lv_sub hl [0, 1, 2, 3, 4] rfl)
                · refine lv_aload_n hx hb dX9_judgeHead_78 rfl (lv_at hl 4 rfl) ?_
                  refine lv_iconst (v := 5) hx hb dX9_judgeHead_79 (by decide) ?_
                  refine lv_iload_n hx hb dX9_judgeHead_80 rfl (lv_at hl 1 rfl) ?_
                  have hO : OKP G h0 a (upd (upd F 2 (nI sz)) 2 (nI sz)) R Z B J K3 w := hO.to rfl
                  obtain ⟨qr39, hqr40⟩ := p_recv hO (by rw [((LgK.T hlg3 pq).trans hp1)]; decide) (rep_7 ((LgK.T hlg3 pq).trans hp1))
                  refine pc_V0 (G := G) (As := [.int 5, .int tk3]) (rest := []) hx hb hml hown hq hE hX pX0_al hP hD hS hA hl.1 (G_report l G h0 a (upd F 2 (nI sz)) R Z B J K3 w pq dr ml nd nm cp it s9 5 tk3 sz g (by omega) (LgK.wp hlg3 hwp) (LgK.ps hlg3 hps) hO) (gV pw_1096 pw_1097 pw_1098 pw_106 pw_1084) hV_X9_report qr39 6 hqr40 rfl rfl rfl (Nat.le_of_ble_eq_true rfl) dX9_judgeHead_81 ⟨Nat.le_of_ble_eq_true rfl, Nat.le_of_ble_eq_true rfl⟩ ⟨Nat.le_of_ble_eq_true rfl, Nat.le_of_ble_eq_true rfl⟩ (fun v38 u36 H locs hw37 hP hD hS => ?_)
                  obtain ⟨w, K41⟩ := u36
                  obtain ⟨hw37, h42, h43, hO⟩ := hw37
                  have h42 : LgK K3 K41 pq := h42
                  have h43 : RpQ 5 K41 pq := h43
                  obtain rfl : v38 = none := hw37
                  have hO : OKP G h0 a (upd F 2 (nI sz)) R Z B J K41 w := hO.to rfl
                  refine W.widen (k := 0) (n := 0) (Nat.le_of_ble_eq_true rfl) (Nat.le_of_ble_eq_true rfl) ?_
                  refine W.eq (g2 := F0 m 84 ls []) rfl ?_
                  have hlg44 : LgK K K41 pq := LgK.trans hlg3 h42
                  refine lv_iinc (v := (nI (i3 + 1))) (lv' := [(4, .int (nI (i3 + 1))), (3, .int tk3), (2, .int (nI i2)), (1, .ref d0), (0, .ref pq)]) hx hb dX9_judgeHead_84 hl (k := 0) rfl (nI_1 i3) (by decide) rfl (fun ls hl => ?_)
                  refine lv_goto (tgt := 45) hx hb dX9_judgeHead_87 (by decide) ?_
                  have hO : OKP G h0 a (upd F 2 (nI sz)) R Z B J K41 w := hO.to rfl
                  exact ih_3 (i3 + 1) K41 tk3 _ _ _ _ (by omega) (by omega) hlg44 hP hD hS hO (lv_sub hl [0, 1, 2, 3, 4] rfl)
          have hO : OKP G h0 a (upd F 2 (nI sz)) R Z B J K13 w := hO.to rfl
          exact loop_3 (i2 + 1) 0 K13 x6 _ _ _ _ (by omega) (by omega) hlg15 hP hD hS hO (lv_sub hl [0, 1, 2, 3, 4] rfl)
    have hO : OKP G h0 a (upd F 2 (nI sz)) R Z B J K w := hO.to rfl
    exact loop_2 (b9 + 1) 0 K _ _ _ _ (by omega) (by omega) LgK.rfl hP hD hS hO (lv_sub hl [0, 2, 1] rfl)
  · refine lv_aload_n hx hb dX9_judgeHead_8 rfl (lv_at hl 0 rfl) ?_
    refine lv_aload_n hx hb dX9_judgeHead_9 rfl (lv_at hl 1 rfl) ?_
    refine p_get (v := .int (K.2.1 19 d0)) (C := RX2) (Tc := TX2) (N := 13) (ci := 2) hx hb hq pin_wsX20 hown hE hP hO (by rw [hd0]; decide) (rep_4 hd0) rfl 4 (by decide) (hq _ pw_1105) (fun _ h9 => h9) rfl dX9_judgeHead_10 ?_
    refine lv_iconst (v := 0) hx hb dX9_judgeHead_13 (by decide) ?_
    have hO : OKP G h0 a (upd (upd F 2 (nI sz)) 2 (nI sz)) R Z B J K w := hO.to rfl
    obtain ⟨qr48, hqr49⟩ := p_recv hO (by rw [hp1]; decide) (rep_7 hp1)
    refine pc_V0 (G := G) (As := [.int (K.2.1 19 d0), .int 0]) (rest := []) hx hb hml hown hq hE hX pX0_al hP hD hS hA hl.1 (G_judgeAboveName l G h0 a (upd F 2 (nI sz)) R Z B J K w pq dr ml nd nm cp it s9 (K.2.1 19 d0) 0 sz g (by omega) hwp hps hO) (gV pw_1108 pw_1109 pw_1110 pw_106 pw_1104) hV_X9_judgeAboveName qr48 6 hqr49 rfl rfl rfl (Nat.le_of_ble_eq_true rfl) dX9_judgeHead_14 ⟨Nat.le_of_ble_eq_true rfl, Nat.le_of_ble_eq_true rfl⟩ ⟨Nat.le_of_ble_eq_true rfl, Nat.le_of_ble_eq_true rfl⟩ (fun v47 u45 H locs hw46 hP hD hS => ?_)
    obtain ⟨w, K50⟩ := u45
    obtain ⟨hw46, h51, hO⟩ := hw46
    have h51 : LgK K K50 pq := h51
    obtain rfl : v47 = none := hw46
    have hO : OKP G h0 a (upd F 2 (nI sz)) R Z B J K50 w := hO.to rfl
    refine W.widen (k := 0) (n := 0) (Nat.le_of_ble_eq_true rfl) (Nat.le_of_ble_eq_true rfl) ?_
    refine W.eq (g2 := F0 m 17 ls []) rfl ?_
    have hlg52 : LgK K K50 pq := LgK.trans LgK.rfl h51
    refine lv_iconst (v := 0) hx hb dX9_judgeHead_17 (by decide) ?_
    refine lv_istore_n (lv' := [(2, .int 0), (0, .ref pq), (1, .ref d0)]) hx hb dX9_judgeHead_18 rfl hl (by decide) rfl (fun ls hl => ?_)
    have loop_2 : ∀ (n_2 : Nat) (i2 : Nat) (K2 : PK) (H : Heap) (locs : List Loc) (ls : Array Slot) (w : va_W), i2 ≤ b9 → b9 + 1 ≤ i2 + n_2 → (LgK K K2 pq) → va_P G.1 pCl w H → va_D A w → va_S A s.heap H locs → OKP G h0 a (upd F 2 (nI sz)) R Z B J K2 w → lv_has ls 5 [(2, .int (nI i2)), (1, .ref d0), (0, .ref pq)] → W p l e (headSpec (Cond.code yX9_judgeHead cX9_judgeHead 5 none :: pw) ({ frames := 5, cells := 0, slots := 0, locals := 126 } : Room)).room s m ([.ref pq, .ref d0] : List Value).toArray below meth c H locs 0 0 (MQ below (pQ G A (fun (v : Option Value) (u : va_W × (PK)) => v = none ∧ (LgK K u.2 pq) ∧ (OKP G h0 a (upd F 2 (nI sz)) R Z B J u.2 u.1)) (fun u => u.1)) ([.ref pq, .ref d0] : List Value).toArray s ({ frames := 5, cells := 0, slots := 0, locals := 126 } : Room).cells ({ frames := 5, cells := 0, slots := 0, locals := 126 } : Room).slots A) (F0 m 19 ls []) := by
      intro n_2
      induction n_2 with
      | zero => intro i2 K2 H locs ls w hk_2 hn_2; omega
      | succ n_2 ih_2 =>
        intro i2 K2 H locs ls w hk_2 hn_2 hlg2 hP hD hS hO hl
        refine lv_iload_n hx hb dX9_judgeHead_19 rfl (lv_at hl 0 rfl) ?_
        refine lv_aload_n hx hb dX9_judgeHead_20 rfl (lv_at hl 1 rfl) ?_
        refine p_get (v := .int lz9) (C := RX2) (Tc := TX2) (N := 13) (ci := 2) hx hb hq pin_wsX20 hown hE hP hO (by rw [((LgK.T hlg2 d0).trans hd0)]; decide) (rep_4 ((LgK.T hlg2 d0).trans hd0)) rfl 6 (by decide) (hq _ pw_1106) (fun _ h9 => h9) (congrArg (fun z => some (Value.int z)) ((LgK.I hlg2 21 d0 (by decide)).trans hlz9)) dX9_judgeHead_21 ?_
        refine lv_icmp_ge (tgt := 96) hx hb dX9_judgeHead_24 (by decide) (fun c53 => ?_) (fun c53 => ?_)
        · have hz54 : LgK K K2 pq := hlg2
          have hO : OKP G h0 a (upd F 2 (nI sz)) R Z B J K2 w := hO.to rfl
          exact W.vret hx hb hr (fun t99 ht99 hW99 => ⟨⟨_, (w, K2), rfl, ⟨rfl, hz54, hO⟩, by rw [ht99]; exact hP, hD⟩, hS.F ht99⟩) hS.2.2 dX9_judgeHead_96
        · have hi9 := hb8 i2 (by omega) (Int32.not_le.mp c53)
          refine lv_aload_n hx hb dX9_judgeHead_27 rfl (lv_at hl 1 rfl) ?_
          refine p_get (v := .int (K2.2.1 20 d0)) (C := RX2) (Tc := TX2) (N := 13) (ci := 2) hx hb hq pin_wsX20 hown hE hP hO (by rw [((LgK.T hlg2 d0).trans hd0)]; decide) (rep_4 ((LgK.T hlg2 d0).trans hd0)) rfl 5 (by decide) (hq _ pw_1107) (fun _ h9 => h9) rfl dX9_judgeHead_28 ?_
          refine lv_iconst (v := 2) hx hb dX9_judgeHead_31 (by decide) ?_
          refine lv_iload_n hx hb dX9_judgeHead_32 rfl (lv_at hl 0 rfl) ?_
          refine lv_imul hx hb dX9_judgeHead_33 ?_
          refine lv_topi (fun x55 e56 => ?_)
          obtain rfl : x55 = nI (2 * i2) := e56.trans (nI_mulN (2) (i2))
          refine lv_iadd hx hb dX9_judgeHead_34 ?_
          refine lv_topi (fun x57 e58 => ?_)
          refine lv_istore_n (lv' := [(3, .int x57), (2, .int (nI i2)), (1, .ref d0), (0, .ref pq)]) hx hb dX9_judgeHead_35 rfl hl (by decide) rfl (fun ls hl => ?_)
          refine lv_aload_n hx hb dX9_judgeHead_36 rfl (lv_at hl 3 rfl) ?_
          refine lv_iload_n hx hb dX9_judgeHead_37 rfl (lv_at hl 0 rfl) ?_
          refine lv_iconst (v := 1) hx hb dX9_judgeHead_38 (by decide) ?_
          have hO : OKP G h0 a (upd (upd F 2 (nI sz)) 2 (nI sz)) R Z B J K2 w := hO.to rfl
          obtain ⟨qr62, hqr63⟩ := p_recv hO (by rw [((LgK.T hlg2 pq).trans hp1)]; decide) (rep_7 ((LgK.T hlg2 pq).trans hp1))
          refine pc_V0 (G := G) (As := [.int x57, .int 1]) (rest := []) hx hb hml hown hq hE hX pX0_al hP hD hS hA hl.1 (G_judgeAboveName l G h0 a (upd F 2 (nI sz)) R Z B J K2 w pq dr ml nd nm cp it s9 x57 1 sz g (by omega) (LgK.wp hlg2 hwp) (LgK.ps hlg2 hps) hO) (gV pw_1108 pw_1109 pw_1110 pw_106 pw_1104) hV_X9_judgeAboveName qr62 6 hqr63 rfl rfl rfl (Nat.le_of_ble_eq_true rfl) dX9_judgeHead_39 ⟨Nat.le_of_ble_eq_true rfl, Nat.le_of_ble_eq_true rfl⟩ ⟨Nat.le_of_ble_eq_true rfl, Nat.le_of_ble_eq_true rfl⟩ (fun v61 u59 H locs hw60 hP hD hS => ?_)
          obtain ⟨w, K64⟩ := u59
          obtain ⟨hw60, h65, hO⟩ := hw60
          have h65 : LgK K2 K64 pq := h65
          obtain rfl : v61 = none := hw60
          have hO : OKP G h0 a (upd F 2 (nI sz)) R Z B J K64 w := hO.to rfl
          refine W.widen (k := 0) (n := 0) (Nat.le_of_ble_eq_true rfl) (Nat.le_of_ble_eq_true rfl) ?_
          refine W.eq (g2 := F0 m 42 ls []) rfl ?_
          have hlg66 : LgK K K64 pq := LgK.trans hlg2 h65
          refine lv_iconst (v := 0) hx hb dX9_judgeHead_42 (by decide) ?_
          refine lv_istore (lv' := [(4, .int 0), (3, .int x57), (2, .int (nI i2)), (1, .ref d0), (0, .ref pq)]) hx hb dX9_judgeHead_43 hl (by decide) rfl (fun ls hl => ?_)
          have loop_3 : ∀ (n_3 : Nat) (i3 : Nat) (K3 : PK) (tk3 : Int32) (H : Heap) (locs : List Loc) (ls : Array Slot) (w : va_W), i3 ≤ i2 → i2 + 1 ≤ i3 + n_3 → (LgK K K3 pq) → va_P G.1 pCl w H → va_D A w → va_S A s.heap H locs → OKP G h0 a (upd F 2 (nI sz)) R Z B J K3 w → lv_has ls 5 [(4, .int (nI i3)), (3, .int tk3), (2, .int (nI i2)), (1, .ref d0), (0, .ref pq)] → W p l e (headSpec (Cond.code yX9_judgeHead cX9_judgeHead 5 none :: pw) ({ frames := 5, cells := 0, slots := 0, locals := 126 } : Room)).room s m ([.ref pq, .ref d0] : List Value).toArray below meth c H locs 0 0 (MQ below (pQ G A (fun (v : Option Value) (u : va_W × (PK)) => v = none ∧ (LgK K u.2 pq) ∧ (OKP G h0 a (upd F 2 (nI sz)) R Z B J u.2 u.1)) (fun u => u.1)) ([.ref pq, .ref d0] : List Value).toArray s ({ frames := 5, cells := 0, slots := 0, locals := 126 } : Room).cells ({ frames := 5, cells := 0, slots := 0, locals := 126 } : Room).slots A) (F0 m 45 ls []) := by
            intro n_3
            induction n_3 with
            | zero => intro i3 K3 tk3 H locs ls w hk_3 hn_3; omega
            | succ n_3 ih_3 =>
              intro i3 K3 tk3 H locs ls w hk_3 hn_3 hlg3 hP hD hS hO hl
              refine lv_iload hx hb dX9_judgeHead_45 (lv_at hl 0 rfl) ?_
              refine lv_iload_n hx hb dX9_judgeHead_47 rfl (lv_at hl 2 rfl) ?_
              refine lv_icmp_ge (tgt := 90) hx hb dX9_judgeHead_48 (by decide) (fun c67 => ?_) (fun c67 => ?_)
              · have n68 : i2 ≤ i3 := (nI_leI (a := i2) (b := i3) (by omega) (by omega)).mp c67
                refine lv_iinc (v := (nI (i2 + 1))) (lv' := [(2, .int (nI (i2 + 1))), (4, .int (nI i3)), (3, .int tk3), (1, .ref d0), (0, .ref pq)]) hx hb dX9_judgeHead_90 hl (k := 2) rfl (nI_1 i2) (by decide) rfl (fun ls hl => ?_)
                refine lv_goto (tgt := 19) hx hb dX9_judgeHead_93 (by decide) ?_
                have hO : OKP G h0 a (upd F 2 (nI sz)) R Z B J K3 w := hO.to rfl
                exact ih_2 (i2 + 1) K3 _ _ _ _ (by omega) (by omega) hlg3 hP hD hS hO (lv_sub hl [0, 3, 4] rfl)
              · have n69 : ¬ (i2 ≤ i3) := fun h9 => c67 ((nI_leI (a := i2) (b := i3) (by omega) (by omega)).mpr h9)
                refine lv_aload_n hx hb dX9_judgeHead_51 rfl (lv_at hl 4 rfl) ?_
                refine p_get (v := .ref (a 1)) (C := RX9) (Tc := TX9) (N := 5) (ci := 6) hx hb hq pin_wsX90 hown hE hP hO (by rw [((LgK.T hlg3 pq).trans hp1)]; decide) (rep_7 ((LgK.T hlg3 pq).trans hp1)) rfl 0 (by decide) (hq _ pw_784) (fun _ h9 => h9) (congrArg (fun z => some (va_rf z)) ((LgK.C hlg3 18 pq).trans hp2)) dX9_judgeHead_52 ?_
                refine lv_aload_n hx hb dX9_judgeHead_55 rfl (lv_at hl 3 rfl) ?_
                refine p_get (v := .int (K3.2.1 20 d0)) (C := RX2) (Tc := TX2) (N := 13) (ci := 2) hx hb hq pin_wsX20 hown hE hP hO (by rw [((LgK.T hlg3 d0).trans hd0)]; decide) (rep_4 ((LgK.T hlg3 d0).trans hd0)) rfl 5 (by decide) (hq _ pw_1107) (fun _ h9 => h9) rfl dX9_judgeHead_56 ?_
                refine lv_iconst (v := 2) hx hb dX9_judgeHead_59 (by decide) ?_
                refine lv_iload hx hb dX9_judgeHead_60 (lv_at hl 0 rfl) ?_
                refine lv_imul hx hb dX9_judgeHead_62 ?_
                refine lv_topi (fun x70 e71 => ?_)
                obtain rfl : x70 = nI (2 * i3) := e71.trans (nI_mulN (2) (i3))
                refine lv_iadd hx hb dX9_judgeHead_63 ?_
                refine lv_topi (fun x72 e73 => ?_)
                have hO : OKW G h0 a (upd (upd F 2 (nI sz)) 2 (nI sz)) R Z B J K3.1 (fun q99 x99 => x99 = rep G a K3 q99) w := hO.to rfl
                obtain ⟨_, qr77, hqr78⟩ := hO.2.1 2 _ (sg_2 G h0 a _ _ _ _ _)
                refine pc_V0 (G := G) (As := [.int x72]) (rest := []) hx hb hml hown hq hE hX pX0_al hP hD hS hA hl.1 (K_valueAt l G h0 a (upd F 2 (nI sz)) R Z B J K3.1 (fun q99 x99 => x99 = rep G a K3 q99) w x72 sz (by omega) hO) (gV pw_785 pw_57 pw_58 pw_59 pw_39) hV_X10_valueAt qr77 7 hqr78 rfl rfl rfl (Nat.le_of_ble_eq_true rfl) dX9_judgeHead_64 ⟨Nat.le_of_ble_eq_true rfl, Nat.le_of_ble_eq_true rfl⟩ ⟨Nat.le_of_ble_eq_true rfl, Nat.le_of_ble_eq_true rfl⟩ (fun v76 u74 H locs hw75 hP hD hS => ?_)
                obtain ⟨w, r79⟩ := u74
                obtain ⟨hw75, hO⟩ := hw75
                obtain rfl : v76 = some (.int r79) := hw75
                have hO : OKP G h0 a (upd F 2 (nI sz)) R Z B J K3 w := hO.to rfl
                refine W.widen (k := 0) (n := 0) (Nat.le_of_ble_eq_true rfl) (Nat.le_of_ble_eq_true rfl) ?_
                refine W.eq (g2 := F0 m 67 ls [.int r79]) rfl ?_
                refine lv_aload_n hx hb dX9_judgeHead_67 rfl (lv_at hl 4 rfl) ?_
                refine p_get (v := .ref (a 1)) (C := RX9) (Tc := TX9) (N := 5) (ci := 6) hx hb hq pin_wsX90 hown hE hP hO (by rw [((LgK.T hlg3 pq).trans hp1)]; decide) (rep_7 ((LgK.T hlg3 pq).trans hp1)) rfl 0 (by decide) (hq _ pw_784) (fun _ h9 => h9) (congrArg (fun z => some (va_rf z)) ((LgK.C hlg3 18 pq).trans hp2)) dX9_judgeHead_68 ?_
                refine lv_iload_n hx hb dX9_judgeHead_71 rfl (lv_at hl 1 rfl) ?_
                have hO : OKW G h0 a (upd (upd F 2 (nI sz)) 2 (nI sz)) R Z B J K3.1 (fun q99 x99 => x99 = rep G a K3 q99) w := hO.to rfl
                obtain ⟨_, qr83, hqr84⟩ := hO.2.1 2 _ (sg_2 G h0 a _ _ _ _ _)
                refine pc_V0 (G := G) (As := [.int tk3]) (rest := [.int r79]) hx hb hml hown hq hE hX pX0_al hP hD hS hA hl.1 (K_valueAt l G h0 a (upd F 2 (nI sz)) R Z B J K3.1 (fun q99 x99 => x99 = rep G a K3 q99) w tk3 sz (by omega) hO) (gV pw_785 pw_57 pw_58 pw_59 pw_39) hV_X10_valueAt qr83 7 hqr84 rfl rfl rfl (Nat.le_of_ble_eq_true rfl) dX9_judgeHead_72 ⟨Nat.le_of_ble_eq_true rfl, Nat.le_of_ble_eq_true rfl⟩ ⟨Nat.le_of_ble_eq_true rfl, Nat.le_of_ble_eq_true rfl⟩ (fun v82 u80 H locs hw81 hP hD hS => ?_)
                obtain ⟨w, r85⟩ := u80
                obtain ⟨hw81, hO⟩ := hw81
                obtain rfl : v82 = some (.int r85) := hw81
                have hO : OKP G h0 a (upd F 2 (nI sz)) R Z B J K3 w := hO.to rfl
                refine W.widen (k := 0) (n := 0) (Nat.le_of_ble_eq_true rfl) (Nat.le_of_ble_eq_true rfl) ?_
                refine W.eq (g2 := F0 m 75 ls [.int r85, .int r79]) rfl ?_
                refine lv_icmp_ne (tgt := 84) hx hb dX9_judgeHead_75 (by decide) (fun c86 => ?_) (fun c86 => ?_)
                · refine lv_iinc (v := (nI (i3 + 1))) (lv' := [(4, .int (nI (i3 + 1))), (3, .int tk3), (2, .int (nI i2)), (1, .ref d0), (0, .ref pq)]) hx hb dX9_judgeHead_84 hl (k := 0) rfl (nI_1 i3) (by decide) rfl (fun ls hl => ?_)
                  refine lv_goto (tgt := 45) hx hb dX9_judgeHead_87 (by decide) ?_
                  have hO : OKP G h0 a (upd F 2 (nI sz)) R Z B J K3 w := hO.to rfl
                  exact ih_3 (i3 + 1) K3 tk3 _ _ _ _ (by omega) (by omega) hlg3 hP hD hS hO (lv_sub hl [0, 1, 2, 3, 4] rfl)
                · refine lv_aload_n hx hb dX9_judgeHead_78 rfl (lv_at hl 4 rfl) ?_
                  refine lv_iconst (v := 5) hx hb dX9_judgeHead_79 (by decide) ?_
                  refine lv_iload_n hx hb dX9_judgeHead_80 rfl (lv_at hl 1 rfl) ?_
                  have hO : OKP G h0 a (upd (upd F 2 (nI sz)) 2 (nI sz)) R Z B J K3 w := hO.to rfl
                  obtain ⟨qr90, hqr91⟩ := p_recv hO (by rw [((LgK.T hlg3 pq).trans hp1)]; decide) (rep_7 ((LgK.T hlg3 pq).trans hp1))
                  refine pc_V0 (G := G) (As := [.int 5, .int tk3]) (rest := []) hx hb hml hown hq hE hX pX0_al hP hD hS hA hl.1 (G_report l G h0 a (upd F 2 (nI sz)) R Z B J K3 w pq dr ml nd nm cp it s9 5 tk3 sz g (by omega) (LgK.wp hlg3 hwp) (LgK.ps hlg3 hps) hO) (gV pw_1096 pw_1097 pw_1098 pw_106 pw_1084) hV_X9_report qr90 6 hqr91 rfl rfl rfl (Nat.le_of_ble_eq_true rfl) dX9_judgeHead_81 ⟨Nat.le_of_ble_eq_true rfl, Nat.le_of_ble_eq_true rfl⟩ ⟨Nat.le_of_ble_eq_true rfl, Nat.le_of_ble_eq_true rfl⟩ (fun v89 u87 H locs hw88 hP hD hS => ?_)
                  obtain ⟨w, K92⟩ := u87
                  obtain ⟨hw88, h93, h94, hO⟩ := hw88
                  have h93 : LgK K3 K92 pq := h93
                  have h94 : RpQ 5 K92 pq := h94
                  obtain rfl : v89 = none := hw88
                  have hO : OKP G h0 a (upd F 2 (nI sz)) R Z B J K92 w := hO.to rfl
                  refine W.widen (k := 0) (n := 0) (Nat.le_of_ble_eq_true rfl) (Nat.le_of_ble_eq_true rfl) ?_
                  refine W.eq (g2 := F0 m 84 ls []) rfl ?_
                  have hlg95 : LgK K K92 pq := LgK.trans hlg3 h93
                  refine lv_iinc (v := (nI (i3 + 1))) (lv' := [(4, .int (nI (i3 + 1))), (3, .int tk3), (2, .int (nI i2)), (1, .ref d0), (0, .ref pq)]) hx hb dX9_judgeHead_84 hl (k := 0) rfl (nI_1 i3) (by decide) rfl (fun ls hl => ?_)
                  refine lv_goto (tgt := 45) hx hb dX9_judgeHead_87 (by decide) ?_
                  have hO : OKP G h0 a (upd F 2 (nI sz)) R Z B J K92 w := hO.to rfl
                  exact ih_3 (i3 + 1) K92 tk3 _ _ _ _ (by omega) (by omega) hlg95 hP hD hS hO (lv_sub hl [0, 1, 2, 3, 4] rfl)
          have hO : OKP G h0 a (upd F 2 (nI sz)) R Z B J K64 w := hO.to rfl
          exact loop_3 (i2 + 1) 0 K64 x57 _ _ _ _ (by omega) (by omega) hlg66 hP hD hS hO (lv_sub hl [0, 1, 2, 3, 4] rfl)
    have hO : OKP G h0 a (upd F 2 (nI sz)) R Z B J K50 w := hO.to rfl
    exact loop_2 (b9 + 1) 0 K50 _ _ _ _ (by omega) (by omega) hlg52 hP hD hS hO (lv_sub hl [0, 2, 1] rfl)
theorem dX9_firstRound_0 : decode cX9_firstRound 0 = .ok (.bipush 7, 2) := by decide +kernel
theorem dX9_firstRound_2 : decode cX9_firstRound 2 = .ok (.istore_n 1, 1) := by decide +kernel
theorem dX9_firstRound_3 : decode cX9_firstRound 3 = .ok (.iload_n 1, 1) := by decide +kernel
theorem dX9_firstRound_4 : decode cX9_firstRound 4 = .ok (.aload_n 0, 1) := by decide +kernel
theorem dX9_firstRound_5 : decode cX9_firstRound 5 = .ok (.getfield 33, 3) := by decide +kernel
theorem dX9_firstRound_8 : decode cX9_firstRound 8 = .ok (.if_icmp .ge 47, 3) := by decide +kernel
theorem dX9_firstRound_55 : decode cX9_firstRound 55 = .ok (.iconst 0, 1) := by decide +kernel
theorem dX9_firstRound_56 : decode cX9_firstRound 56 = .ok (.istore_n 1, 1) := by decide +kernel
theorem dX9_firstRound_57 : decode cX9_firstRound 57 = .ok (.iload_n 1, 1) := by decide +kernel
theorem dX9_firstRound_58 : decode cX9_firstRound 58 = .ok (.aload_n 0, 1) := by decide +kernel
theorem dX9_firstRound_59 : decode cX9_firstRound 59 = .ok (.getfield 9, 3) := by decide +kernel
theorem dX9_firstRound_62 : decode cX9_firstRound 62 = .ok (.getfield 126, 3) := by decide +kernel
theorem dX9_firstRound_65 : decode cX9_firstRound 65 = .ok (.if_icmp .ge 37, 3) := by decide +kernel
theorem dX9_firstRound_102 : decode cX9_firstRound 102 = .ok (.return_, 1) := by decide +kernel
theorem dX9_firstRound_68 : decode cX9_firstRound 68 = .ok (.aload_n 0, 1) := by decide +kernel
theorem dX9_firstRound_69 : decode cX9_firstRound 69 = .ok (.getfield 9, 3) := by decide +kernel
theorem dX9_firstRound_72 : decode cX9_firstRound 72 = .ok (.iload_n 1, 1) := by decide +kernel
theorem dX9_firstRound_73 : decode cX9_firstRound 73 = .ok (.invokevirtual 127, 3) := by decide +kernel
theorem dX9_firstRound_76 : decode cX9_firstRound 76 = .ok (.istore_n 2, 1) := by decide +kernel
theorem dX9_firstRound_77 : decode cX9_firstRound 77 = .ok (.iload_n 2, 1) := by decide +kernel
theorem dX9_firstRound_78 : decode cX9_firstRound 78 = .ok (.ifCond .eq 18, 3) := by decide +kernel
theorem dX9_firstRound_96 : decode cX9_firstRound 96 = .ok (.iinc 1 1, 3) := by decide +kernel
theorem dX9_firstRound_99 : decode cX9_firstRound 99 = .ok (.goto (-42), 3) := by decide +kernel
theorem dX9_firstRound_81 : decode cX9_firstRound 81 = .ok (.aload_n 0, 1) := by decide +kernel
theorem dX9_firstRound_82 : decode cX9_firstRound 82 = .ok (.iload_n 1, 1) := by decide +kernel
theorem dX9_firstRound_83 : decode cX9_firstRound 83 = .ok (.iload_n 2, 1) := by decide +kernel
theorem dX9_firstRound_84 : decode cX9_firstRound 84 = .ok (.iconst 1, 1) := by decide +kernel
theorem dX9_firstRound_85 : decode cX9_firstRound 85 = .ok (.if_icmp .ne 7, 3) := by decide +kernel
theorem dX9_firstRound_92 : decode cX9_firstRound 92 = .ok (.iconst 0, 1) := by decide +kernel
theorem dX9_firstRound_93 : decode cX9_firstRound 93 = .ok (.invokevirtual 130, 3) := by decide +kernel
theorem dX9_firstRound_88 : decode cX9_firstRound 88 = .ok (.iconst 1, 1) := by decide +kernel
theorem dX9_firstRound_89 : decode cX9_firstRound 89 = .ok (.goto 4, 3) := by decide +kernel
theorem dX9_firstRound_11 : decode cX9_firstRound 11 = .ok (.aload_n 0, 1) := by decide +kernel
theorem dX9_firstRound_12 : decode cX9_firstRound 12 = .ok (.getfield 17, 3) := by decide +kernel
theorem dX9_firstRound_15 : decode cX9_firstRound 15 = .ok (.iload_n 1, 1) := by decide +kernel
theorem dX9_firstRound_16 : decode cX9_firstRound 16 = .ok (.aaload, 1) := by decide +kernel
theorem dX9_firstRound_17 : decode cX9_firstRound 17 = .ok (.astore_n 2, 1) := by decide +kernel
theorem dX9_firstRound_18 : decode cX9_firstRound 18 = .ok (.aload_n 0, 1) := by decide +kernel
theorem dX9_firstRound_19 : decode cX9_firstRound 19 = .ok (.aload_n 2, 1) := by decide +kernel
theorem dX9_firstRound_20 : decode cX9_firstRound 20 = .ok (.getfield 54, 3) := by decide +kernel
theorem dX9_firstRound_23 : decode cX9_firstRound 23 = .ok (.invokevirtual 116, 3) := by decide +kernel
theorem dX9_firstRound_26 : decode cX9_firstRound 26 = .ok (.iload_n 1, 1) := by decide +kernel
theorem dX9_firstRound_27 : decode cX9_firstRound 27 = .ok (.if_icmp .ge 12, 3) := by decide +kernel
theorem dX9_firstRound_39 : decode cX9_firstRound 39 = .ok (.aload_n 0, 1) := by decide +kernel
theorem dX9_firstRound_40 : decode cX9_firstRound 40 = .ok (.aload_n 2, 1) := by decide +kernel
theorem dX9_firstRound_41 : decode cX9_firstRound 41 = .ok (.invokevirtual 119, 3) := by decide +kernel
theorem dX9_firstRound_44 : decode cX9_firstRound 44 = .ok (.aload_n 0, 1) := by decide +kernel
theorem dX9_firstRound_45 : decode cX9_firstRound 45 = .ok (.aload_n 2, 1) := by decide +kernel
theorem dX9_firstRound_46 : decode cX9_firstRound 46 = .ok (.invokevirtual 123, 3) := by decide +kernel
theorem dX9_firstRound_49 : decode cX9_firstRound 49 = .ok (.iinc 1 1, 3) := by decide +kernel
theorem dX9_firstRound_52 : decode cX9_firstRound 52 = .ok (.goto (-49), 3) := by decide +kernel
theorem dX9_firstRound_30 : decode cX9_firstRound 30 = .ok (.aload_n 0, 1) := by decide +kernel
theorem dX9_firstRound_31 : decode cX9_firstRound 31 = .ok (.iconst 3, 1) := by decide +kernel
theorem dX9_firstRound_32 : decode cX9_firstRound 32 = .ok (.aload_n 2, 1) := by decide +kernel
theorem dX9_firstRound_33 : decode cX9_firstRound 33 = .ok (.getfield 84, 3) := by decide +kernel
theorem dX9_firstRound_36 : decode cX9_firstRound 36 = .ok (.invokevirtual 87, 3) := by decide +kernel
theorem hV_X10_roleAt : yX10_roleAt.cls = RX10 ∧ yX10_roleAt.cls ≠ "java/lang/invoke/MethodHandle" ∧ yX10_roleAt.cls ≠ "java/lang/invoke/VarHandle" ∧ (parseMethodDescriptor yX10_roleAt.desc).map (fun d => d.parameters.length) = some 1 := by decide +kernel
theorem hV_X9_judgeTypeName : yX9_judgeTypeName.cls = RX9 ∧ yX9_judgeTypeName.cls ≠ "java/lang/invoke/MethodHandle" ∧ yX9_judgeTypeName.cls ≠ "java/lang/invoke/VarHandle" ∧ (parseMethodDescriptor yX9_judgeTypeName.desc).map (fun d => d.parameters.length) = some 2 := by decide +kernel
theorem hV_X9_judgeMembers : yX9_judgeMembers.cls = RX9 ∧ yX9_judgeMembers.cls ≠ "java/lang/invoke/MethodHandle" ∧ yX9_judgeMembers.cls ≠ "java/lang/invoke/VarHandle" ∧ (parseMethodDescriptor yX9_judgeMembers.desc).map (fun d => d.parameters.length) = some 1 := by decide +kernel
theorem hV_X9_judgeHead : yX9_judgeHead.cls = RX9 ∧ yX9_judgeHead.cls ≠ "java/lang/invoke/MethodHandle" ∧ yX9_judgeHead.cls ≠ "java/lang/invoke/VarHandle" ∧ (parseMethodDescriptor yX9_judgeHead.desc).map (fun d => d.parameters.length) = some 1 := by decide +kernel
set_option maxHeartbeats 16000000 in
set_option maxRecDepth 100000 in
theorem G_firstRound (l : Launch) (G : pT) (h0 : Nat) (a : Nat → Nat) (F : Nat → Int32) (R : Nat → Value) (Z : Int64) (B : Nat → Nat → Int32) (J : Nat → Nat → Int64) (K : PK) (w : va_W) (pq : Nat) (dr : Nat) (ml : Nat) (nd : Nat) (nm : Nat) (cp : Nat) (it : Nat → Nat) (s9 : Nat) (sz : Nat) (g : Nat → Nat → Nat) (hsz : sz ≤ 5000) (hwp : WPr G K g) (hps : PgT G K g (a 1) pq dr ml nd nm cp it s9) (hO : OKP G h0 a (upd F 2 (nI sz)) R Z B J K w) : PM l G pX0 yX9_firstRound cX9_firstRound 3 none ({ frames := 7, cells := 0, slots := 0, locals := 169 }) [.ref pq] w (fun (v : Option Value) (u : va_W × (PK)) => v = none ∧ (LgK K u.2 pq) ∧ (OKP G h0 a (upd F 2 (nI sz)) R Z B J u.2 u.1)) (fun u => u.1) := by
  intro sz
  refine Met.ofW (cc := cX9_firstRound) (maxL := 3) (ret := none) (by decide) rfl ?_
  intro p e s m args below meth c s₁ B9 hml hv
  obtain ⟨rfl, hsz, hP, hD0, hE, hX⟩ := hv
  have hx := B9.exec
  have hb := B9.bytes
  have hr := B9.returns
  have hts := atoms_spec (ws := Cond.code yX9_firstRound cX9_firstRound 3 none :: pw) B9.pre
  have hq : ∀ w ∈ pw, w.before _ s = true := fun w h => hts w (List.mem_cons_of_mem _ h)
  have hown : s.vm.findClass RX9 = some m.cls := findClass_of_methodNamed B9.named
  have hlocks := B9.notSynchronized
  subst hsz
  have hD := hD0.self (sz := s.heap.size)
  have hA : ∀ q : Nat, s.heap.size ≤ q → va_A w s.heap.size q := fun q h => Or.inr h
  generalize va_A w s.heap.size = A at hD hE hA ⊢
  have hS : va_S A s.heap s.heap [] := va_S.rf
  have hl := lv_entry ([.ref pq]) (n := 3) (Nat.le_of_ble_eq_true rfl)
  rw [lg_entry_eq]
  generalize (lg_sl ([.ref pq]) ++ List.replicate (3 - (lg_sl ([.ref pq])).length) Slot.unset).toArray = ls at hl ⊢
  have hl : lv_has ls 3 [(0, .ref pq)] := hl
  have hp1 := hps.1.1
  have hp2 := hps.1.2.1
  have hp3 := hps.1.2.2.1
  have hp4 := hps.1.2.2.2.1
  have hp5 := hps.1.2.2.2.2.1
  have hp6 := hps.1.2.2.2.2.2.1
  have hp8 := hps.1.2.2.2.2.2.2.2.1
  have hp9 := hps.1.2.2.2.2.2.2.2.2
  refine lv_bipush (v := 7) hx hb dX9_firstRound_0 (by decide) ?_
  refine lv_istore_n (lv' := [(1, .int 7), (0, .ref pq)]) hx hb dX9_firstRound_2 rfl hl (by decide) rfl (fun ls hl => ?_)
  have loop_2 : ∀ (n_2 : Nat) (i2 : Nat) (K2 : PK) (H : Heap) (locs : List Loc) (ls : Array Slot) (w : va_W), i2 ≤ nd → nd + 1 ≤ i2 + n_2 → (LgK K K2 pq) → va_P G.1 pCl w H → va_D A w → va_S A s.heap H locs → OKP G h0 a (upd F 2 (nI sz)) R Z B J K2 w → lv_has ls 3 [(1, .int (nI i2)), (0, .ref pq)] → W p l e (headSpec (Cond.code yX9_firstRound cX9_firstRound 3 none :: pw) ({ frames := 7, cells := 0, slots := 0, locals := 169 } : Room)).room s m ([.ref pq] : List Value).toArray below meth c H locs 0 0 (MQ below (pQ G A (fun (v : Option Value) (u : va_W × (PK)) => v = none ∧ (LgK K u.2 pq) ∧ (OKP G h0 a (upd F 2 (nI sz)) R Z B J u.2 u.1)) (fun u => u.1)) ([.ref pq] : List Value).toArray s ({ frames := 7, cells := 0, slots := 0, locals := 169 } : Room).cells ({ frames := 7, cells := 0, slots := 0, locals := 169 } : Room).slots A) (F0 m 3 ls []) := by
    intro n_2
    induction n_2 with
    | zero => intro i2 K2 H locs ls w hk_2 hn_2; omega
    | succ n_2 ih_2 =>
      intro i2 K2 H locs ls w hk_2 hn_2 hlg2 hP hD hS hO hl
      refine lv_iload_n hx hb dX9_firstRound_3 rfl (lv_at hl 0 rfl) ?_
      refine lv_aload_n hx hb dX9_firstRound_4 rfl (lv_at hl 1 rfl) ?_
      refine p_get (v := .int (nI nd)) (C := RX9) (Tc := TX9) (N := 5) (ci := 6) hx hb hq pin_wsX90 hown hE hP hO (by rw [((LgK.T hlg2 pq).trans hp1)]; decide) (rep_7 ((LgK.T hlg2 pq).trans hp1)) rfl 2 (by decide) (hq _ pw_14) (fun _ h9 => h9) (congrArg (fun z => some (Value.int z)) ((LgK.I hlg2 24 pq (by decide)).trans hp8)) dX9_firstRound_5 ?_
      refine lv_icmp_ge (tgt := 55) hx hb dX9_firstRound_8 (by decide) (fun c1 => ?_) (fun c1 => ?_)
      · have n2 : nd ≤ i2 := (nI_leI (a := nd) (b := i2) (by omega) (by omega)).mp c1
        refine lv_iconst (v := 0) hx hb dX9_firstRound_55 (by decide) ?_
        refine lv_istore_n (lv' := [(1, .int 0), (0, .ref pq)]) hx hb dX9_firstRound_56 rfl hl (by decide) rfl (fun ls hl => ?_)
        have loop_3 : ∀ (n_3 : Nat) (i3 : Nat) (K3 : PK) (H : Heap) (locs : List Loc) (ls : Array Slot) (w : va_W), i3 ≤ sz → sz + 1 ≤ i3 + n_3 → (LgK K K3 pq) → va_P G.1 pCl w H → va_D A w → va_S A s.heap H locs → OKP G h0 a (upd F 2 (nI sz)) R Z B J K3 w → lv_has ls 3 [(1, .int (nI i3)), (0, .ref pq)] → W p l e (headSpec (Cond.code yX9_firstRound cX9_firstRound 3 none :: pw) ({ frames := 7, cells := 0, slots := 0, locals := 169 } : Room)).room s m ([.ref pq] : List Value).toArray below meth c H locs 0 0 (MQ below (pQ G A (fun (v : Option Value) (u : va_W × (PK)) => v = none ∧ (LgK K u.2 pq) ∧ (OKP G h0 a (upd F 2 (nI sz)) R Z B J u.2 u.1)) (fun u => u.1)) ([.ref pq] : List Value).toArray s ({ frames := 7, cells := 0, slots := 0, locals := 169 } : Room).cells ({ frames := 7, cells := 0, slots := 0, locals := 169 } : Room).slots A) (F0 m 57 ls []) := by
          intro n_3
          induction n_3 with
          | zero => intro i3 K3 H locs ls w hk_3 hn_3; omega
          | succ n_3 ih_3 =>
            intro i3 K3 H locs ls w hk_3 hn_3 hlg3 hP hD hS hO hl
            refine lv_iload_n hx hb dX9_firstRound_57 rfl (lv_at hl 0 rfl) ?_
            refine lv_aload_n hx hb dX9_firstRound_58 rfl (lv_at hl 1 rfl) ?_
            refine p_get (v := .ref (a 1)) (C := RX9) (Tc := TX9) (N := 5) (ci := 6) hx hb hq pin_wsX90 hown hE hP hO (by rw [((LgK.T hlg3 pq).trans hp1)]; decide) (rep_7 ((LgK.T hlg3 pq).trans hp1)) rfl 0 (by decide) (hq _ pw_784) (fun _ h9 => h9) (congrArg (fun z => some (va_rf z)) ((LgK.C hlg3 18 pq).trans hp2)) dX9_firstRound_59 ?_
            refine c_get (v := .int (nI sz)) (C := RX10) (Tc := TX10) (N := 15) (ci := 7) hx hb hq pin_wsX100 hown hE hP hO 2 (sg_2 G h0 a _ _ _ _ _) rfl 8 (by decide) (hq _ pw_1115) (fun _ h9 => h9) rfl dX9_firstRound_62 ?_
            refine lv_icmp_ge (tgt := 102) hx hb dX9_firstRound_65 (by decide) (fun c3 => ?_) (fun c3 => ?_)
            · have n4 : sz ≤ i3 := (nI_leI (a := sz) (b := i3) (by omega) (by omega)).mp c3
              have hz5 : LgK K K3 pq := hlg3
              have hO : OKP G h0 a (upd F 2 (nI sz)) R Z B J K3 w := hO.to rfl
              exact W.vret hx hb hr (fun t99 ht99 hW99 => ⟨⟨_, (w, K3), rfl, ⟨rfl, hz5, hO⟩, by rw [ht99]; exact hP, hD⟩, hS.F ht99⟩) hS.2.2 dX9_firstRound_102
            · have n6 : ¬ (sz ≤ i3) := fun h9 => c3 ((nI_leI (a := sz) (b := i3) (by omega) (by omega)).mpr h9)
              refine lv_aload_n hx hb dX9_firstRound_68 rfl (lv_at hl 1 rfl) ?_
              refine p_get (v := .ref (a 1)) (C := RX9) (Tc := TX9) (N := 5) (ci := 6) hx hb hq pin_wsX90 hown hE hP hO (by rw [((LgK.T hlg3 pq).trans hp1)]; decide) (rep_7 ((LgK.T hlg3 pq).trans hp1)) rfl 0 (by decide) (hq _ pw_784) (fun _ h9 => h9) (congrArg (fun z => some (va_rf z)) ((LgK.C hlg3 18 pq).trans hp2)) dX9_firstRound_69 ?_
              refine lv_iload_n hx hb dX9_firstRound_72 rfl (lv_at hl 0 rfl) ?_
              have hO : OKW G h0 a (upd (upd F 2 (nI sz)) 2 (nI sz)) R Z B J K3.1 (fun q99 x99 => x99 = rep G a K3 q99) w := hO.to rfl
              obtain ⟨_, qr10, hqr11⟩ := hO.2.1 2 _ (sg_2 G h0 a _ _ _ _ _)
              refine pc_V0 (G := G) (As := [.int (nI i3)]) (rest := []) hx hb hml hown hq hE hX pX0_al hP hD hS hA hl.1 (K_roleAt l G h0 a (upd F 2 (nI sz)) R Z B J K3.1 (fun q99 x99 => x99 = rep G a K3 q99) w (nI i3) sz (by omega) hO) (gV pw_1122 pw_1123 pw_1124 pw_59 pw_1112) hV_X10_roleAt qr10 7 hqr11 rfl rfl rfl (Nat.le_of_ble_eq_true rfl) dX9_firstRound_73 ⟨Nat.le_of_ble_eq_true rfl, Nat.le_of_ble_eq_true rfl⟩ ⟨Nat.le_of_ble_eq_true rfl, Nat.le_of_ble_eq_true rfl⟩ (fun v9 u7 H locs hw8 hP hD hS => ?_)
              obtain ⟨w, r12⟩ := u7
              obtain ⟨hw8, hO⟩ := hw8
              obtain rfl : v9 = some (.int r12) := hw8
              have hO : OKP G h0 a (upd F 2 (nI sz)) R Z B J K3 w := hO.to rfl
              refine W.widen (k := 0) (n := 0) (Nat.le_of_ble_eq_true rfl) (Nat.le_of_ble_eq_true rfl) ?_
              refine W.eq (g2 := F0 m 76 ls [.int r12]) rfl ?_
              refine lv_istore_n (lv' := [(2, .int r12), (1, .int (nI i3)), (0, .ref pq)]) hx hb dX9_firstRound_76 rfl hl (by decide) rfl (fun ls hl => ?_)
              refine lv_iload_n hx hb dX9_firstRound_77 rfl (lv_at hl 0 rfl) ?_
              refine lv_if_eq (tgt := 96) hx hb dX9_firstRound_78 (by decide) (fun c13 => ?_) (fun c13 => ?_)
              · refine lv_iinc (v := (nI (i3 + 1))) (lv' := [(1, .int (nI (i3 + 1))), (2, .int r12), (0, .ref pq)]) hx hb dX9_firstRound_96 hl (k := 1) rfl (nI_1 i3) (by decide) rfl (fun ls hl => ?_)
                refine lv_goto (tgt := 57) hx hb dX9_firstRound_99 (by decide) ?_
                have hO : OKP G h0 a (upd F 2 (nI sz)) R Z B J K3 w := hO.to rfl
                exact ih_3 (i3 + 1) K3 _ _ _ _ (by omega) (by omega) hlg3 hP hD hS hO (lv_sub hl [0, 2] rfl)
              · refine lv_aload_n hx hb dX9_firstRound_81 rfl (lv_at hl 2 rfl) ?_
                refine lv_iload_n hx hb dX9_firstRound_82 rfl (lv_at hl 1 rfl) ?_
                refine lv_iload_n hx hb dX9_firstRound_83 rfl (lv_at hl 0 rfl) ?_
                refine lv_iconst (v := 1) hx hb dX9_firstRound_84 (by decide) ?_
                refine lv_icmp_ne (tgt := 92) hx hb dX9_firstRound_85 (by decide) (fun c14 => ?_) (fun c14 => ?_)
                · refine lv_iconst (v := 0) hx hb dX9_firstRound_92 (by decide) ?_
                  have hO : OKP G h0 a (upd (upd F 2 (nI sz)) 2 (nI sz)) R Z B J K3 w := hO.to rfl
                  obtain ⟨qr18, hqr19⟩ := p_recv hO (by rw [((LgK.T hlg3 pq).trans hp1)]; decide) (rep_7 ((LgK.T hlg3 pq).trans hp1))
                  refine pc_V0 (G := G) (As := [.int (nI i3), .int 0]) (rest := []) hx hb hml hown hq hE hX pX0_al hP hD hS hA hl.1 (G_judgeTypeName l G h0 a (upd F 2 (nI sz)) R Z B J K3 w pq dr ml nd nm cp it s9 (nI i3) 0 sz g (by omega) (LgK.wp hlg3 hwp) (LgK.ps hlg3 hps) hO) (gV pw_1125 pw_1126 pw_1127 pw_106 pw_1113) hV_X9_judgeTypeName qr18 6 hqr19 rfl rfl rfl (Nat.le_of_ble_eq_true rfl) dX9_firstRound_93 ⟨Nat.le_of_ble_eq_true rfl, Nat.le_of_ble_eq_true rfl⟩ ⟨Nat.le_of_ble_eq_true rfl, Nat.le_of_ble_eq_true rfl⟩ (fun v17 u15 H locs hw16 hP hD hS => ?_)
                  obtain ⟨w, K20⟩ := u15
                  obtain ⟨hw16, h21, hO⟩ := hw16
                  have h21 : LgK K3 K20 pq := h21
                  obtain rfl : v17 = none := hw16
                  have hO : OKP G h0 a (upd F 2 (nI sz)) R Z B J K20 w := hO.to rfl
                  refine W.widen (k := 0) (n := 0) (Nat.le_of_ble_eq_true rfl) (Nat.le_of_ble_eq_true rfl) ?_
                  refine W.eq (g2 := F0 m 96 ls []) rfl ?_
                  have hlg22 : LgK K K20 pq := LgK.trans hlg3 h21
                  refine lv_iinc (v := (nI (i3 + 1))) (lv' := [(1, .int (nI (i3 + 1))), (2, .int r12), (0, .ref pq)]) hx hb dX9_firstRound_96 hl (k := 1) rfl (nI_1 i3) (by decide) rfl (fun ls hl => ?_)
                  refine lv_goto (tgt := 57) hx hb dX9_firstRound_99 (by decide) ?_
                  have hO : OKP G h0 a (upd F 2 (nI sz)) R Z B J K20 w := hO.to rfl
                  exact ih_3 (i3 + 1) K20 _ _ _ _ (by omega) (by omega) hlg22 hP hD hS hO (lv_sub hl [0, 2] rfl)
                · refine lv_iconst (v := 1) hx hb dX9_firstRound_88 (by decide) ?_
                  refine lv_goto (tgt := 93) hx hb dX9_firstRound_89 (by decide) ?_
                  have hO : OKP G h0 a (upd (upd F 2 (nI sz)) 2 (nI sz)) R Z B J K3 w := hO.to rfl
                  obtain ⟨qr26, hqr27⟩ := p_recv hO (by rw [((LgK.T hlg3 pq).trans hp1)]; decide) (rep_7 ((LgK.T hlg3 pq).trans hp1))
                  refine pc_V0 (G := G) (As := [.int (nI i3), .int 1]) (rest := []) hx hb hml hown hq hE hX pX0_al hP hD hS hA hl.1 (G_judgeTypeName l G h0 a (upd F 2 (nI sz)) R Z B J K3 w pq dr ml nd nm cp it s9 (nI i3) 1 sz g (by omega) (LgK.wp hlg3 hwp) (LgK.ps hlg3 hps) hO) (gV pw_1125 pw_1126 pw_1127 pw_106 pw_1113) hV_X9_judgeTypeName qr26 6 hqr27 rfl rfl rfl (Nat.le_of_ble_eq_true rfl) dX9_firstRound_93 ⟨Nat.le_of_ble_eq_true rfl, Nat.le_of_ble_eq_true rfl⟩ ⟨Nat.le_of_ble_eq_true rfl, Nat.le_of_ble_eq_true rfl⟩ (fun v25 u23 H locs hw24 hP hD hS => ?_)
                  obtain ⟨w, K28⟩ := u23
                  obtain ⟨hw24, h29, hO⟩ := hw24
                  have h29 : LgK K3 K28 pq := h29
                  obtain rfl : v25 = none := hw24
                  have hO : OKP G h0 a (upd F 2 (nI sz)) R Z B J K28 w := hO.to rfl
                  refine W.widen (k := 0) (n := 0) (Nat.le_of_ble_eq_true rfl) (Nat.le_of_ble_eq_true rfl) ?_
                  refine W.eq (g2 := F0 m 96 ls []) rfl ?_
                  have hlg30 : LgK K K28 pq := LgK.trans hlg3 h29
                  refine lv_iinc (v := (nI (i3 + 1))) (lv' := [(1, .int (nI (i3 + 1))), (2, .int r12), (0, .ref pq)]) hx hb dX9_firstRound_96 hl (k := 1) rfl (nI_1 i3) (by decide) rfl (fun ls hl => ?_)
                  refine lv_goto (tgt := 57) hx hb dX9_firstRound_99 (by decide) ?_
                  have hO : OKP G h0 a (upd F 2 (nI sz)) R Z B J K28 w := hO.to rfl
                  exact ih_3 (i3 + 1) K28 _ _ _ _ (by omega) (by omega) hlg30 hP hD hS hO (lv_sub hl [0, 2] rfl)
        have hO : OKP G h0 a (upd F 2 (nI sz)) R Z B J K2 w := hO.to rfl
        exact loop_3 (sz + 1) 0 K2 _ _ _ _ (by omega) (by omega) hlg2 hP hD hS hO (lv_sub hl [0, 1] rfl)
      · have n31 : ¬ (nd ≤ i2) := fun h9 => c1 ((nI_leI (a := nd) (b := i2) (by omega) (by omega)).mpr h9)
        refine lv_aload_n hx hb dX9_firstRound_11 rfl (lv_at hl 1 rfl) ?_
        refine p_get (v := .ref dr) (C := RX9) (Tc := TX9) (N := 5) (ci := 6) hx hb hq pin_wsX90 hown hE hP hO (by rw [((LgK.T hlg2 pq).trans hp1)]; decide) (rep_7 ((LgK.T hlg2 pq).trans hp1)) rfl 1 (by decide) (hq _ pw_15) (fun _ h9 => h9) (congrArg (fun z => some (va_rf z)) ((LgK.C hlg2 14 pq).trans hp3)) dX9_firstRound_12 ?_
        refine lv_iload_n hx hb dX9_firstRound_15 rfl (lv_at hl 0 rfl) ?_
        refine p_ald8 hx hb hE hP hO ((LgK.T hlg2 dr).trans hp4) (vp_in_nI (by omega) (by omega)) dX9_firstRound_16 ?_
        rw [nI_clamp (show i2 < 2 ^ 31 by omega)]
        obtain ⟨d32, hd33, hd34, hd35, hd36⟩ := hps.2.1 i2 (by omega)
        have hd37 : K2.2.2.2.2.1 dr i2 = some d32 := by rw [LgK.E hlg2]; exact hd33
        rw [hd37]
        refine W.eq (g2 := F0 m 17 ls [.ref d32]) rfl ?_
        refine lv_astore_n (lv' := [(2, .ref d32), (1, .int (nI i2)), (0, .ref pq)]) hx hb dX9_firstRound_17 rfl hl (by decide) rfl (fun ls hl => ?_)
        refine lv_aload_n hx hb dX9_firstRound_18 rfl (lv_at hl 2 rfl) ?_
        refine lv_aload_n hx hb dX9_firstRound_19 rfl (lv_at hl 0 rfl) ?_
        refine p_get (v := .int (K2.2.1 16 d32)) (C := RX2) (Tc := TX2) (N := 13) (ci := 2) hx hb hq pin_wsX20 hown hE hP hO (by rw [((LgK.T hlg2 d32).trans hd34)]; decide) (rep_4 ((LgK.T hlg2 d32).trans hd34)) rfl 1 (by decide) (hq _ pw_510) (fun _ h9 => h9) rfl dX9_firstRound_20 ?_
        have hO : OKP G h0 a (upd F 2 (nI sz)) R Z B J K2 w := hO.to rfl
        obtain ⟨qr41, hqr42⟩ := p_recv hO (by rw [((LgK.T hlg2 pq).trans hp1)]; decide) (rep_7 ((LgK.T hlg2 pq).trans hp1))
        refine pc_V0 (G := G) (As := [.int (K2.2.1 16 d32)]) (rest := []) hx hb hml hown hq hE hX pX0_al hP hD hS hA hl.1 (G_find l G h0 a (upd F 2 (nI sz)) R Z B J K2 w pq dr ml nd (K2.2.1 16 d32) g (LgK.ps hlg2 hps).1 (LgK.ps hlg2 hps).2.1 hO) (gV pw_1102 pw_585 pw_586 pw_106 pw_509) hV_X9_find qr41 6 hqr42 rfl rfl rfl (Nat.le_of_ble_eq_true rfl) dX9_firstRound_23 ⟨Nat.le_of_ble_eq_true rfl, Nat.le_of_ble_eq_true rfl⟩ ⟨Nat.le_of_ble_eq_true rfl, Nat.le_of_ble_eq_true rfl⟩ (fun v40 u38 H locs hw39 hP hD hS => ?_)
        obtain ⟨w, r43⟩ := u38
        obtain ⟨hw39, h44, hO⟩ := hw39
        have h44 : FnQ r43 nd := h44
        obtain rfl : v40 = some (.int r43) := hw39
        have hO : OKP G h0 a (upd F 2 (nI sz)) R Z B J K2 w := hO.to rfl
        refine W.widen (k := 0) (n := 0) (Nat.le_of_ble_eq_true rfl) (Nat.le_of_ble_eq_true rfl) ?_
        refine W.eq (g2 := F0 m 26 ls [.int r43]) rfl ?_
        refine lv_iload_n hx hb dX9_firstRound_26 rfl (lv_at hl 1 rfl) ?_
        refine lv_icmp_ge (tgt := 39) hx hb dX9_firstRound_27 (by decide) (fun c45 => ?_) (fun c45 => ?_)
        · refine lv_aload_n hx hb dX9_firstRound_39 rfl (lv_at hl 2 rfl) ?_
          refine lv_aload_n hx hb dX9_firstRound_40 rfl (lv_at hl 0 rfl) ?_
          have hO : OKP G h0 a (upd (upd F 2 (nI sz)) 2 (nI sz)) R Z B J K2 w := hO.to rfl
          obtain ⟨qr49, hqr50⟩ := p_recv hO (by rw [((LgK.T hlg2 pq).trans hp1)]; decide) (rep_7 ((LgK.T hlg2 pq).trans hp1))
          refine pc_V0 (G := G) (As := [.ref d32]) (rest := []) hx hb hml hown hq hE hX pX0_al hP hD hS hA hl.1 (G_judgeMembers l G h0 a (upd F 2 (nI sz)) R Z B J K2 w pq dr ml nd nm cp it s9 d32 sz g (by omega) (LgK.wp hlg2 hwp) (LgK.ps hlg2 hps) ((LgK.T hlg2 d32).trans hd34) hO) (gV pw_1116 pw_1117 pw_1118 pw_106 pw_1100) hV_X9_judgeMembers qr49 6 hqr50 rfl rfl rfl (Nat.le_of_ble_eq_true rfl) dX9_firstRound_41 ⟨Nat.le_of_ble_eq_true rfl, Nat.le_of_ble_eq_true rfl⟩ ⟨Nat.le_of_ble_eq_true rfl, Nat.le_of_ble_eq_true rfl⟩ (fun v48 u46 H locs hw47 hP hD hS => ?_)
          obtain ⟨w, K51⟩ := u46
          obtain ⟨hw47, h52, hO⟩ := hw47
          have h52 : LgK K2 K51 pq := h52
          obtain rfl : v48 = none := hw47
          have hO : OKP G h0 a (upd F 2 (nI sz)) R Z B J K51 w := hO.to rfl
          refine W.widen (k := 0) (n := 0) (Nat.le_of_ble_eq_true rfl) (Nat.le_of_ble_eq_true rfl) ?_
          refine W.eq (g2 := F0 m 44 ls []) rfl ?_
          have hlg53 : LgK K K51 pq := LgK.trans hlg2 h52
          refine lv_aload_n hx hb dX9_firstRound_44 rfl (lv_at hl 2 rfl) ?_
          refine lv_aload_n hx hb dX9_firstRound_45 rfl (lv_at hl 0 rfl) ?_
          have hO : OKP G h0 a (upd (upd F 2 (nI sz)) 2 (nI sz)) R Z B J K51 w := hO.to rfl
          obtain ⟨qr57, hqr58⟩ := p_recv hO (by rw [((LgK.T hlg53 pq).trans hp1)]; decide) (rep_7 ((LgK.T hlg53 pq).trans hp1))
          refine pc_V0 (G := G) (As := [.ref d32]) (rest := []) hx hb hml hown hq hE hX pX0_al hP hD hS hA hl.1 (G_judgeHead l G h0 a (upd F 2 (nI sz)) R Z B J K51 w pq dr ml nd nm cp it s9 d32 sz g (by omega) (LgK.wp hlg53 hwp) (LgK.ps hlg53 hps) ((LgK.T hlg53 d32).trans hd34) hO) (gV pw_1119 pw_1120 pw_1121 pw_106 pw_1111) hV_X9_judgeHead qr57 6 hqr58 rfl rfl rfl (Nat.le_of_ble_eq_true rfl) dX9_firstRound_46 ⟨Nat.le_of_ble_eq_true rfl, Nat.le_of_ble_eq_true rfl⟩ ⟨Nat.le_of_ble_eq_true rfl, Nat.le_of_ble_eq_true rfl⟩ (fun v56 u54 H locs hw55 hP hD hS => ?_)
          obtain ⟨w, K59⟩ := u54
          obtain ⟨hw55, h60, hO⟩ := hw55
          have h60 : LgK K51 K59 pq := h60
          obtain rfl : v56 = none := hw55
          have hO : OKP G h0 a (upd F 2 (nI sz)) R Z B J K59 w := hO.to rfl
          refine W.widen (k := 0) (n := 0) (Nat.le_of_ble_eq_true rfl) (Nat.le_of_ble_eq_true rfl) ?_
          refine W.eq (g2 := F0 m 49 ls []) rfl ?_
          have hlg61 : LgK K K59 pq := LgK.trans hlg53 h60
          refine lv_iinc (v := (nI (i2 + 1))) (lv' := [(1, .int (nI (i2 + 1))), (2, .ref d32), (0, .ref pq)]) hx hb dX9_firstRound_49 hl (k := 1) rfl (nI_1 i2) (by decide) rfl (fun ls hl => ?_)
          refine lv_goto (tgt := 3) hx hb dX9_firstRound_52 (by decide) ?_
          have hO : OKP G h0 a (upd F 2 (nI sz)) R Z B J K59 w := hO.to rfl
          exact ih_2 (i2 + 1) K59 _ _ _ _ (by omega) (by omega) hlg61 hP hD hS hO (lv_sub hl [0, 2] rfl)
        · refine lv_aload_n hx hb dX9_firstRound_30 rfl (lv_at hl 2 rfl) ?_
          refine lv_iconst (v := 3) hx hb dX9_firstRound_31 (by decide) ?_
          refine lv_aload_n hx hb dX9_firstRound_32 rfl (lv_at hl 0 rfl) ?_
          refine p_get (v := .int (K2.2.1 17 d32)) (C := RX2) (Tc := TX2) (N := 13) (ci := 2) hx hb hq pin_wsX20 hown hE hP hO (by rw [((LgK.T hlg2 d32).trans hd34)]; decide) (rep_4 ((LgK.T hlg2 d32).trans hd34)) rfl 2 (by decide) (hq _ pw_1114) (fun _ h9 => h9) rfl dX9_firstRound_33 ?_
          have hO : OKP G h0 a (upd (upd F 2 (nI sz)) 2 (nI sz)) R Z B J K2 w := hO.to rfl
          obtain ⟨qr65, hqr66⟩ := p_recv hO (by rw [((LgK.T hlg2 pq).trans hp1)]; decide) (rep_7 ((LgK.T hlg2 pq).trans hp1))
          refine pc_V0 (G := G) (As := [.int 3, .int (K2.2.1 17 d32)]) (rest := []) hx hb hml hown hq hE hX pX0_al hP hD hS hA hl.1 (G_report l G h0 a (upd F 2 (nI sz)) R Z B J K2 w pq dr ml nd nm cp it s9 3 (K2.2.1 17 d32) sz g (by omega) (LgK.wp hlg2 hwp) (LgK.ps hlg2 hps) hO) (gV pw_1096 pw_1097 pw_1098 pw_106 pw_1084) hV_X9_report qr65 6 hqr66 rfl rfl rfl (Nat.le_of_ble_eq_true rfl) dX9_firstRound_36 ⟨Nat.le_of_ble_eq_true rfl, Nat.le_of_ble_eq_true rfl⟩ ⟨Nat.le_of_ble_eq_true rfl, Nat.le_of_ble_eq_true rfl⟩ (fun v64 u62 H locs hw63 hP hD hS => ?_)
          obtain ⟨w, K67⟩ := u62
          obtain ⟨hw63, h68, h69, hO⟩ := hw63
          have h68 : LgK K2 K67 pq := h68
          have h69 : RpQ 3 K67 pq := h69
          obtain rfl : v64 = none := hw63
          have hO : OKP G h0 a (upd F 2 (nI sz)) R Z B J K67 w := hO.to rfl
          refine W.widen (k := 0) (n := 0) (Nat.le_of_ble_eq_true rfl) (Nat.le_of_ble_eq_true rfl) ?_
          refine W.eq (g2 := F0 m 39 ls []) rfl ?_
          have hlg70 : LgK K K67 pq := LgK.trans hlg2 h68
          refine lv_aload_n hx hb dX9_firstRound_39 rfl (lv_at hl 2 rfl) ?_
          refine lv_aload_n hx hb dX9_firstRound_40 rfl (lv_at hl 0 rfl) ?_
          have hO : OKP G h0 a (upd (upd F 2 (nI sz)) 2 (nI sz)) R Z B J K67 w := hO.to rfl
          obtain ⟨qr74, hqr75⟩ := p_recv hO (by rw [((LgK.T hlg70 pq).trans hp1)]; decide) (rep_7 ((LgK.T hlg70 pq).trans hp1))
          refine pc_V0 (G := G) (As := [.ref d32]) (rest := []) hx hb hml hown hq hE hX pX0_al hP hD hS hA hl.1 (G_judgeMembers l G h0 a (upd F 2 (nI sz)) R Z B J K67 w pq dr ml nd nm cp it s9 d32 sz g (by omega) (LgK.wp hlg70 hwp) (LgK.ps hlg70 hps) ((LgK.T hlg70 d32).trans hd34) hO) (gV pw_1116 pw_1117 pw_1118 pw_106 pw_1100) hV_X9_judgeMembers qr74 6 hqr75 rfl rfl rfl (Nat.le_of_ble_eq_true rfl) dX9_firstRound_41 ⟨Nat.le_of_ble_eq_true rfl, Nat.le_of_ble_eq_true rfl⟩ ⟨Nat.le_of_ble_eq_true rfl, Nat.le_of_ble_eq_true rfl⟩ (fun v73 u71 H locs hw72 hP hD hS => ?_)
          obtain ⟨w, K76⟩ := u71
          obtain ⟨hw72, h77, hO⟩ := hw72
          have h77 : LgK K67 K76 pq := h77
          obtain rfl : v73 = none := hw72
          have hO : OKP G h0 a (upd F 2 (nI sz)) R Z B J K76 w := hO.to rfl
          refine W.widen (k := 0) (n := 0) (Nat.le_of_ble_eq_true rfl) (Nat.le_of_ble_eq_true rfl) ?_
          refine W.eq (g2 := F0 m 44 ls []) rfl ?_
          have hlg78 : LgK K K76 pq := LgK.trans hlg70 h77
          refine lv_aload_n hx hb dX9_firstRound_44 rfl (lv_at hl 2 rfl) ?_
          refine lv_aload_n hx hb dX9_firstRound_45 rfl (lv_at hl 0 rfl) ?_
          have hO : OKP G h0 a (upd (upd F 2 (nI sz)) 2 (nI sz)) R Z B J K76 w := hO.to rfl
          obtain ⟨qr82, hqr83⟩ := p_recv hO (by rw [((LgK.T hlg78 pq).trans hp1)]; decide) (rep_7 ((LgK.T hlg78 pq).trans hp1))
          refine pc_V0 (G := G) (As := [.ref d32]) (rest := []) hx hb hml hown hq hE hX pX0_al hP hD hS hA hl.1 (G_judgeHead l G h0 a (upd F 2 (nI sz)) R Z B J K76 w pq dr ml nd nm cp it s9 d32 sz g (by omega) (LgK.wp hlg78 hwp) (LgK.ps hlg78 hps) ((LgK.T hlg78 d32).trans hd34) hO) (gV pw_1119 pw_1120 pw_1121 pw_106 pw_1111) hV_X9_judgeHead qr82 6 hqr83 rfl rfl rfl (Nat.le_of_ble_eq_true rfl) dX9_firstRound_46 ⟨Nat.le_of_ble_eq_true rfl, Nat.le_of_ble_eq_true rfl⟩ ⟨Nat.le_of_ble_eq_true rfl, Nat.le_of_ble_eq_true rfl⟩ (fun v81 u79 H locs hw80 hP hD hS => ?_)
          obtain ⟨w, K84⟩ := u79
          obtain ⟨hw80, h85, hO⟩ := hw80
          have h85 : LgK K76 K84 pq := h85
          obtain rfl : v81 = none := hw80
          have hO : OKP G h0 a (upd F 2 (nI sz)) R Z B J K84 w := hO.to rfl
          refine W.widen (k := 0) (n := 0) (Nat.le_of_ble_eq_true rfl) (Nat.le_of_ble_eq_true rfl) ?_
          refine W.eq (g2 := F0 m 49 ls []) rfl ?_
          have hlg86 : LgK K K84 pq := LgK.trans hlg78 h85
          refine lv_iinc (v := (nI (i2 + 1))) (lv' := [(1, .int (nI (i2 + 1))), (2, .ref d32), (0, .ref pq)]) hx hb dX9_firstRound_49 hl (k := 1) rfl (nI_1 i2) (by decide) rfl (fun ls hl => ?_)
          refine lv_goto (tgt := 3) hx hb dX9_firstRound_52 (by decide) ?_
          have hO : OKP G h0 a (upd F 2 (nI sz)) R Z B J K84 w := hO.to rfl
          exact ih_2 (i2 + 1) K84 _ _ _ _ (by omega) (by omega) hlg86 hP hD hS hO (lv_sub hl [0, 2] rfl)
  have hO : OKP G h0 a (upd F 2 (nI sz)) R Z B J K w := hO.to rfl
  exact loop_2 (nd + 1) 7 K _ _ _ _ (by omega) (by omega) LgK.rfl hP hD hS hO (lv_sub hl [0, 1] rfl)

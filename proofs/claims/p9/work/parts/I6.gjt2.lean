theorem sw_m0_5 {x : Int32} (h0 : ¬ x = 0) (h1 : ¬ x = 1) (h2 : ¬ x = 2) (h3 : ¬ x = 3) (h4 : ¬ x = 4) (h5 : ¬ x = 5) : x.toInt < 0 ∨ 5 < x.toInt := by
  have a0 : ¬ x.toInt = 0 := tJ_ne (n := 0) (by decide) h0
  have a1 : ¬ x.toInt = 1 := tJ_ne (n := 1) (by decide) h1
  have a2 : ¬ x.toInt = 2 := tJ_ne (n := 2) (by decide) h2
  have a3 : ¬ x.toInt = 3 := tJ_ne (n := 3) (by decide) h3
  have a4 : ¬ x.toInt = 4 := tJ_ne (n := 4) (by decide) h4
  have a5 : ¬ x.toInt = 5 := tJ_ne (n := 5) (by decide) h5
  omega
theorem dX11_declared_0 : decode cX11_declared 0 = .ok (.aload_n 0, 1) := by decide +kernel
theorem dX11_declared_1 : decode cX11_declared 1 = .ok (.getfield 69, 3) := by decide +kernel
theorem dX11_declared_4 : decode cX11_declared 4 = .ok (.ifnonnull 7, 3) := by decide +kernel
theorem dX11_declared_7 : decode cX11_declared 7 = .ok (.aconst_null, 1) := by decide +kernel
theorem dX11_declared_8 : decode cX11_declared 8 = .ok (.goto 11, 3) := by decide +kernel
theorem dX11_declared_19 : decode cX11_declared 19 = .ok (.areturn, 1) := by decide +kernel
set_option maxHeartbeats 2000000 in
set_option maxRecDepth 100000 in
theorem J_declaredN (l : Launch) (G : pT) (h0 : Nat) (a : Nat → Nat) (F : Nat → Int32) (R : Nat → Value) (Z : Int64) (B : Nat → Nat → Int32) (J : Nat → Nat → Int64) (T : Nat → Nat) (Pi : Nat → va_E → Prop) (w : va_W) (x : Int32) (hO : OKW G h0 a F (updR R 0 (.null)) Z B J T Pi w) : PM l G pX0 yX11_declared cX11_declared 2 (some (.object "JinjaTongue$Decl")) ({ frames := 2, cells := 0, slots := 0, locals := 60 }) [.ref h0, .int x] w (fun (v : Option Value) (u : va_W × (Unit)) => v = some (.null) ∧ (OKW G h0 a F (updR R 0 (.null)) Z B J T Pi u.1)) (fun u => u.1) := by
  intro sz
  refine Met.ofW (cc := cX11_declared) (maxL := 2) (ret := (some (.object "JinjaTongue$Decl"))) (by decide) rfl ?_
  intro p e s m args below meth c s₁ B9 hml hv
  obtain ⟨rfl, hsz, hP, hD0, hE, hX⟩ := hv
  have hx := B9.exec
  have hb := B9.bytes
  have hr := B9.returns
  have hts := atoms_spec (ws := Cond.code yX11_declared cX11_declared 2 (some (.object "JinjaTongue$Decl")) :: pw) B9.pre
  have hq : ∀ w ∈ pw, w.before _ s = true := fun w h => hts w (List.mem_cons_of_mem _ h)
  have hown : s.vm.findClass RX11 = some m.cls := findClass_of_methodNamed B9.named
  have hlocks := B9.notSynchronized
  subst hsz
  have hD := hD0.self (sz := s.heap.size)
  have hA : ∀ q : Nat, s.heap.size ≤ q → va_A w s.heap.size q := fun q h => Or.inr h
  generalize va_A w s.heap.size = A at hD hE hA ⊢
  have hS : va_S A s.heap s.heap [] := va_S.rf
  have hl := lv_entry ([.ref h0, .int x]) (n := 2) (Nat.le_of_ble_eq_true rfl)
  rw [lg_entry_eq]
  generalize (lg_sl ([.ref h0, .int x]) ++ List.replicate (2 - (lg_sl ([.ref h0, .int x])).length) Slot.unset).toArray = ls at hl ⊢
  have hl : lv_has ls 2 [(0, .ref h0), (1, .int x)] := hl
  refine lv_aload_n hx hb dX11_declared_0 rfl (lv_at hl 0 rfl) ?_
  refine c_get (v := .null) (C := RX11) (Tc := TX11) (N := 8) (ci := 8) hx hb hq pin_wsX110 hown hE hP hO 0 (sg_0 G h0 a _ _ _ _ _) rfl 7 (by decide) (hq _ pw_1342) (fun _ h9 => h9) rfl dX11_declared_1 ?_
  refine lv_ifnonnullN hx hb dX11_declared_4 ?_
  refine lv_null hx hb dX11_declared_7 ?_
  refine lv_goto (tgt := 19) hx hb dX11_declared_8 (by decide) ?_
  have hO : OKW G h0 a F (updR R 0 (.null)) Z B J T Pi w := hO.to rfl
  exact W.aret (v := .null) hx hb hr (Or.inl ⟨_, rfl⟩) (Or.inl rfl) (fun t99 ht99 hW99 => ⟨⟨_, (w, ()), rfl, ⟨rfl, hO⟩, by rw [ht99]; exact hP, hD⟩, hS.F ht99⟩) hS.2.2 dX11_declared_19
theorem dX11_declared_11 : decode cX11_declared 11 = .ok (.aload_n 0, 1) := by decide +kernel
theorem dX11_declared_12 : decode cX11_declared 12 = .ok (.getfield 69, 3) := by decide +kernel
theorem dX11_declared_15 : decode cX11_declared 15 = .ok (.iload_n 1, 1) := by decide +kernel
theorem dX11_declared_16 : decode cX11_declared 16 = .ok (.invokevirtual 91, 3) := by decide +kernel
set_option maxHeartbeats 20000000 in
set_option maxRecDepth 100000 in
theorem J_declared (l : Launch) (G : pT) (h0 : Nat) (a : Nat → Nat) (F : Nat → Int32) (R : Nat → Value) (Z : Int64) (B : Nat → Nat → Int32) (J : Nat → Nat → Int64) (K : PK) (w : va_W) (x : Int32) (pq : Nat) (dr : Nat) (ml : Nat) (nd : Nat) (nm : Nat) (cp : Nat) (it : Nat → Nat) (s9 : Nat) (g : Nat → Nat → Nat) (rk : Nat → Nat) (hwp : WPr G K g) (hps : PgT G K g (a 1) pq dr ml nd nm cp it s9) (hrk : RkO K rk) (hO : OKP G h0 a F (updR R 0 (.ref pq)) Z B J K w) : PM l G pX0 yX11_declared cX11_declared 2 (some (.object "JinjaTongue$Decl")) ({ frames := 3, cells := 0, slots := 0, locals := 81 }) [.ref h0, .int x] w (fun (v : Option Value) (u : va_W × (Option Nat)) => v = some ((va_rf u.2)) ∧ (DoN K u.2) ∧ (OKP G h0 a F (updR R 0 (.ref pq)) Z B J K u.1)) (fun u => u.1) := by
  intro sz
  refine Met.ofW (cc := cX11_declared) (maxL := 2) (ret := (some (.object "JinjaTongue$Decl"))) (by decide) rfl ?_
  intro p e s m args below meth c s₁ B9 hml hv
  obtain ⟨rfl, hsz, hP, hD0, hE, hX⟩ := hv
  have hx := B9.exec
  have hb := B9.bytes
  have hr := B9.returns
  have hts := atoms_spec (ws := Cond.code yX11_declared cX11_declared 2 (some (.object "JinjaTongue$Decl")) :: pw) B9.pre
  have hq : ∀ w ∈ pw, w.before _ s = true := fun w h => hts w (List.mem_cons_of_mem _ h)
  have hown : s.vm.findClass RX11 = some m.cls := findClass_of_methodNamed B9.named
  have hlocks := B9.notSynchronized
  subst hsz
  have hD := hD0.self (sz := s.heap.size)
  have hA : ∀ q : Nat, s.heap.size ≤ q → va_A w s.heap.size q := fun q h => Or.inr h
  generalize va_A w s.heap.size = A at hD hE hA ⊢
  have hS : va_S A s.heap s.heap [] := va_S.rf
  have hl := lv_entry ([.ref h0, .int x]) (n := 2) (Nat.le_of_ble_eq_true rfl)
  rw [lg_entry_eq]
  generalize (lg_sl ([.ref h0, .int x]) ++ List.replicate (2 - (lg_sl ([.ref h0, .int x])).length) Slot.unset).toArray = ls at hl ⊢
  have hl : lv_has ls 2 [(0, .ref h0), (1, .int x)] := hl
  have hpg := hps.1
  have hp1 := hpg.1
  have hp2 := hpg.2.1
  have hp3 := hpg.2.2.1
  have hp4 := hpg.2.2.2.1
  have hp5 := hpg.2.2.2.2.1
  have hp6 := hpg.2.2.2.2.2.1
  have hp8 := hpg.2.2.2.2.2.2.2.1
  have hp9 := hpg.2.2.2.2.2.2.2.2
  refine lv_aload_n hx hb dX11_declared_0 rfl (lv_at hl 0 rfl) ?_
  refine c_get (v := .ref pq) (C := RX11) (Tc := TX11) (N := 8) (ci := 8) hx hb hq pin_wsX110 hown hE hP hO 0 (sg_0 G h0 a _ _ _ _ _) rfl 7 (by decide) (hq _ pw_1342) (fun _ h9 => h9) rfl dX11_declared_1 ?_
  refine lv_ifnonnull (tgt := 11) hx hb dX11_declared_4 (by decide) ?_
  refine lv_aload_n hx hb dX11_declared_11 rfl (lv_at hl 0 rfl) ?_
  refine c_get (v := .ref pq) (C := RX11) (Tc := TX11) (N := 8) (ci := 8) hx hb hq pin_wsX110 hown hE hP hO 0 (sg_0 G h0 a _ _ _ _ _) rfl 7 (by decide) (hq _ pw_1342) (fun _ h9 => h9) rfl dX11_declared_12 ?_
  refine lv_iload_n hx hb dX11_declared_15 rfl (lv_at hl 1 rfl) ?_
  have hO : OKP G h0 a F (updR R 0 (.ref pq)) Z B J K w := hO.to rfl
  obtain ⟨qr4, hqr5⟩ := p_recv hO (by rw [hp1]; decide) (rep_7 hp1)
  refine pc_V0 (G := G) (As := [.int x]) (rest := []) hx hb hml hown hq hE hX pX0_al hP hD hS hA hl.1 (G_decl l G h0 a F (updR R 0 (.ref pq)) Z B J K w pq dr ml nd x g hps.1 hps.2.1 hO) (gV pw_1363 pw_182 pw_183 pw_106 pw_13) hV_X9_decl qr4 6 hqr5 rfl rfl rfl (Nat.le_of_ble_eq_true rfl) dX11_declared_16 ⟨Nat.le_of_ble_eq_true rfl, Nat.le_of_ble_eq_true rfl⟩ ⟨Nat.le_of_ble_eq_true rfl, Nat.le_of_ble_eq_true rfl⟩ (fun v3 u1 H locs hw2 hP hD hS => ?_)
  obtain ⟨w, o6⟩ := u1
  obtain ⟨hw2, h7, h8, hO⟩ := hw2
  have h7 : DoN K o6 := h7
  have h8 : DoK K dr nd x o6 := h8
  obtain rfl : v3 = some ((va_rf o6)) := hw2
  have hO : OKP G h0 a F (updR R 0 (.ref pq)) Z B J K w := hO.to rfl
  refine W.widen (k := 0) (n := 0) (Nat.le_of_ble_eq_true rfl) (Nat.le_of_ble_eq_true rfl) ?_
  refine W.eq (g2 := F0 m 19 ls [(va_rf o6)]) rfl ?_
  rcases o6 with _ | d9
  · have hl : lv_has ls 2 [(0, .ref h0), (1, .int x)] := hl
    refine W.eq (g2 := F0 m 19 ls [.null]) rfl ?_
    have hz10 : DoN K none := (fun z h => by cases h)
    have hO : OKP G h0 a F (updR R 0 (.ref pq)) Z B J K w := hO.to rfl
    exact W.aret (v := .null) hx hb hr (Or.inl ⟨_, rfl⟩) (Or.inl rfl) (fun t99 ht99 hW99 => ⟨⟨_, (w, none), rfl, ⟨rfl, hz10, hO⟩, by rw [ht99]; exact hP, hD⟩, hS.F ht99⟩) hS.2.2 dX11_declared_19
  · have hl : lv_has ls 2 [(0, .ref h0), (1, .int x)] := hl
    refine W.eq (g2 := F0 m 19 ls [.ref d9]) rfl ?_
    have hdT := h7 d9 rfl
    have hz11 : DoN K (some d9) := (fun z h => by cases h; exact hdT)
    have hO : OKP G h0 a F (updR R 0 (.ref pq)) Z B J K w := hO.to rfl
    exact W.aret (v := .ref d9) hx hb hr (Or.inl ⟨_, rfl⟩) (Or.inr ⟨_, rfl⟩) (fun t99 ht99 hW99 => ⟨⟨_, (w, (some d9)), rfl, ⟨rfl, hz11, hO⟩, by rw [ht99]; exact hP, hD⟩, hS.F ht99⟩) hS.2.2 dX11_declared_19
theorem dJ13_bitCount_95d88_0 : decode cJ13_bitCount_95d88 0 = .ok (.lload_n 0, 1) := by decide +kernel
theorem dJ13_bitCount_95d88_1 : decode cJ13_bitCount_95d88 1 = .ok (.lload_n 0, 1) := by decide +kernel
theorem dJ13_bitCount_95d88_2 : decode cJ13_bitCount_95d88 2 = .ok (.iconst 1, 1) := by decide +kernel
theorem dJ13_bitCount_95d88_3 : decode cJ13_bitCount_95d88 3 = .ok (.lushr, 1) := by decide +kernel
theorem dJ13_bitCount_95d88_4 : decode cJ13_bitCount_95d88 4 = .ok (.ldc2_w 314, 3) := by decide +kernel
theorem dJ13_bitCount_95d88_7 : decode cJ13_bitCount_95d88 7 = .ok (.land, 1) := by decide +kernel
theorem dJ13_bitCount_95d88_8 : decode cJ13_bitCount_95d88 8 = .ok (.lsub, 1) := by decide +kernel
theorem dJ13_bitCount_95d88_9 : decode cJ13_bitCount_95d88 9 = .ok (.lstore_n 0, 1) := by decide +kernel
theorem dJ13_bitCount_95d88_10 : decode cJ13_bitCount_95d88 10 = .ok (.lload_n 0, 1) := by decide +kernel
theorem dJ13_bitCount_95d88_11 : decode cJ13_bitCount_95d88 11 = .ok (.ldc2_w 316, 3) := by decide +kernel
theorem dJ13_bitCount_95d88_14 : decode cJ13_bitCount_95d88 14 = .ok (.land, 1) := by decide +kernel
theorem dJ13_bitCount_95d88_15 : decode cJ13_bitCount_95d88 15 = .ok (.lload_n 0, 1) := by decide +kernel
theorem dJ13_bitCount_95d88_16 : decode cJ13_bitCount_95d88 16 = .ok (.iconst 2, 1) := by decide +kernel
theorem dJ13_bitCount_95d88_17 : decode cJ13_bitCount_95d88 17 = .ok (.lushr, 1) := by decide +kernel
theorem dJ13_bitCount_95d88_18 : decode cJ13_bitCount_95d88 18 = .ok (.ldc2_w 316, 3) := by decide +kernel
theorem dJ13_bitCount_95d88_21 : decode cJ13_bitCount_95d88 21 = .ok (.land, 1) := by decide +kernel
theorem dJ13_bitCount_95d88_22 : decode cJ13_bitCount_95d88 22 = .ok (.ladd, 1) := by decide +kernel
theorem dJ13_bitCount_95d88_23 : decode cJ13_bitCount_95d88 23 = .ok (.lstore_n 0, 1) := by decide +kernel
theorem dJ13_bitCount_95d88_24 : decode cJ13_bitCount_95d88 24 = .ok (.lload_n 0, 1) := by decide +kernel
theorem dJ13_bitCount_95d88_25 : decode cJ13_bitCount_95d88 25 = .ok (.lload_n 0, 1) := by decide +kernel
theorem dJ13_bitCount_95d88_26 : decode cJ13_bitCount_95d88 26 = .ok (.iconst 4, 1) := by decide +kernel
theorem dJ13_bitCount_95d88_27 : decode cJ13_bitCount_95d88 27 = .ok (.lushr, 1) := by decide +kernel
theorem dJ13_bitCount_95d88_28 : decode cJ13_bitCount_95d88 28 = .ok (.ladd, 1) := by decide +kernel
theorem dJ13_bitCount_95d88_29 : decode cJ13_bitCount_95d88 29 = .ok (.ldc2_w 318, 3) := by decide +kernel
theorem dJ13_bitCount_95d88_32 : decode cJ13_bitCount_95d88 32 = .ok (.land, 1) := by decide +kernel
theorem dJ13_bitCount_95d88_33 : decode cJ13_bitCount_95d88 33 = .ok (.lstore_n 0, 1) := by decide +kernel
theorem dJ13_bitCount_95d88_34 : decode cJ13_bitCount_95d88 34 = .ok (.lload_n 0, 1) := by decide +kernel
theorem dJ13_bitCount_95d88_35 : decode cJ13_bitCount_95d88 35 = .ok (.lload_n 0, 1) := by decide +kernel
theorem dJ13_bitCount_95d88_36 : decode cJ13_bitCount_95d88 36 = .ok (.bipush 8, 2) := by decide +kernel
theorem dJ13_bitCount_95d88_38 : decode cJ13_bitCount_95d88 38 = .ok (.lushr, 1) := by decide +kernel
theorem dJ13_bitCount_95d88_39 : decode cJ13_bitCount_95d88 39 = .ok (.ladd, 1) := by decide +kernel
theorem dJ13_bitCount_95d88_40 : decode cJ13_bitCount_95d88 40 = .ok (.lstore_n 0, 1) := by decide +kernel
theorem dJ13_bitCount_95d88_41 : decode cJ13_bitCount_95d88 41 = .ok (.lload_n 0, 1) := by decide +kernel
theorem dJ13_bitCount_95d88_42 : decode cJ13_bitCount_95d88 42 = .ok (.lload_n 0, 1) := by decide +kernel
theorem dJ13_bitCount_95d88_43 : decode cJ13_bitCount_95d88 43 = .ok (.bipush 16, 2) := by decide +kernel
theorem dJ13_bitCount_95d88_45 : decode cJ13_bitCount_95d88 45 = .ok (.lushr, 1) := by decide +kernel
theorem dJ13_bitCount_95d88_46 : decode cJ13_bitCount_95d88 46 = .ok (.ladd, 1) := by decide +kernel
theorem dJ13_bitCount_95d88_47 : decode cJ13_bitCount_95d88 47 = .ok (.lstore_n 0, 1) := by decide +kernel
theorem dJ13_bitCount_95d88_48 : decode cJ13_bitCount_95d88 48 = .ok (.lload_n 0, 1) := by decide +kernel
theorem dJ13_bitCount_95d88_49 : decode cJ13_bitCount_95d88 49 = .ok (.lload_n 0, 1) := by decide +kernel
theorem dJ13_bitCount_95d88_50 : decode cJ13_bitCount_95d88 50 = .ok (.bipush 32, 2) := by decide +kernel
theorem dJ13_bitCount_95d88_52 : decode cJ13_bitCount_95d88 52 = .ok (.lushr, 1) := by decide +kernel
theorem dJ13_bitCount_95d88_53 : decode cJ13_bitCount_95d88 53 = .ok (.ladd, 1) := by decide +kernel
theorem dJ13_bitCount_95d88_54 : decode cJ13_bitCount_95d88 54 = .ok (.lstore_n 0, 1) := by decide +kernel
theorem dJ13_bitCount_95d88_55 : decode cJ13_bitCount_95d88 55 = .ok (.lload_n 0, 1) := by decide +kernel
theorem dJ13_bitCount_95d88_56 : decode cJ13_bitCount_95d88 56 = .ok (.l2i, 1) := by decide +kernel
theorem dJ13_bitCount_95d88_57 : decode cJ13_bitCount_95d88 57 = .ok (.bipush 127, 2) := by decide +kernel
theorem dJ13_bitCount_95d88_59 : decode cJ13_bitCount_95d88 59 = .ok (.iand, 1) := by decide +kernel
theorem dJ13_bitCount_95d88_60 : decode cJ13_bitCount_95d88 60 = .ok (.ireturn, 1) := by decide +kernel
set_option maxHeartbeats 1000000 in
set_option maxRecDepth 100000 in
/-- bitCount -/
theorem s_bitCount (l : Launch) (G : pT) (x : Int64) : PM l G pX0 yJ13_bitCount_95d88 cJ13_bitCount_95d88 2 (some .int) ({ frames := 2, cells := 0, slots := 0, locals := 60 }) [.long x] [] (fun (v : Option Value) (u : Unit) => ∃ r : Int32, v = some (.int r)) (fun u => []) := by
  intro sz
  refine Met.ofW (cc := cJ13_bitCount_95d88) (maxL := 2) (ret := (some .int)) (by decide) rfl ?_
  intro p e s m args below meth c s₁ B hml hv
  obtain ⟨rfl, hsz, hP, hD0, hE, hX⟩ := hv
  have hx := B.exec
  have hb := B.bytes
  have hr := B.returns
  have hts := atoms_spec (ws := Cond.code yJ13_bitCount_95d88 cJ13_bitCount_95d88 2 (some .int) :: pw) B.pre
  have hq : ∀ w ∈ pw, w.before _ s = true := fun w h => hts w (List.mem_cons_of_mem _ h)
  have hown : s.vm.findClass RJ13 = some m.cls := findClass_of_methodNamed B.named
  have hlocks := B.notSynchronized
  subst hsz
  have hD := hD0.self (sz := s.heap.size)
  have hA : ∀ q : Nat, s.heap.size ≤ q → va_A [] s.heap.size q := fun q h => Or.inr h
  have hP : va_P G.1 pCl [] s.heap := hP
  generalize va_A [] s.heap.size = A at hD hE hA ⊢
  have hS : va_S A s.heap s.heap [] := va_S.rf
  have hl := lv_entry ([.long x]) (n := 2) (Nat.le_of_ble_eq_true rfl)
  rw [lg_entry_eq]
  generalize (lg_sl ([.long x]) ++ List.replicate (2 - (lg_sl ([.long x])).length) Slot.unset).toArray = ls at hl ⊢
  have hl : lv_has ls 2 [(0, .long x)] := hl
  refine lv_lload_n hx hb dJ13_bitCount_95d88_0 rfl (lv_at hl 0 rfl) ?_
  refine lv_lload_n hx hb dJ13_bitCount_95d88_1 rfl (lv_at hl 0 rfl) ?_
  refine lv_iconst (v := 1) hx hb dJ13_bitCount_95d88_2 (by decide) ?_
  refine lv_lushr hx hb dJ13_bitCount_95d88_3 rfl ?_
  refine lv_topl (fun x1 e2 => ?_)
  refine lv_ldc2 (v := 6148914691236517205) hx hb hown (hq _ pw_1365) dJ13_bitCount_95d88_4 ?_
  refine lv_land hx hb dJ13_bitCount_95d88_7 ?_
  refine lv_topl (fun x3 e4 => ?_)
  refine lv_lsub hx hb dJ13_bitCount_95d88_8 ?_
  refine lv_topl (fun x5 e6 => ?_)
  refine lv_lstore_n (lv' := [(0, .long x5)]) hx hb dJ13_bitCount_95d88_9 rfl hl (by decide) rfl (fun ls hl => ?_)
  refine lv_lload_n hx hb dJ13_bitCount_95d88_10 rfl (lv_at hl 0 rfl) ?_
  refine lv_ldc2 (v := 3689348814741910323) hx hb hown (hq _ pw_1366) dJ13_bitCount_95d88_11 ?_
  refine lv_land hx hb dJ13_bitCount_95d88_14 ?_
  refine lv_topl (fun x7 e8 => ?_)
  refine lv_lload_n hx hb dJ13_bitCount_95d88_15 rfl (lv_at hl 0 rfl) ?_
  refine lv_iconst (v := 2) hx hb dJ13_bitCount_95d88_16 (by decide) ?_
  refine lv_lushr hx hb dJ13_bitCount_95d88_17 rfl ?_
  refine lv_topl (fun x9 e10 => ?_)
  refine lv_ldc2 (v := 3689348814741910323) hx hb hown (hq _ pw_1366) dJ13_bitCount_95d88_18 ?_
  refine lv_land hx hb dJ13_bitCount_95d88_21 ?_
  refine lv_topl (fun x11 e12 => ?_)
  refine lv_ladd hx hb dJ13_bitCount_95d88_22 ?_
  refine lv_topl (fun x13 e14 => ?_)
  refine lv_lstore_n (lv' := [(0, .long x13)]) hx hb dJ13_bitCount_95d88_23 rfl hl (by decide) rfl (fun ls hl => ?_)
  refine lv_lload_n hx hb dJ13_bitCount_95d88_24 rfl (lv_at hl 0 rfl) ?_
  refine lv_lload_n hx hb dJ13_bitCount_95d88_25 rfl (lv_at hl 0 rfl) ?_
  refine lv_iconst (v := 4) hx hb dJ13_bitCount_95d88_26 (by decide) ?_
  refine lv_lushr hx hb dJ13_bitCount_95d88_27 rfl ?_
  refine lv_topl (fun x15 e16 => ?_)
  refine lv_ladd hx hb dJ13_bitCount_95d88_28 ?_
  refine lv_topl (fun x17 e18 => ?_)
  refine lv_ldc2 (v := 1085102592571150095) hx hb hown (hq _ pw_1367) dJ13_bitCount_95d88_29 ?_
  refine lv_land hx hb dJ13_bitCount_95d88_32 ?_
  refine lv_topl (fun x19 e20 => ?_)
  refine lv_lstore_n (lv' := [(0, .long x19)]) hx hb dJ13_bitCount_95d88_33 rfl hl (by decide) rfl (fun ls hl => ?_)
  refine lv_lload_n hx hb dJ13_bitCount_95d88_34 rfl (lv_at hl 0 rfl) ?_
  refine lv_lload_n hx hb dJ13_bitCount_95d88_35 rfl (lv_at hl 0 rfl) ?_
  refine lv_bipush (v := 8) hx hb dJ13_bitCount_95d88_36 (by decide) ?_
  refine lv_lushr hx hb dJ13_bitCount_95d88_38 rfl ?_
  refine lv_topl (fun x21 e22 => ?_)
  refine lv_ladd hx hb dJ13_bitCount_95d88_39 ?_
  refine lv_topl (fun x23 e24 => ?_)
  refine lv_lstore_n (lv' := [(0, .long x23)]) hx hb dJ13_bitCount_95d88_40 rfl hl (by decide) rfl (fun ls hl => ?_)
  refine lv_lload_n hx hb dJ13_bitCount_95d88_41 rfl (lv_at hl 0 rfl) ?_
  refine lv_lload_n hx hb dJ13_bitCount_95d88_42 rfl (lv_at hl 0 rfl) ?_
  refine lv_bipush (v := 16) hx hb dJ13_bitCount_95d88_43 (by decide) ?_
  refine lv_lushr hx hb dJ13_bitCount_95d88_45 rfl ?_
  refine lv_topl (fun x25 e26 => ?_)
  refine lv_ladd hx hb dJ13_bitCount_95d88_46 ?_
  refine lv_topl (fun x27 e28 => ?_)
  refine lv_lstore_n (lv' := [(0, .long x27)]) hx hb dJ13_bitCount_95d88_47 rfl hl (by decide) rfl (fun ls hl => ?_)
  refine lv_lload_n hx hb dJ13_bitCount_95d88_48 rfl (lv_at hl 0 rfl) ?_
  refine lv_lload_n hx hb dJ13_bitCount_95d88_49 rfl (lv_at hl 0 rfl) ?_
  refine lv_bipush (v := 32) hx hb dJ13_bitCount_95d88_50 (by decide) ?_
  refine lv_lushr hx hb dJ13_bitCount_95d88_52 rfl ?_
  refine lv_topl (fun x29 e30 => ?_)
  refine lv_ladd hx hb dJ13_bitCount_95d88_53 ?_
  refine lv_topl (fun x31 e32 => ?_)
  refine lv_lstore_n (lv' := [(0, .long x31)]) hx hb dJ13_bitCount_95d88_54 rfl hl (by decide) rfl (fun ls hl => ?_)
  refine lv_lload_n hx hb dJ13_bitCount_95d88_55 rfl (lv_at hl 0 rfl) ?_
  refine lv_l2i hx hb dJ13_bitCount_95d88_56 rfl ?_
  refine lv_topi (fun x33 e34 => ?_)
  refine lv_bipush (v := 127) hx hb dJ13_bitCount_95d88_57 (by decide) ?_
  refine lv_iand hx hb dJ13_bitCount_95d88_59 ?_
  refine lv_topi (fun x35 e36 => ?_)
  refine W.widen (k := 0) (n := 0) (Nat.le_of_ble_eq_true rfl) (Nat.le_of_ble_eq_true rfl) ?_
  exact W.iret (v := x35) hx hb hr (fun t ht hW => ⟨⟨_, (), rfl, ⟨_, rfl⟩, by rw [ht]; exact hP.sub [] rfl, hD.sub [] (by decide) rfl⟩, hS.F ht⟩) hS.2.2 dJ13_bitCount_95d88_60
theorem dX11_type_0 : decode cX11_type 0 = .ok (.aload_n 0, 1) := by decide +kernel
theorem dX11_type_1 : decode cX11_type 1 = .ok (.iload_n 1, 1) := by decide +kernel
theorem dX11_type_2 : decode cX11_type 2 = .ok (.invokevirtual 95, 3) := by decide +kernel
theorem dX11_type_5 : decode cX11_type 5 = .ok (.astore_n 3, 1) := by decide +kernel
theorem dX11_type_6 : decode cX11_type 6 = .ok (.aload_n 3, 1) := by decide +kernel
theorem dX11_type_7 : decode cX11_type 7 = .ok (.ifnonnull 5, 3) := by decide +kernel
theorem dX11_type_10 : decode cX11_type 10 = .ok (.iconst (-1), 1) := by decide +kernel
theorem dX11_type_11 : decode cX11_type 11 = .ok (.ireturn, 1) := by decide +kernel
theorem hV_X11_declared : yX11_declared.cls = RX11 ∧ yX11_declared.cls ≠ "java/lang/invoke/MethodHandle" ∧ yX11_declared.cls ≠ "java/lang/invoke/VarHandle" ∧ (parseMethodDescriptor yX11_declared.desc).map (fun d => d.parameters.length) = some 1 := by decide +kernel
set_option maxHeartbeats 2000000 in
set_option maxRecDepth 100000 in
theorem J_typeN (l : Launch) (G : pT) (h0 : Nat) (a : Nat → Nat) (F : Nat → Int32) (R : Nat → Value) (Z : Int64) (B : Nat → Nat → Int32) (J : Nat → Nat → Int64) (T : Nat → Nat) (Pi : Nat → va_E → Prop) (w : va_W) (x : Int32) (y : Int32) (hO : OKW G h0 a F (updR R 0 (.null)) Z B J T Pi w) : PM l G pX0 yX11_type cX11_type 4 (some .int) ({ frames := 3, cells := 0, slots := 0, locals := 81 }) [.ref h0, .int x, .int y] w (fun (v : Option Value) (u : va_W × (Int32)) => v = some (.int u.2) ∧ (OKW G h0 a F (updR R 0 (.null)) Z B J T Pi u.1)) (fun u => u.1) := by
  intro sz
  refine Met.ofW (cc := cX11_type) (maxL := 4) (ret := (some .int)) (by decide) rfl ?_
  intro p e s m args below meth c s₁ B9 hml hv
  obtain ⟨rfl, hsz, hP, hD0, hE, hX⟩ := hv
  have hx := B9.exec
  have hb := B9.bytes
  have hr := B9.returns
  have hts := atoms_spec (ws := Cond.code yX11_type cX11_type 4 (some .int) :: pw) B9.pre
  have hq : ∀ w ∈ pw, w.before _ s = true := fun w h => hts w (List.mem_cons_of_mem _ h)
  have hown : s.vm.findClass RX11 = some m.cls := findClass_of_methodNamed B9.named
  have hlocks := B9.notSynchronized
  subst hsz
  have hD := hD0.self (sz := s.heap.size)
  have hA : ∀ q : Nat, s.heap.size ≤ q → va_A w s.heap.size q := fun q h => Or.inr h
  generalize va_A w s.heap.size = A at hD hE hA ⊢
  have hS : va_S A s.heap s.heap [] := va_S.rf
  have hl := lv_entry ([.ref h0, .int x, .int y]) (n := 4) (Nat.le_of_ble_eq_true rfl)
  rw [lg_entry_eq]
  generalize (lg_sl ([.ref h0, .int x, .int y]) ++ List.replicate (4 - (lg_sl ([.ref h0, .int x, .int y])).length) Slot.unset).toArray = ls at hl ⊢
  have hl : lv_has ls 4 [(0, .ref h0), (1, .int x), (2, .int y)] := hl
  refine lv_aload_n hx hb dX11_type_0 rfl (lv_at hl 0 rfl) ?_
  refine lv_iload_n hx hb dX11_type_1 rfl (lv_at hl 1 rfl) ?_
  have hO : OKW G h0 a F (updR (updR R 0 (.null)) 0 (.null)) Z B J T Pi w := hO.to rfl
  obtain ⟨_, qr4, hqr5⟩ := hO.2.1 0 _ (sg_0 G h0 a _ _ _ _ _)
  refine pc_V0 (G := G) (As := [.int x]) (rest := []) hx hb hml hown hq hE hX pX0_al hP hD hS hA hl.1 (J_declaredN l G h0 a F (updR R 0 (.null)) Z B J T Pi w x hO) (gV pw_1374 pw_1375 pw_1376 pw_1339 pw_1362) hV_X11_declared qr4 8 hqr5 rfl rfl rfl (Nat.le_of_ble_eq_true rfl) dX11_type_2 ⟨Nat.le_of_ble_eq_true rfl, Nat.le_of_ble_eq_true rfl⟩ ⟨Nat.le_of_ble_eq_true rfl, Nat.le_of_ble_eq_true rfl⟩ (fun v3 u1 H locs hw2 hP hD hS => ?_)
  obtain ⟨w, _⟩ := u1
  obtain ⟨hw2, hO⟩ := hw2
  obtain rfl : v3 = some (.null) := hw2
  have hO : OKW G h0 a F (updR R 0 (.null)) Z B J T Pi w := hO.to rfl
  refine W.widen (k := 0) (n := 0) (Nat.le_of_ble_eq_true rfl) (Nat.le_of_ble_eq_true rfl) ?_
  refine W.eq (g2 := F0 m 5 ls [.null]) rfl ?_
  refine lv_astore_nN (lv' := [(3, .null), (0, .ref h0), (1, .int x), (2, .int y)]) hx hb dX11_type_5 rfl hl (by decide) rfl (fun ls hl => ?_)
  refine lv_aload_nN hx hb dX11_type_6 rfl (lv_at hl 0 rfl) ?_
  refine lv_ifnonnullN hx hb dX11_type_7 ?_
  refine lv_iconst (v := (-1)) hx hb dX11_type_10 (by decide) ?_
  have hO : OKW G h0 a F (updR R 0 (.null)) Z B J T Pi w := hO.to rfl
  exact W.iret (v := (-1)) hx hb hr (fun t99 ht99 hW99 => ⟨⟨_, (w, ((-1) : Int32)), rfl, ⟨rfl, hO⟩, by rw [ht99]; exact hP, hD⟩, hS.F ht99⟩) hS.2.2 dX11_type_11
theorem dX11_type_12 : decode cX11_type 12 = .ok (.iload_n 2, 1) := by decide +kernel
theorem dX11_type_13 : decode cX11_type 13 = .ok (.tableswitch 111 0 5 #[39, 58, 66, 74, 87, 95], 39) := by decide +kernel
theorem dX11_type_52 : decode cX11_type 52 = .ok (.aload_n 3, 1) := by decide +kernel
theorem dX11_type_53 : decode cX11_type 53 = .ok (.getfield 98, 3) := by decide +kernel
theorem dX11_type_56 : decode cX11_type 56 = .ok (.ifnonnull 7, 3) := by decide +kernel
theorem dX11_type_59 : decode cX11_type 59 = .ok (.iconst (-1), 1) := by decide +kernel
theorem dX11_type_60 : decode cX11_type 60 = .ok (.goto 10, 3) := by decide +kernel
theorem dX11_type_70 : decode cX11_type 70 = .ok (.ireturn, 1) := by decide +kernel
theorem dX11_type_63 : decode cX11_type 63 = .ok (.aload_n 3, 1) := by decide +kernel
theorem dX11_type_64 : decode cX11_type 64 = .ok (.getfield 98, 3) := by decide +kernel
theorem dX11_type_67 : decode cX11_type 67 = .ok (.getfield 104, 3) := by decide +kernel
theorem dX11_type_71 : decode cX11_type 71 = .ok (.aload_n 3, 1) := by decide +kernel
theorem dX11_type_72 : decode cX11_type 72 = .ok (.getfield 107, 3) := by decide +kernel
theorem dX11_type_75 : decode cX11_type 75 = .ok (.invokevirtual 111, 3) := by decide +kernel
theorem dX11_type_78 : decode cX11_type 78 = .ok (.ireturn, 1) := by decide +kernel
theorem dX11_type_79 : decode cX11_type 79 = .ok (.aload_n 3, 1) := by decide +kernel
theorem dX11_type_80 : decode cX11_type 80 = .ok (.getfield 117, 3) := by decide +kernel
theorem dX11_type_83 : decode cX11_type 83 = .ok (.invokevirtual 111, 3) := by decide +kernel
theorem dX11_type_86 : decode cX11_type 86 = .ok (.ireturn, 1) := by decide +kernel
theorem dX11_type_87 : decode cX11_type 87 = .ok (.aload_n 3, 1) := by decide +kernel
theorem dX11_type_88 : decode cX11_type 88 = .ok (.getfield 120, 3) := by decide +kernel
theorem dX11_type_91 : decode cX11_type 91 = .ok (.ifCond .eq 7, 3) := by decide +kernel
theorem dX11_type_98 : decode cX11_type 98 = .ok (.iconst 0, 1) := by decide +kernel
theorem dX11_type_99 : decode cX11_type 99 = .ok (.ireturn, 1) := by decide +kernel
theorem dX11_type_94 : decode cX11_type 94 = .ok (.iconst 1, 1) := by decide +kernel
theorem dX11_type_95 : decode cX11_type 95 = .ok (.goto 4, 3) := by decide +kernel
theorem dX11_type_100 : decode cX11_type 100 = .ok (.aload_n 3, 1) := by decide +kernel
theorem dX11_type_101 : decode cX11_type 101 = .ok (.getfield 124, 3) := by decide +kernel
theorem dX11_type_104 : decode cX11_type 104 = .ok (.invokestatic 128, 3) := by decide +kernel
theorem dX11_type_107 : decode cX11_type 107 = .ok (.ireturn, 1) := by decide +kernel
theorem dX11_type_108 : decode cX11_type 108 = .ok (.aload_n 3, 1) := by decide +kernel
theorem dX11_type_109 : decode cX11_type 109 = .ok (.getfield 120, 3) := by decide +kernel
theorem dX11_type_112 : decode cX11_type 112 = .ok (.ifCond .eq 7, 3) := by decide +kernel
theorem dX11_type_119 : decode cX11_type 119 = .ok (.aload_n 3, 1) := by decide +kernel
theorem dX11_type_120 : decode cX11_type 120 = .ok (.invokevirtual 134, 3) := by decide +kernel
theorem dX11_type_123 : decode cX11_type 123 = .ok (.ireturn, 1) := by decide +kernel
theorem dX11_type_115 : decode cX11_type 115 = .ok (.iconst (-1), 1) := by decide +kernel
theorem dX11_type_116 : decode cX11_type 116 = .ok (.goto 7, 3) := by decide +kernel
theorem dX11_type_124 : decode cX11_type 124 = .ok (.iconst (-1), 1) := by decide +kernel
theorem dX11_type_125 : decode cX11_type 125 = .ok (.ireturn, 1) := by decide +kernel
theorem hS_J13_bitCount_95d88 : yJ13_bitCount_95d88.cls ≠ "java/lang/invoke/MethodHandle" ∧ yJ13_bitCount_95d88.cls ≠ "java/lang/invoke/VarHandle" ∧ (parseMethodDescriptor yJ13_bitCount_95d88.desc).map (fun d => d.parameters.length) = some 1 := by decide +kernel
set_option maxHeartbeats 20000000 in
set_option maxRecDepth 100000 in
theorem J_type (l : Launch) (G : pT) (h0 : Nat) (a : Nat → Nat) (F : Nat → Int32) (R : Nat → Value) (Z : Int64) (B : Nat → Nat → Int32) (J : Nat → Nat → Int64) (K : PK) (w : va_W) (x : Int32) (y : Int32) (pq : Nat) (dr : Nat) (ml : Nat) (nd : Nat) (nm : Nat) (cp : Nat) (it : Nat → Nat) (s9 : Nat) (g : Nat → Nat → Nat) (rk : Nat → Nat) (hwp : WPr G K g) (hps : PgT G K g (a 1) pq dr ml nd nm cp it s9) (hrk : RkO K rk) (hO : OKP G h0 a F (updR R 0 (.ref pq)) Z B J K w) : PM l G pX0 yX11_type cX11_type 4 (some .int) ({ frames := 4, cells := 0, slots := 0, locals := 102 }) [.ref h0, .int x, .int y] w (fun (v : Option Value) (u : va_W × (Int32)) => v = some (.int u.2) ∧ (OKP G h0 a F (updR R 0 (.ref pq)) Z B J K u.1)) (fun u => u.1) := by
  intro sz
  refine Met.ofW (cc := cX11_type) (maxL := 4) (ret := (some .int)) (by decide) rfl ?_
  intro p e s m args below meth c s₁ B9 hml hv
  obtain ⟨rfl, hsz, hP, hD0, hE, hX⟩ := hv
  have hx := B9.exec
  have hb := B9.bytes
  have hr := B9.returns
  have hts := atoms_spec (ws := Cond.code yX11_type cX11_type 4 (some .int) :: pw) B9.pre
  have hq : ∀ w ∈ pw, w.before _ s = true := fun w h => hts w (List.mem_cons_of_mem _ h)
  have hown : s.vm.findClass RX11 = some m.cls := findClass_of_methodNamed B9.named
  have hlocks := B9.notSynchronized
  subst hsz
  have hD := hD0.self (sz := s.heap.size)
  have hA : ∀ q : Nat, s.heap.size ≤ q → va_A w s.heap.size q := fun q h => Or.inr h
  generalize va_A w s.heap.size = A at hD hE hA ⊢
  have hS : va_S A s.heap s.heap [] := va_S.rf
  have hl := lv_entry ([.ref h0, .int x, .int y]) (n := 4) (Nat.le_of_ble_eq_true rfl)
  rw [lg_entry_eq]
  generalize (lg_sl ([.ref h0, .int x, .int y]) ++ List.replicate (4 - (lg_sl ([.ref h0, .int x, .int y])).length) Slot.unset).toArray = ls at hl ⊢
  have hl : lv_has ls 4 [(0, .ref h0), (1, .int x), (2, .int y)] := hl
  have hpg := hps.1
  have hp1 := hpg.1
  have hp2 := hpg.2.1
  have hp3 := hpg.2.2.1
  have hp4 := hpg.2.2.2.1
  have hp5 := hpg.2.2.2.2.1
  have hp6 := hpg.2.2.2.2.2.1
  have hp8 := hpg.2.2.2.2.2.2.2.1
  have hp9 := hpg.2.2.2.2.2.2.2.2
  refine lv_aload_n hx hb dX11_type_0 rfl (lv_at hl 0 rfl) ?_
  refine lv_iload_n hx hb dX11_type_1 rfl (lv_at hl 1 rfl) ?_
  have hO : OKP G h0 a F (updR (updR R 0 (.ref pq)) 0 (.ref pq)) Z B J K w := hO.to rfl
  obtain ⟨_, qr4, hqr5⟩ := hO.2.1 0 _ (sg_0 G h0 a _ _ _ _ _)
  refine pc_V0 (G := G) (As := [.int x]) (rest := []) hx hb hml hown hq hE hX pX0_al hP hD hS hA hl.1 (J_declared l G h0 a F (updR R 0 (.ref pq)) Z B J K w x pq dr ml nd nm cp it s9 g rk hwp hps hrk hO) (gV pw_1374 pw_1375 pw_1376 pw_1339 pw_1362) hV_X11_declared qr4 8 hqr5 rfl rfl rfl (Nat.le_of_ble_eq_true rfl) dX11_type_2 ⟨Nat.le_of_ble_eq_true rfl, Nat.le_of_ble_eq_true rfl⟩ ⟨Nat.le_of_ble_eq_true rfl, Nat.le_of_ble_eq_true rfl⟩ (fun v3 u1 H locs hw2 hP hD hS => ?_)
  obtain ⟨w, o6⟩ := u1
  obtain ⟨hw2, h7, hO⟩ := hw2
  have h7 : DoN K o6 := h7
  obtain rfl : v3 = some ((va_rf o6)) := hw2
  have hO : OKP G h0 a F (updR R 0 (.ref pq)) Z B J K w := hO.to rfl
  refine W.widen (k := 0) (n := 0) (Nat.le_of_ble_eq_true rfl) (Nat.le_of_ble_eq_true rfl) ?_
  refine W.eq (g2 := F0 m 5 ls [(va_rf o6)]) rfl ?_
  rcases o6 with _ | d8
  · have hl : lv_has ls 4 [(0, .ref h0), (1, .int x), (2, .int y)] := hl
    refine W.eq (g2 := F0 m 5 ls [.null]) rfl ?_
    refine lv_astore_nN (lv' := [(3, .null), (0, .ref h0), (1, .int x), (2, .int y)]) hx hb dX11_type_5 rfl hl (by decide) rfl (fun ls hl => ?_)
    refine lv_aload_nN hx hb dX11_type_6 rfl (lv_at hl 0 rfl) ?_
    refine lv_ifnonnullN hx hb dX11_type_7 ?_
    refine lv_iconst (v := (-1)) hx hb dX11_type_10 (by decide) ?_
    have hO : OKP G h0 a F (updR R 0 (.ref pq)) Z B J K w := hO.to rfl
    exact W.iret (v := (-1)) hx hb hr (fun t99 ht99 hW99 => ⟨⟨_, (w, ((-1) : Int32)), rfl, ⟨rfl, hO⟩, by rw [ht99]; exact hP, hD⟩, hS.F ht99⟩) hS.2.2 dX11_type_11
  · have hl : lv_has ls 4 [(0, .ref h0), (1, .int x), (2, .int y)] := hl
    refine W.eq (g2 := F0 m 5 ls [.ref d8]) rfl ?_
    have hdT := h7 d8 rfl
    obtain ⟨lm, hflm, htlm, hrlm, holm⟩ := (hwp.2.2.1 d8 hdT).2.2.1
    obtain ⟨nlm, itlm, cplm, hlclm, hnblm, hcblm⟩ := hwp.2.1 lm htlm
    rw [hrlm] at hlclm hnblm
    have hnclm := hlclm.2.2.1
    have hnblm : nlm ≤ 5000 := hnblm
    have hlclm : LsC G K lm 1 nlm itlm cplm := hlclm
    obtain ⟨lk, hflk, htlk, hrlk, holk⟩ := (hwp.2.2.1 d8 hdT).2.2.2.1
    obtain ⟨nlk, itlk, cplk, hlclk, hnblk, hcblk⟩ := hwp.2.1 lk htlk
    rw [hrlk] at hlclk hnblk
    have hnclk := hlclk.2.2.1
    have hnblk : nlk ≤ 5000 := hnblk
    have hlclk : LsC G K lk 3 nlk itlk cplk := hlclk
    refine lv_astore_n (lv' := [(3, .ref d8), (0, .ref h0), (1, .int x), (2, .int y)]) hx hb dX11_type_5 rfl hl (by decide) rfl (fun ls hl => ?_)
    refine lv_aload_n hx hb dX11_type_6 rfl (lv_at hl 0 rfl) ?_
    refine lv_ifnonnull (tgt := 12) hx hb dX11_type_7 (by decide) ?_
    refine lv_iload_n hx hb dX11_type_12 rfl (lv_at hl 3 rfl) ?_
    by_cases h9 : y = 0
    · subst h9
      refine lv_tableIn (tgt := 52) (off := 39) hx hb dX11_type_13 (by decide) (by decide) (by decide) (by decide) ?_
      refine lv_aload_n hx hb dX11_type_52 rfl (lv_at hl 0 rfl) ?_
      rcases ho11 : K.2.2.1 10 d8 with _ | o10
      · skip
        refine p_get (v := .null) (C := RX2) (Tc := TX2) (N := 13) (ci := 2) hx hb hq pin_wsX20 hown hE hP hO (by rw [hdT]; decide) (rep_4 hdT) rfl 9 (by decide) (hq _ pw_1368) (fun _ h9 => h9) (congrArg (fun z => some (va_rf z)) ho11) dX11_type_53 ?_
        refine lv_ifnonnullN hx hb dX11_type_56 ?_
        refine lv_iconst (v := (-1)) hx hb dX11_type_59 (by decide) ?_
        refine lv_goto (tgt := 70) hx hb dX11_type_60 (by decide) ?_
        have hO : OKP G h0 a F (updR R 0 (.ref pq)) Z B J K w := hO.to rfl
        exact W.iret (v := (-1)) hx hb hr (fun t99 ht99 hW99 => ⟨⟨_, (w, ((-1) : Int32)), rfl, ⟨rfl, hO⟩, by rw [ht99]; exact hP, hD⟩, hS.F ht99⟩) hS.2.2 dX11_type_70
      · have hpT := (hwp.2.2.1 d8 hdT).2.2.2.2.1 o10 ho11
        refine p_get (v := .ref o10) (C := RX2) (Tc := TX2) (N := 13) (ci := 2) hx hb hq pin_wsX20 hown hE hP hO (by rw [hdT]; decide) (rep_4 hdT) rfl 9 (by decide) (hq _ pw_1368) (fun _ h9 => h9) (congrArg (fun z => some (va_rf z)) ho11) dX11_type_53 ?_
        refine lv_ifnonnull (tgt := 63) hx hb dX11_type_56 (by decide) ?_
        refine lv_aload_n hx hb dX11_type_63 rfl (lv_at hl 0 rfl) ?_
        refine p_get (v := .ref o10) (C := RX2) (Tc := TX2) (N := 13) (ci := 2) hx hb hq pin_wsX20 hown hE hP hO (by rw [hdT]; decide) (rep_4 hdT) rfl 9 (by decide) (hq _ pw_1368) (fun _ h9 => h9) (congrArg (fun z => some (va_rf z)) ho11) dX11_type_64 ?_
        refine p_get (v := .int (K.2.1 15 o10)) (C := RX2) (Tc := TX2) (N := 13) (ci := 2) hx hb hq pin_wsX20 hown hE hP hO (by rw [hpT]; decide) (rep_4 hpT) rfl 0 (by decide) (hq _ pw_1369) (fun _ h9 => h9) rfl dX11_type_67 ?_
        have hO : OKP G h0 a F (updR R 0 (.ref pq)) Z B J K w := hO.to rfl
        exact W.iret (v := (K.2.1 15 o10)) hx hb hr (fun t99 ht99 hW99 => ⟨⟨_, (w, (K.2.1 15 o10)), rfl, ⟨rfl, hO⟩, by rw [ht99]; exact hP, hD⟩, hS.F ht99⟩) hS.2.2 dX11_type_70
    by_cases h12 : y = 1
    · subst h12
      refine lv_tableIn (tgt := 71) (off := 58) hx hb dX11_type_13 (by decide) (by decide) (by decide) (by decide) ?_
      refine lv_aload_n hx hb dX11_type_71 rfl (lv_at hl 0 rfl) ?_
      refine p_get (v := .ref lm) (C := RX2) (Tc := TX2) (N := 13) (ci := 2) hx hb hq pin_wsX20 hown hE hP hO (by rw [hdT]; decide) (rep_4 hdT) rfl 11 (by decide) (hq _ pw_1370) (fun _ h9 => h9) (congrArg (fun z => some (va_rf z)) hflm) dX11_type_72 ?_
      have hO : OKP G h0 a F (updR R 0 (.ref pq)) Z B J K w := hO.to rfl
      obtain ⟨qr16, hqr17⟩ := p_recv hO (by rw [htlm]; decide) (rep_5 htlm)
      refine pc_V0 (G := G) (As := []) (rest := []) hx hb hml hown hq hE hX pX0_al hP hD hS hA hl.1 (L_size l G h0 a F (updR R 0 (.ref pq)) Z B J K w lm 1 nlm itlm hlclm.ls hO) (gV pw_1377 pw_87 pw_88 pw_32 pw_16) hV_Jx4a65c_size_8abf5 qr16 10 hqr17 rfl rfl rfl (Nat.le_of_ble_eq_true rfl) dX11_type_75 ⟨Nat.le_of_ble_eq_true rfl, Nat.le_of_ble_eq_true rfl⟩ ⟨Nat.le_of_ble_eq_true rfl, Nat.le_of_ble_eq_true rfl⟩ (fun v15 u13 H locs hw14 hP hD hS => ?_)
      obtain ⟨w, _⟩ := u13
      obtain ⟨hw14, hO⟩ := hw14
      obtain rfl : v15 = some (.int (nI nlm)) := hw14
      have hO : OKP G h0 a F (updR R 0 (.ref pq)) Z B J K w := hO.to rfl
      refine W.widen (k := 0) (n := 0) (Nat.le_of_ble_eq_true rfl) (Nat.le_of_ble_eq_true rfl) ?_
      refine W.eq (g2 := F0 m 78 ls [.int (nI nlm)]) rfl ?_
      have hO : OKP G h0 a F (updR R 0 (.ref pq)) Z B J K w := hO.to rfl
      exact W.iret (v := (nI nlm)) hx hb hr (fun t99 ht99 hW99 => ⟨⟨_, (w, (nI nlm)), rfl, ⟨rfl, hO⟩, by rw [ht99]; exact hP, hD⟩, hS.F ht99⟩) hS.2.2 dX11_type_78
    by_cases h18 : y = 2
    · subst h18
      refine lv_tableIn (tgt := 79) (off := 66) hx hb dX11_type_13 (by decide) (by decide) (by decide) (by decide) ?_
      refine lv_aload_n hx hb dX11_type_79 rfl (lv_at hl 0 rfl) ?_
      refine p_get (v := .ref lk) (C := RX2) (Tc := TX2) (N := 13) (ci := 2) hx hb hq pin_wsX20 hown hE hP hO (by rw [hdT]; decide) (rep_4 hdT) rfl 12 (by decide) (hq _ pw_1371) (fun _ h9 => h9) (congrArg (fun z => some (va_rf z)) hflk) dX11_type_80 ?_
      have hO : OKP G h0 a F (updR R 0 (.ref pq)) Z B J K w := hO.to rfl
      obtain ⟨qr22, hqr23⟩ := p_recv hO (by rw [htlk]; decide) (rep_5 htlk)
      refine pc_V0 (G := G) (As := []) (rest := []) hx hb hml hown hq hE hX pX0_al hP hD hS hA hl.1 (L_size l G h0 a F (updR R 0 (.ref pq)) Z B J K w lk 3 nlk itlk hlclk.ls hO) (gV pw_1377 pw_87 pw_88 pw_32 pw_16) hV_Jx4a65c_size_8abf5 qr22 10 hqr23 rfl rfl rfl (Nat.le_of_ble_eq_true rfl) dX11_type_83 ⟨Nat.le_of_ble_eq_true rfl, Nat.le_of_ble_eq_true rfl⟩ ⟨Nat.le_of_ble_eq_true rfl, Nat.le_of_ble_eq_true rfl⟩ (fun v21 u19 H locs hw20 hP hD hS => ?_)
      obtain ⟨w, _⟩ := u19
      obtain ⟨hw20, hO⟩ := hw20
      obtain rfl : v21 = some (.int (nI nlk)) := hw20
      have hO : OKP G h0 a F (updR R 0 (.ref pq)) Z B J K w := hO.to rfl
      refine W.widen (k := 0) (n := 0) (Nat.le_of_ble_eq_true rfl) (Nat.le_of_ble_eq_true rfl) ?_
      refine W.eq (g2 := F0 m 86 ls [.int (nI nlk)]) rfl ?_
      have hO : OKP G h0 a F (updR R 0 (.ref pq)) Z B J K w := hO.to rfl
      exact W.iret (v := (nI nlk)) hx hb hr (fun t99 ht99 hW99 => ⟨⟨_, (w, (nI nlk)), rfl, ⟨rfl, hO⟩, by rw [ht99]; exact hP, hD⟩, hS.F ht99⟩) hS.2.2 dX11_type_86
    by_cases h24 : y = 3
    · subst h24
      refine lv_tableIn (tgt := 87) (off := 74) hx hb dX11_type_13 (by decide) (by decide) (by decide) (by decide) ?_
      refine lv_aload_n hx hb dX11_type_87 rfl (lv_at hl 0 rfl) ?_
      refine p_get (v := .int (K.2.1 18 d8)) (C := RX2) (Tc := TX2) (N := 13) (ci := 2) hx hb hq pin_wsX20 hown hE hP hO (by rw [hdT]; decide) (rep_4 hdT) rfl 3 (by decide) (hq _ pw_1372) (fun _ h9 => h9) rfl dX11_type_88 ?_
      refine lv_if_eq (tgt := 98) hx hb dX11_type_91 (by decide) (fun c25 => ?_) (fun c25 => ?_)
      · refine lv_iconst (v := 0) hx hb dX11_type_98 (by decide) ?_
        have hO : OKP G h0 a F (updR R 0 (.ref pq)) Z B J K w := hO.to rfl
        exact W.iret (v := 0) hx hb hr (fun t99 ht99 hW99 => ⟨⟨_, (w, (0 : Int32)), rfl, ⟨rfl, hO⟩, by rw [ht99]; exact hP, hD⟩, hS.F ht99⟩) hS.2.2 dX11_type_99
      · refine lv_iconst (v := 1) hx hb dX11_type_94 (by decide) ?_
        refine lv_goto (tgt := 99) hx hb dX11_type_95 (by decide) ?_
        have hO : OKP G h0 a F (updR R 0 (.ref pq)) Z B J K w := hO.to rfl
        exact W.iret (v := 1) hx hb hr (fun t99 ht99 hW99 => ⟨⟨_, (w, (1 : Int32)), rfl, ⟨rfl, hO⟩, by rw [ht99]; exact hP, hD⟩, hS.F ht99⟩) hS.2.2 dX11_type_99
    by_cases h26 : y = 4
    · subst h26
      refine lv_tableIn (tgt := 100) (off := 87) hx hb dX11_type_13 (by decide) (by decide) (by decide) (by decide) ?_
      refine lv_aload_n hx hb dX11_type_100 rfl (lv_at hl 0 rfl) ?_
      refine p_get (v := .long (K.2.2.2.1 d8)) (C := RX2) (Tc := TX2) (N := 13) (ci := 2) hx hb hq pin_wsX20 hown hE hP hO (by rw [hdT]; decide) (rep_4 hdT) rfl 10 (by decide) (hq _ pw_1373) (fun _ h9 => h9) rfl dX11_type_101 ?_
      refine pc_SN (G := G) (As := [.long (K.2.2.2.1 d8)]) (rest := []) hx hb hml hown hq hE hX pX0_al hP hS hA hl.1 (s_bitCount l G (K.2.2.2.1 d8)) (gS pw_1378 pw_1379 pw_1380 pw_1364) hS_J13_bitCount_95d88 rfl (Nat.le_of_ble_eq_true rfl) dX11_type_104 ⟨Nat.le_of_ble_eq_true rfl, Nat.le_of_ble_eq_true rfl⟩ ⟨Nat.le_of_ble_eq_true rfl, Nat.le_of_ble_eq_true rfl⟩ (fun v29 u27 H locs hw28 hP hS => ?_)
      obtain ⟨r30, rfl⟩ := hw28
      refine W.widen (k := 0) (n := 0) (Nat.le_of_ble_eq_true rfl) (Nat.le_of_ble_eq_true rfl) ?_
      refine W.eq (g2 := F0 m 107 ls [.int r30]) rfl ?_
      have hO : OKP G h0 a F (updR R 0 (.ref pq)) Z B J K w := hO.to rfl
      exact W.iret (v := r30) hx hb hr (fun t99 ht99 hW99 => ⟨⟨_, (w, r30), rfl, ⟨rfl, hO⟩, by rw [ht99]; exact hP, hD⟩, hS.F ht99⟩) hS.2.2 dX11_type_107
    by_cases h31 : y = 5
    · subst h31
      refine lv_tableIn (tgt := 108) (off := 95) hx hb dX11_type_13 (by decide) (by decide) (by decide) (by decide) ?_
      refine lv_aload_n hx hb dX11_type_108 rfl (lv_at hl 0 rfl) ?_
      refine p_get (v := .int (K.2.1 18 d8)) (C := RX2) (Tc := TX2) (N := 13) (ci := 2) hx hb hq pin_wsX20 hown hE hP hO (by rw [hdT]; decide) (rep_4 hdT) rfl 3 (by decide) (hq _ pw_1372) (fun _ h9 => h9) rfl dX11_type_109 ?_
      refine lv_if_eq (tgt := 119) hx hb dX11_type_112 (by decide) (fun c32 => ?_) (fun c32 => ?_)
      · refine lv_aload_n hx hb dX11_type_119 rfl (lv_at hl 0 rfl) ?_
        have hO : OKP G h0 a F (updR R 0 (.ref pq)) Z B J K w := hO.to rfl
        obtain ⟨qr36, hqr37⟩ := p_recv hO (by rw [hdT]; decide) (rep_4 hdT)
        refine pc_V0 (G := G) (As := []) (rest := []) hx hb hml hown hq hE hX pX0_al hP hD hS hA hl.1 (O_cells l G h0 a F (updR R 0 (.ref pq)) Z B J K w d8 g hdT hwp hO) (gV pw_1381 pw_554 pw_555 pw_146 pw_411) hV_X2_cells qr36 2 hqr37 rfl rfl rfl (Nat.le_of_ble_eq_true rfl) dX11_type_120 ⟨Nat.le_of_ble_eq_true rfl, Nat.le_of_ble_eq_true rfl⟩ ⟨Nat.le_of_ble_eq_true rfl, Nat.le_of_ble_eq_true rfl⟩ (fun v35 u33 H locs hw34 hP hD hS => ?_)
        obtain ⟨w, r38⟩ := u33
        obtain ⟨hw34, hO⟩ := hw34
        obtain rfl : v35 = some (.int r38) := hw34
        have hO : OKP G h0 a F (updR R 0 (.ref pq)) Z B J K w := hO.to rfl
        refine W.widen (k := 0) (n := 0) (Nat.le_of_ble_eq_true rfl) (Nat.le_of_ble_eq_true rfl) ?_
        refine W.eq (g2 := F0 m 123 ls [.int r38]) rfl ?_
        have hO : OKP G h0 a F (updR R 0 (.ref pq)) Z B J K w := hO.to rfl
        exact W.iret (v := r38) hx hb hr (fun t99 ht99 hW99 => ⟨⟨_, (w, r38), rfl, ⟨rfl, hO⟩, by rw [ht99]; exact hP, hD⟩, hS.F ht99⟩) hS.2.2 dX11_type_123
      · refine lv_iconst (v := (-1)) hx hb dX11_type_115 (by decide) ?_
        refine lv_goto (tgt := 123) hx hb dX11_type_116 (by decide) ?_
        have hO : OKP G h0 a F (updR R 0 (.ref pq)) Z B J K w := hO.to rfl
        exact W.iret (v := (-1)) hx hb hr (fun t99 ht99 hW99 => ⟨⟨_, (w, ((-1) : Int32)), rfl, ⟨rfl, hO⟩, by rw [ht99]; exact hP, hD⟩, hS.F ht99⟩) hS.2.2 dX11_type_123
    refine lv_tableOut (tgt := 124) hx hb dX11_type_13 (sw_m0_5 h9 h12 h18 h24 h26 h31) (by decide) ?_
    refine lv_iconst (v := (-1)) hx hb dX11_type_124 (by decide) ?_
    have hO : OKP G h0 a F (updR R 0 (.ref pq)) Z B J K w := hO.to rfl
    exact W.iret (v := (-1)) hx hb hr (fun t99 ht99 hW99 => ⟨⟨_, (w, ((-1) : Int32)), rfl, ⟨rfl, hO⟩, by rw [ht99]; exact hP, hD⟩, hS.F ht99⟩) hS.2.2 dX11_type_125

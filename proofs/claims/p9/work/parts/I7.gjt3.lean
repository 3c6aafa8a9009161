theorem dX11_above_0 : decode cX11_above 0 = .ok (.aload_n 0, 1) := by decide +kernel
theorem dX11_above_1 : decode cX11_above 1 = .ok (.iload_n 1, 1) := by decide +kernel
theorem dX11_above_2 : decode cX11_above 2 = .ok (.invokevirtual 95, 3) := by decide +kernel
theorem dX11_above_5 : decode cX11_above 5 = .ok (.ifnull 11, 3) := by decide +kernel
theorem dX11_above_16 : decode cX11_above 16 = .ok (.iconst (-1), 1) := by decide +kernel
theorem dX11_above_17 : decode cX11_above 17 = .ok (.ireturn, 1) := by decide +kernel
set_option maxHeartbeats 2000000 in
set_option maxRecDepth 100000 in
theorem J_aboveN (l : Launch) (G : pT) (h0 : Nat) (a : Nat → Nat) (F : Nat → Int32) (R : Nat → Value) (Z : Int64) (B : Nat → Nat → Int32) (J : Nat → Nat → Int64) (T : Nat → Nat) (Pi : Nat → va_E → Prop) (w : va_W) (x : Int32) (y : Int32) (hO : OKW G h0 a F (updR R 0 (.null)) Z B J T Pi w) : PM l G pX0 yX11_above cX11_above 3 (some .int) ({ frames := 3, cells := 0, slots := 0, locals := 81 }) [.ref h0, .int x, .int y] w (fun (v : Option Value) (u : va_W × (Int32)) => v = some (.int u.2) ∧ (OKW G h0 a F (updR R 0 (.null)) Z B J T Pi u.1)) (fun u => u.1) := by
  intro sz
  refine Met.ofW (cc := cX11_above) (maxL := 3) (ret := (some .int)) (by decide) rfl ?_
  intro p e s m args below meth c s₁ B9 hml hv
  obtain ⟨rfl, hsz, hP, hD0, hE, hX⟩ := hv
  have hx := B9.exec
  have hb := B9.bytes
  have hr := B9.returns
  have hts := atoms_spec (ws := Cond.code yX11_above cX11_above 3 (some .int) :: pw) B9.pre
  have hq : ∀ w ∈ pw, w.before _ s = true := fun w h => hts w (List.mem_cons_of_mem _ h)
  have hown : s.vm.findClass RX11 = some m.cls := findClass_of_methodNamed B9.named
  have hlocks := B9.notSynchronized
  subst hsz
  have hD := hD0.self (sz := s.heap.size)
  have hA : ∀ q : Nat, s.heap.size ≤ q → va_A w s.heap.size q := fun q h => Or.inr h
  generalize va_A w s.heap.size = A at hD hE hA ⊢
  have hS : va_S A s.heap s.heap [] := va_S.rf
  have hl := lv_entry ([.ref h0, .int x, .int y]) (n := 3) (Nat.le_of_ble_eq_true rfl)
  rw [lg_entry_eq]
  generalize (lg_sl ([.ref h0, .int x, .int y]) ++ List.replicate (3 - (lg_sl ([.ref h0, .int x, .int y])).length) Slot.unset).toArray = ls at hl ⊢
  have hl : lv_has ls 3 [(0, .ref h0), (1, .int x), (2, .int y)] := hl
  refine lv_aload_n hx hb dX11_above_0 rfl (lv_at hl 0 rfl) ?_
  refine lv_iload_n hx hb dX11_above_1 rfl (lv_at hl 1 rfl) ?_
  have hO : OKW G h0 a F (updR (updR R 0 (.null)) 0 (.null)) Z B J T Pi w := hO.to rfl
  obtain ⟨_, qr4, hqr5⟩ := hO.2.1 0 _ (sg_0 G h0 a _ _ _ _ _)
  refine pc_V0 (G := G) (As := [.int x]) (rest := []) hx hb hml hown hq hE hX pX0_al hP hD hS hA hl.1 (J_declaredN l G h0 a F (updR R 0 (.null)) Z B J T Pi w x hO) (gV pw_1374 pw_1375 pw_1376 pw_1339 pw_1362) hV_X11_declared qr4 8 hqr5 rfl rfl rfl (Nat.le_of_ble_eq_true rfl) dX11_above_2 ⟨Nat.le_of_ble_eq_true rfl, Nat.le_of_ble_eq_true rfl⟩ ⟨Nat.le_of_ble_eq_true rfl, Nat.le_of_ble_eq_true rfl⟩ (fun v3 u1 H locs hw2 hP hD hS => ?_)
  obtain ⟨w, _⟩ := u1
  obtain ⟨hw2, hO⟩ := hw2
  obtain rfl : v3 = some (.null) := hw2
  have hO : OKW G h0 a F (updR R 0 (.null)) Z B J T Pi w := hO.to rfl
  refine W.widen (k := 0) (n := 0) (Nat.le_of_ble_eq_true rfl) (Nat.le_of_ble_eq_true rfl) ?_
  refine W.eq (g2 := F0 m 5 ls [.null]) rfl ?_
  refine lv_ifnullN (tgt := 16) hx hb dX11_above_5 (by decide) ?_
  refine lv_iconst (v := (-1)) hx hb dX11_above_16 (by decide) ?_
  have hO : OKW G h0 a F (updR R 0 (.null)) Z B J T Pi w := hO.to rfl
  exact W.iret (v := (-1)) hx hb hr (fun t99 ht99 hW99 => ⟨⟨_, (w, ((-1) : Int32)), rfl, ⟨rfl, hO⟩, by rw [ht99]; exact hP, hD⟩, hS.F ht99⟩) hS.2.2 dX11_above_17
theorem dX11_called_0 : decode cX11_called 0 = .ok (.aload_n 0, 1) := by decide +kernel
theorem dX11_called_1 : decode cX11_called 1 = .ok (.iload_n 1, 1) := by decide +kernel
theorem dX11_called_2 : decode cX11_called 2 = .ok (.invokevirtual 95, 3) := by decide +kernel
theorem dX11_called_5 : decode cX11_called 5 = .ok (.astore_n 3, 1) := by decide +kernel
theorem dX11_called_6 : decode cX11_called 6 = .ok (.aload_n 0, 1) := by decide +kernel
theorem dX11_called_7 : decode cX11_called 7 = .ok (.getfield 69, 3) := by decide +kernel
theorem dX11_called_10 : decode cX11_called 10 = .ok (.ifnonnull 7, 3) := by decide +kernel
theorem dX11_called_13 : decode cX11_called 13 = .ok (.aconst_null, 1) := by decide +kernel
theorem dX11_called_14 : decode cX11_called 14 = .ok (.goto 11, 3) := by decide +kernel
theorem dX11_called_25 : decode cX11_called 25 = .ok (.astore 4, 2) := by decide +kernel
theorem dX11_called_27 : decode cX11_called 27 = .ok (.aload_n 3, 1) := by decide +kernel
theorem dX11_called_28 : decode cX11_called 28 = .ok (.ifnull 15, 3) := by decide +kernel
theorem dX11_called_43 : decode cX11_called 43 = .ok (.iconst (-1), 1) := by decide +kernel
theorem dX11_called_44 : decode cX11_called 44 = .ok (.ireturn, 1) := by decide +kernel
set_option maxHeartbeats 2000000 in
set_option maxRecDepth 100000 in
theorem J_calledN (l : Launch) (G : pT) (h0 : Nat) (a : Nat → Nat) (F : Nat → Int32) (R : Nat → Value) (Z : Int64) (B : Nat → Nat → Int32) (J : Nat → Nat → Int64) (T : Nat → Nat) (Pi : Nat → va_E → Prop) (w : va_W) (x : Int32) (y : Int32) (hO : OKW G h0 a F (updR R 0 (.null)) Z B J T Pi w) : PM l G pX0 yX11_called cX11_called 6 (some .int) ({ frames := 3, cells := 0, slots := 0, locals := 81 }) [.ref h0, .int x, .int y] w (fun (v : Option Value) (u : va_W × (Int32)) => v = some (.int u.2) ∧ (OKW G h0 a F (updR R 0 (.null)) Z B J T Pi u.1)) (fun u => u.1) := by
  intro sz
  refine Met.ofW (cc := cX11_called) (maxL := 6) (ret := (some .int)) (by decide) rfl ?_
  intro p e s m args below meth c s₁ B9 hml hv
  obtain ⟨rfl, hsz, hP, hD0, hE, hX⟩ := hv
  have hx := B9.exec
  have hb := B9.bytes
  have hr := B9.returns
  have hts := atoms_spec (ws := Cond.code yX11_called cX11_called 6 (some .int) :: pw) B9.pre
  have hq : ∀ w ∈ pw, w.before _ s = true := fun w h => hts w (List.mem_cons_of_mem _ h)
  have hown : s.vm.findClass RX11 = some m.cls := findClass_of_methodNamed B9.named
  have hlocks := B9.notSynchronized
  subst hsz
  have hD := hD0.self (sz := s.heap.size)
  have hA : ∀ q : Nat, s.heap.size ≤ q → va_A w s.heap.size q := fun q h => Or.inr h
  generalize va_A w s.heap.size = A at hD hE hA ⊢
  have hS : va_S A s.heap s.heap [] := va_S.rf
  have hl := lv_entry ([.ref h0, .int x, .int y]) (n := 6) (Nat.le_of_ble_eq_true rfl)
  rw [lg_entry_eq]
  generalize (lg_sl ([.ref h0, .int x, .int y]) ++ List.replicate (6 - (lg_sl ([.ref h0, .int x, .int y])).length) Slot.unset).toArray = ls at hl ⊢
  have hl : lv_has ls 6 [(0, .ref h0), (1, .int x), (2, .int y)] := hl
  refine lv_aload_n hx hb dX11_called_0 rfl (lv_at hl 0 rfl) ?_
  refine lv_iload_n hx hb dX11_called_1 rfl (lv_at hl 1 rfl) ?_
  have hO : OKW G h0 a F (updR (updR R 0 (.null)) 0 (.null)) Z B J T Pi w := hO.to rfl
  obtain ⟨_, qr4, hqr5⟩ := hO.2.1 0 _ (sg_0 G h0 a _ _ _ _ _)
  refine pc_V0 (G := G) (As := [.int x]) (rest := []) hx hb hml hown hq hE hX pX0_al hP hD hS hA hl.1 (J_declaredN l G h0 a F (updR R 0 (.null)) Z B J T Pi w x hO) (gV pw_1374 pw_1375 pw_1376 pw_1339 pw_1362) hV_X11_declared qr4 8 hqr5 rfl rfl rfl (Nat.le_of_ble_eq_true rfl) dX11_called_2 ⟨Nat.le_of_ble_eq_true rfl, Nat.le_of_ble_eq_true rfl⟩ ⟨Nat.le_of_ble_eq_true rfl, Nat.le_of_ble_eq_true rfl⟩ (fun v3 u1 H locs hw2 hP hD hS => ?_)
  obtain ⟨w, _⟩ := u1
  obtain ⟨hw2, hO⟩ := hw2
  obtain rfl : v3 = some (.null) := hw2
  have hO : OKW G h0 a F (updR R 0 (.null)) Z B J T Pi w := hO.to rfl
  refine W.widen (k := 0) (n := 0) (Nat.le_of_ble_eq_true rfl) (Nat.le_of_ble_eq_true rfl) ?_
  refine W.eq (g2 := F0 m 5 ls [.null]) rfl ?_
  refine lv_astore_nN (lv' := [(3, .null), (0, .ref h0), (1, .int x), (2, .int y)]) hx hb dX11_called_5 rfl hl (by decide) rfl (fun ls hl => ?_)
  refine lv_aload_n hx hb dX11_called_6 rfl (lv_at hl 1 rfl) ?_
  refine c_get (v := .null) (C := RX11) (Tc := TX11) (N := 8) (ci := 8) hx hb hq pin_wsX110 hown hE hP hO 0 (sg_0 G h0 a _ _ _ _ _) rfl 7 (by decide) (hq _ pw_1342) (fun _ h9 => h9) rfl dX11_called_7 ?_
  refine lv_ifnonnullN hx hb dX11_called_10 ?_
  refine lv_null hx hb dX11_called_13 ?_
  refine lv_goto (tgt := 25) hx hb dX11_called_14 (by decide) ?_
  refine lv_astoreN (lv' := [(4, .null), (3, .null), (0, .ref h0), (1, .int x), (2, .int y)]) hx hb dX11_called_25 hl (by decide) rfl (fun ls hl => ?_)
  refine lv_aload_nN hx hb dX11_called_27 rfl (lv_at hl 1 rfl) ?_
  refine lv_ifnullN (tgt := 43) hx hb dX11_called_28 (by decide) ?_
  refine lv_iconst (v := (-1)) hx hb dX11_called_43 (by decide) ?_
  have hO : OKW G h0 a F (updR R 0 (.null)) Z B J T Pi w := hO.to rfl
  exact W.iret (v := (-1)) hx hb hr (fun t99 ht99 hW99 => ⟨⟨_, (w, ((-1) : Int32)), rfl, ⟨rfl, hO⟩, by rw [ht99]; exact hP, hD⟩, hS.F ht99⟩) hS.2.2 dX11_called_44
theorem dX11_letter_0 : decode cX11_letter 0 = .ok (.aload_n 0, 1) := by decide +kernel
theorem dX11_letter_1 : decode cX11_letter 1 = .ok (.iload_n 1, 1) := by decide +kernel
theorem dX11_letter_2 : decode cX11_letter 2 = .ok (.invokevirtual 95, 3) := by decide +kernel
theorem dX11_letter_5 : decode cX11_letter 5 = .ok (.astore_n 3, 1) := by decide +kernel
theorem dX11_letter_6 : decode cX11_letter 6 = .ok (.aload_n 3, 1) := by decide +kernel
theorem dX11_letter_7 : decode cX11_letter 7 = .ok (.ifnonnull 7, 3) := by decide +kernel
theorem dX11_letter_10 : decode cX11_letter 10 = .ok (.iconst (-1), 1) := by decide +kernel
theorem dX11_letter_11 : decode cX11_letter 11 = .ok (.goto 15, 3) := by decide +kernel
theorem dX11_letter_26 : decode cX11_letter 26 = .ok (.ireturn, 1) := by decide +kernel
set_option maxHeartbeats 2000000 in
set_option maxRecDepth 100000 in
theorem J_letterN (l : Launch) (G : pT) (h0 : Nat) (a : Nat → Nat) (F : Nat → Int32) (R : Nat → Value) (Z : Int64) (B : Nat → Nat → Int32) (J : Nat → Nat → Int64) (T : Nat → Nat) (Pi : Nat → va_E → Prop) (w : va_W) (x : Int32) (y : Int32) (hO : OKW G h0 a F (updR R 0 (.null)) Z B J T Pi w) : PM l G pX0 yX11_letter cX11_letter 4 (some .int) ({ frames := 3, cells := 0, slots := 0, locals := 81 }) [.ref h0, .int x, .int y] w (fun (v : Option Value) (u : va_W × (Int32)) => v = some (.int u.2) ∧ (OKW G h0 a F (updR R 0 (.null)) Z B J T Pi u.1)) (fun u => u.1) := by
  intro sz
  refine Met.ofW (cc := cX11_letter) (maxL := 4) (ret := (some .int)) (by decide) rfl ?_
  intro p e s m args below meth c s₁ B9 hml hv
  obtain ⟨rfl, hsz, hP, hD0, hE, hX⟩ := hv
  have hx := B9.exec
  have hb := B9.bytes
  have hr := B9.returns
  have hts := atoms_spec (ws := Cond.code yX11_letter cX11_letter 4 (some .int) :: pw) B9.pre
  have hq : ∀ w ∈ pw, w.before _ s = true := fun w h => hts w (List.mem_cons_of_mem _ h)
  have hown : s.vm.findClass RX11 = some m.cls := findClass_of_methodNamed B9.named
  have hlocks := B9.notSynchronized
  subst hsz
  have hD := hD0.self (sz := s.heap.size)
  have hA : ∀ q : Nat, s.heap.size ≤ q → va_A w s.heap.size q := fun q h => Or.inr h
  generalize va_A w s.heap.size = A at hD hE hA ⊢
  have hS : va_S A s.heap s.heap [] := va_S.rf
  have hl := lv_entry ([.ref h0, .int x, .int y]) (n := 4) (Nat.le_of_ble_eq_true rfl)
  rw [lg_entry_eq]
  generalize (lg_sl ([.ref h0, .int x, .int y]) ++ List.replicate (4 - (lg_sl ([.ref h0, .int x, .int y])).length) Slot.unset).toArray = ls at hl ⊢
  have hl : lv_has ls 4 [(0, .ref h0), (1, .int x), (2, .int y)] := hl
  refine lv_aload_n hx hb dX11_letter_0 rfl (lv_at hl 0 rfl) ?_
  refine lv_iload_n hx hb dX11_letter_1 rfl (lv_at hl 1 rfl) ?_
  have hO : OKW G h0 a F (updR (updR R 0 (.null)) 0 (.null)) Z B J T Pi w := hO.to rfl
  obtain ⟨_, qr4, hqr5⟩ := hO.2.1 0 _ (sg_0 G h0 a _ _ _ _ _)
  refine pc_V0 (G := G) (As := [.int x]) (rest := []) hx hb hml hown hq hE hX pX0_al hP hD hS hA hl.1 (J_declaredN l G h0 a F (updR R 0 (.null)) Z B J T Pi w x hO) (gV pw_1374 pw_1375 pw_1376 pw_1339 pw_1362) hV_X11_declared qr4 8 hqr5 rfl rfl rfl (Nat.le_of_ble_eq_true rfl) dX11_letter_2 ⟨Nat.le_of_ble_eq_true rfl, Nat.le_of_ble_eq_true rfl⟩ ⟨Nat.le_of_ble_eq_true rfl, Nat.le_of_ble_eq_true rfl⟩ (fun v3 u1 H locs hw2 hP hD hS => ?_)
  obtain ⟨w, _⟩ := u1
  obtain ⟨hw2, hO⟩ := hw2
  obtain rfl : v3 = some (.null) := hw2
  have hO : OKW G h0 a F (updR R 0 (.null)) Z B J T Pi w := hO.to rfl
  refine W.widen (k := 0) (n := 0) (Nat.le_of_ble_eq_true rfl) (Nat.le_of_ble_eq_true rfl) ?_
  refine W.eq (g2 := F0 m 5 ls [.null]) rfl ?_
  refine lv_astore_nN (lv' := [(3, .null), (0, .ref h0), (1, .int x), (2, .int y)]) hx hb dX11_letter_5 rfl hl (by decide) rfl (fun ls hl => ?_)
  refine lv_aload_nN hx hb dX11_letter_6 rfl (lv_at hl 0 rfl) ?_
  refine lv_ifnonnullN hx hb dX11_letter_7 ?_
  refine lv_iconst (v := (-1)) hx hb dX11_letter_10 (by decide) ?_
  refine lv_goto (tgt := 26) hx hb dX11_letter_11 (by decide) ?_
  have hO : OKW G h0 a F (updR R 0 (.null)) Z B J T Pi w := hO.to rfl
  exact W.iret (v := (-1)) hx hb hr (fun t99 ht99 hW99 => ⟨⟨_, (w, ((-1) : Int32)), rfl, ⟨rfl, hO⟩, by rw [ht99]; exact hP, hD⟩, hS.F ht99⟩) hS.2.2 dX11_letter_26
theorem dX11_above_8 : decode cX11_above 8 = .ok (.aload_n 0, 1) := by decide +kernel
theorem dX11_above_9 : decode cX11_above 9 = .ok (.iload_n 2, 1) := by decide +kernel
theorem dX11_above_10 : decode cX11_above 10 = .ok (.invokevirtual 95, 3) := by decide +kernel
theorem dX11_above_13 : decode cX11_above 13 = .ok (.ifnonnull 5, 3) := by decide +kernel
theorem dX11_above_18 : decode cX11_above 18 = .ok (.iload_n 1, 1) := by decide +kernel
theorem dX11_above_19 : decode cX11_above 19 = .ok (.iload_n 2, 1) := by decide +kernel
theorem dX11_above_20 : decode cX11_above 20 = .ok (.if_icmp .eq 15, 3) := by decide +kernel
theorem dX11_above_35 : decode cX11_above 35 = .ok (.iconst 1, 1) := by decide +kernel
theorem dX11_above_36 : decode cX11_above 36 = .ok (.goto 4, 3) := by decide +kernel
theorem dX11_above_40 : decode cX11_above 40 = .ok (.ireturn, 1) := by decide +kernel
theorem dX11_above_23 : decode cX11_above 23 = .ok (.aload_n 0, 1) := by decide +kernel
theorem dX11_above_24 : decode cX11_above 24 = .ok (.getfield 69, 3) := by decide +kernel
theorem dX11_above_27 : decode cX11_above 27 = .ok (.iload_n 1, 1) := by decide +kernel
theorem dX11_above_28 : decode cX11_above 28 = .ok (.iload_n 2, 1) := by decide +kernel
theorem dX11_above_29 : decode cX11_above 29 = .ok (.invokevirtual 137, 3) := by decide +kernel
theorem dX11_above_32 : decode cX11_above 32 = .ok (.ifCond .eq 7, 3) := by decide +kernel
theorem dX11_above_39 : decode cX11_above 39 = .ok (.iconst 0, 1) := by decide +kernel
set_option maxHeartbeats 20000000 in
set_option maxRecDepth 100000 in
theorem J_above (l : Launch) (G : pT) (h0 : Nat) (a : Nat → Nat) (F : Nat → Int32) (R : Nat → Value) (Z : Int64) (B : Nat → Nat → Int32) (J : Nat → Nat → Int64) (K : PK) (w : va_W) (x : Int32) (y : Int32) (pq : Nat) (dr : Nat) (ml : Nat) (nd : Nat) (nm : Nat) (cp : Nat) (it : Nat → Nat) (s9 : Nat) (g : Nat → Nat → Nat) (rk : Nat → Nat) (hwp : WPr G K g) (hps : PgT G K g (a 1) pq dr ml nd nm cp it s9) (hrk : RkO K rk) (hO : OKP G h0 a F (updR R 0 (.ref pq)) Z B J K w) : PM l G pX0 yX11_above cX11_above 3 (some .int) ({ frames := 4, cells := 0, slots := 0, locals := 102 }) [.ref h0, .int x, .int y] w (fun (v : Option Value) (u : va_W × (Int32)) => v = some (.int u.2) ∧ (OKP G h0 a F (updR R 0 (.ref pq)) Z B J K u.1)) (fun u => u.1) := by
  intro sz
  refine Met.ofW (cc := cX11_above) (maxL := 3) (ret := (some .int)) (by decide) rfl ?_
  intro p e s m args below meth c s₁ B9 hml hv
  obtain ⟨rfl, hsz, hP, hD0, hE, hX⟩ := hv
  have hx := B9.exec
  have hb := B9.bytes
  have hr := B9.returns
  have hts := atoms_spec (ws := Cond.code yX11_above cX11_above 3 (some .int) :: pw) B9.pre
  have hq : ∀ w ∈ pw, w.before _ s = true := fun w h => hts w (List.mem_cons_of_mem _ h)
  have hown : s.vm.findClass RX11 = some m.cls := findClass_of_methodNamed B9.named
  have hlocks := B9.notSynchronized
  subst hsz
  have hD := hD0.self (sz := s.heap.size)
  have hA : ∀ q : Nat, s.heap.size ≤ q → va_A w s.heap.size q := fun q h => Or.inr h
  generalize va_A w s.heap.size = A at hD hE hA ⊢
  have hS : va_S A s.heap s.heap [] := va_S.rf
  have hl := lv_entry ([.ref h0, .int x, .int y]) (n := 3) (Nat.le_of_ble_eq_true rfl)
  rw [lg_entry_eq]
  generalize (lg_sl ([.ref h0, .int x, .int y]) ++ List.replicate (3 - (lg_sl ([.ref h0, .int x, .int y])).length) Slot.unset).toArray = ls at hl ⊢
  have hl : lv_has ls 3 [(0, .ref h0), (1, .int x), (2, .int y)] := hl
  have hpg := hps.1
  have hp1 := hpg.1
  have hp2 := hpg.2.1
  have hp3 := hpg.2.2.1
  have hp4 := hpg.2.2.2.1
  have hp5 := hpg.2.2.2.2.1
  have hp6 := hpg.2.2.2.2.2.1
  have hp8 := hpg.2.2.2.2.2.2.2.1
  have hp9 := hpg.2.2.2.2.2.2.2.2
  refine lv_aload_n hx hb dX11_above_0 rfl (lv_at hl 0 rfl) ?_
  refine lv_iload_n hx hb dX11_above_1 rfl (lv_at hl 1 rfl) ?_
  have hO : OKP G h0 a F (updR (updR R 0 (.ref pq)) 0 (.ref pq)) Z B J K w := hO.to rfl
  obtain ⟨_, qr4, hqr5⟩ := hO.2.1 0 _ (sg_0 G h0 a _ _ _ _ _)
  refine pc_V0 (G := G) (As := [.int x]) (rest := []) hx hb hml hown hq hE hX pX0_al hP hD hS hA hl.1 (J_declared l G h0 a F (updR R 0 (.ref pq)) Z B J K w x pq dr ml nd nm cp it s9 g rk hwp hps hrk hO) (gV pw_1374 pw_1375 pw_1376 pw_1339 pw_1362) hV_X11_declared qr4 8 hqr5 rfl rfl rfl (Nat.le_of_ble_eq_true rfl) dX11_above_2 ⟨Nat.le_of_ble_eq_true rfl, Nat.le_of_ble_eq_true rfl⟩ ⟨Nat.le_of_ble_eq_true rfl, Nat.le_of_ble_eq_true rfl⟩ (fun v3 u1 H locs hw2 hP hD hS => ?_)
  obtain ⟨w, o6⟩ := u1
  obtain ⟨hw2, h7, hO⟩ := hw2
  have h7 : DoN K o6 := h7
  obtain rfl : v3 = some ((va_rf o6)) := hw2
  have hO : OKP G h0 a F (updR R 0 (.ref pq)) Z B J K w := hO.to rfl
  refine W.widen (k := 0) (n := 0) (Nat.le_of_ble_eq_true rfl) (Nat.le_of_ble_eq_true rfl) ?_
  refine W.eq (g2 := F0 m 5 ls [(va_rf o6)]) rfl ?_
  rcases o6 with _ | d8
  · have hl : lv_has ls 3 [(0, .ref h0), (1, .int x), (2, .int y)] := hl
    refine W.eq (g2 := F0 m 5 ls [.null]) rfl ?_
    refine lv_ifnullN (tgt := 16) hx hb dX11_above_5 (by decide) ?_
    refine lv_iconst (v := (-1)) hx hb dX11_above_16 (by decide) ?_
    have hO : OKP G h0 a F (updR R 0 (.ref pq)) Z B J K w := hO.to rfl
    exact W.iret (v := (-1)) hx hb hr (fun t99 ht99 hW99 => ⟨⟨_, (w, ((-1) : Int32)), rfl, ⟨rfl, hO⟩, by rw [ht99]; exact hP, hD⟩, hS.F ht99⟩) hS.2.2 dX11_above_17
  · have hl : lv_has ls 3 [(0, .ref h0), (1, .int x), (2, .int y)] := hl
    refine W.eq (g2 := F0 m 5 ls [.ref d8]) rfl ?_
    have hf9 := h7 d8 rfl
    refine lv_ifnull hx hb dX11_above_5 ?_
    refine lv_aload_n hx hb dX11_above_8 rfl (lv_at hl 0 rfl) ?_
    refine lv_iload_n hx hb dX11_above_9 rfl (lv_at hl 2 rfl) ?_
    have hO : OKP G h0 a F (updR (updR R 0 (.ref pq)) 0 (.ref pq)) Z B J K w := hO.to rfl
    obtain ⟨_, qr13, hqr14⟩ := hO.2.1 0 _ (sg_0 G h0 a _ _ _ _ _)
    refine pc_V0 (G := G) (As := [.int y]) (rest := []) hx hb hml hown hq hE hX pX0_al hP hD hS hA hl.1 (J_declared l G h0 a F (updR R 0 (.ref pq)) Z B J K w y pq dr ml nd nm cp it s9 g rk hwp hps hrk hO) (gV pw_1374 pw_1375 pw_1376 pw_1339 pw_1362) hV_X11_declared qr13 8 hqr14 rfl rfl rfl (Nat.le_of_ble_eq_true rfl) dX11_above_10 ⟨Nat.le_of_ble_eq_true rfl, Nat.le_of_ble_eq_true rfl⟩ ⟨Nat.le_of_ble_eq_true rfl, Nat.le_of_ble_eq_true rfl⟩ (fun v12 u10 H locs hw11 hP hD hS => ?_)
    obtain ⟨w, o15⟩ := u10
    obtain ⟨hw11, h16, hO⟩ := hw11
    have h16 : DoN K o15 := h16
    obtain rfl : v12 = some ((va_rf o15)) := hw11
    have hO : OKP G h0 a F (updR R 0 (.ref pq)) Z B J K w := hO.to rfl
    refine W.widen (k := 0) (n := 0) (Nat.le_of_ble_eq_true rfl) (Nat.le_of_ble_eq_true rfl) ?_
    refine W.eq (g2 := F0 m 13 ls [(va_rf o15)]) rfl ?_
    rcases o15 with _ | d17
    · have hl : lv_has ls 3 [(0, .ref h0), (1, .int x), (2, .int y)] := hl
      refine W.eq (g2 := F0 m 13 ls [.null]) rfl ?_
      refine lv_ifnonnullN hx hb dX11_above_13 ?_
      refine lv_iconst (v := (-1)) hx hb dX11_above_16 (by decide) ?_
      have hO : OKP G h0 a F (updR R 0 (.ref pq)) Z B J K w := hO.to rfl
      exact W.iret (v := (-1)) hx hb hr (fun t99 ht99 hW99 => ⟨⟨_, (w, ((-1) : Int32)), rfl, ⟨rfl, hO⟩, by rw [ht99]; exact hP, hD⟩, hS.F ht99⟩) hS.2.2 dX11_above_17
    · have hl : lv_has ls 3 [(0, .ref h0), (1, .int x), (2, .int y)] := hl
      refine W.eq (g2 := F0 m 13 ls [.ref d17]) rfl ?_
      have hf18 := h16 d17 rfl
      refine lv_ifnonnull (tgt := 18) hx hb dX11_above_13 (by decide) ?_
      refine lv_iload_n hx hb dX11_above_18 rfl (lv_at hl 1 rfl) ?_
      refine lv_iload_n hx hb dX11_above_19 rfl (lv_at hl 2 rfl) ?_
      refine lv_icmp_eq (tgt := 35) hx hb dX11_above_20 (by decide) (fun c19 => ?_) (fun c19 => ?_)
      · refine lv_iconst (v := 1) hx hb dX11_above_35 (by decide) ?_
        refine lv_goto (tgt := 40) hx hb dX11_above_36 (by decide) ?_
        have hO : OKP G h0 a F (updR R 0 (.ref pq)) Z B J K w := hO.to rfl
        exact W.iret (v := 1) hx hb hr (fun t99 ht99 hW99 => ⟨⟨_, (w, (1 : Int32)), rfl, ⟨rfl, hO⟩, by rw [ht99]; exact hP, hD⟩, hS.F ht99⟩) hS.2.2 dX11_above_40
      · refine lv_aload_n hx hb dX11_above_23 rfl (lv_at hl 0 rfl) ?_
        refine c_get (v := .ref pq) (C := RX11) (Tc := TX11) (N := 8) (ci := 8) hx hb hq pin_wsX110 hown hE hP hO 0 (sg_0 G h0 a _ _ _ _ _) rfl 7 (by decide) (hq _ pw_1342) (fun _ h9 => h9) rfl dX11_above_24 ?_
        refine lv_iload_n hx hb dX11_above_27 rfl (lv_at hl 1 rfl) ?_
        refine lv_iload_n hx hb dX11_above_28 rfl (lv_at hl 2 rfl) ?_
        have hO : OKP G h0 a F (updR R 0 (.ref pq)) Z B J K w := hO.to rfl
        obtain ⟨qr23, hqr24⟩ := p_recv hO (by rw [hp1]; decide) (rep_7 hp1)
        refine pc_V0 (G := G) (As := [.int x, .int y]) (rest := []) hx hb hml hown hq hE hX pX0_al hP hD hS hA hl.1 (G_isAbove l G h0 a F (updR R 0 (.ref pq)) Z B J K w pq dr ml nd x y g hps.1 hps.2.1 hO) (gV pw_1384 pw_108 pw_109 pw_106 pw_101) hV_X9_isAbove qr23 6 hqr24 rfl rfl rfl (Nat.le_of_ble_eq_true rfl) dX11_above_29 ⟨Nat.le_of_ble_eq_true rfl, Nat.le_of_ble_eq_true rfl⟩ ⟨Nat.le_of_ble_eq_true rfl, Nat.le_of_ble_eq_true rfl⟩ (fun v22 u20 H locs hw21 hP hD hS => ?_)
        obtain ⟨w, r25⟩ := u20
        obtain ⟨hw21, h26, h27, hO⟩ := hw21
        have h26 : r25 ≤ 1 := h26
        have h27 : AbQ K dr nd x y r25 := h27
        obtain rfl : v22 = some (.int (nI r25)) := hw21
        have hO : OKP G h0 a F (updR R 0 (.ref pq)) Z B J K w := hO.to rfl
        refine W.widen (k := 0) (n := 0) (Nat.le_of_ble_eq_true rfl) (Nat.le_of_ble_eq_true rfl) ?_
        refine W.eq (g2 := F0 m 32 ls [.int (nI r25)]) rfl ?_
        refine lv_if_eq (tgt := 39) hx hb dX11_above_32 (by decide) (fun c28 => ?_) (fun c28 => ?_)
        · have n29 : r25 = 0 := (nI_eq (a := r25) (b := 0) (by omega) (by omega)).mp c28
          refine lv_iconst (v := 0) hx hb dX11_above_39 (by decide) ?_
          have hO : OKP G h0 a F (updR R 0 (.ref pq)) Z B J K w := hO.to rfl
          exact W.iret (v := 0) hx hb hr (fun t99 ht99 hW99 => ⟨⟨_, (w, (0 : Int32)), rfl, ⟨rfl, hO⟩, by rw [ht99]; exact hP, hD⟩, hS.F ht99⟩) hS.2.2 dX11_above_40
        · have n30 : ¬ (r25 = 0) := fun h9 => c28 ((nI_eq (a := r25) (b := 0) (by omega) (by omega)).mpr h9)
          refine lv_iconst (v := 1) hx hb dX11_above_35 (by decide) ?_
          refine lv_goto (tgt := 40) hx hb dX11_above_36 (by decide) ?_
          have hO : OKP G h0 a F (updR R 0 (.ref pq)) Z B J K w := hO.to rfl
          exact W.iret (v := 1) hx hb hr (fun t99 ht99 hW99 => ⟨⟨_, (w, (1 : Int32)), rfl, ⟨rfl, hO⟩, by rw [ht99]; exact hP, hD⟩, hS.F ht99⟩) hS.2.2 dX11_above_40
theorem dX11_letter_14 : decode cX11_letter 14 = .ok (.aload_n 0, 1) := by decide +kernel
theorem dX11_letter_15 : decode cX11_letter 15 = .ok (.getfield 16, 3) := by decide +kernel
theorem dX11_letter_18 : decode cX11_letter 18 = .ok (.aload_n 3, 1) := by decide +kernel
theorem dX11_letter_19 : decode cX11_letter 19 = .ok (.getfield 141, 3) := by decide +kernel
theorem dX11_letter_22 : decode cX11_letter 22 = .ok (.iload_n 2, 1) := by decide +kernel
theorem dX11_letter_23 : decode cX11_letter 23 = .ok (.invokevirtual 144, 3) := by decide +kernel
theorem hV_X10_letterOf : yX10_letterOf.cls = RX10 ∧ yX10_letterOf.cls ≠ "java/lang/invoke/MethodHandle" ∧ yX10_letterOf.cls ≠ "java/lang/invoke/VarHandle" ∧ (parseMethodDescriptor yX10_letterOf.desc).map (fun d => d.parameters.length) = some 2 := by decide +kernel
set_option maxHeartbeats 20000000 in
set_option maxRecDepth 100000 in
theorem J_letter (l : Launch) (G : pT) (h0 : Nat) (a : Nat → Nat) (F : Nat → Int32) (R : Nat → Value) (Z : Int64) (B : Nat → Nat → Int32) (J : Nat → Nat → Int64) (K : PK) (w : va_W) (x : Int32) (y : Int32) (nz : Nat) (ns : Nat → Int32) (nl : Nat → Int32) (nn : Nat → Int32) (bk : Nat → Int32) (pq : Nat) (dr : Nat) (ml : Nat) (nd : Nat) (nm : Nat) (cp : Nat) (it : Nat → Nat) (s9 : Nat) (g : Nat → Nat → Nat) (rk : Nat → Nat) (hwp : WPr G K g) (hps : PgT G K g (a 1) pq dr ml nd nm cp it s9) (hrk : RkO K rk) (hnm : NmR nz ns nl nn bk) (hO : OKP G h0 a (upd F 3 (nI nz)) (updR R 0 (.ref pq)) Z (updA (updA (updA (updA B 12 ns) 13 nl) 14 nn) 15 bk) J K w) : PM l G pX0 yX11_letter cX11_letter 4 (some .int) ({ frames := 4, cells := 0, slots := 0, locals := 102 }) [.ref h0, .int x, .int y] w (fun (v : Option Value) (u : va_W × (Int32)) => v = some (.int u.2) ∧ (OKP G h0 a (upd F 3 (nI nz)) (updR R 0 (.ref pq)) Z (updA (updA (updA (updA B 12 ns) 13 nl) 14 nn) 15 bk) J K u.1)) (fun u => u.1) := by
  intro sz
  refine Met.ofW (cc := cX11_letter) (maxL := 4) (ret := (some .int)) (by decide) rfl ?_
  intro p e s m args below meth c s₁ B9 hml hv
  obtain ⟨rfl, hsz, hP, hD0, hE, hX⟩ := hv
  have hx := B9.exec
  have hb := B9.bytes
  have hr := B9.returns
  have hts := atoms_spec (ws := Cond.code yX11_letter cX11_letter 4 (some .int) :: pw) B9.pre
  have hq : ∀ w ∈ pw, w.before _ s = true := fun w h => hts w (List.mem_cons_of_mem _ h)
  have hown : s.vm.findClass RX11 = some m.cls := findClass_of_methodNamed B9.named
  have hlocks := B9.notSynchronized
  subst hsz
  have hD := hD0.self (sz := s.heap.size)
  have hA : ∀ q : Nat, s.heap.size ≤ q → va_A w s.heap.size q := fun q h => Or.inr h
  generalize va_A w s.heap.size = A at hD hE hA ⊢
  have hS : va_S A s.heap s.heap [] := va_S.rf
  have hl := lv_entry ([.ref h0, .int x, .int y]) (n := 4) (Nat.le_of_ble_eq_true rfl)
  rw [lg_entry_eq]
  generalize (lg_sl ([.ref h0, .int x, .int y]) ++ List.replicate (4 - (lg_sl ([.ref h0, .int x, .int y])).length) Slot.unset).toArray = ls at hl ⊢
  have hl : lv_has ls 4 [(0, .ref h0), (1, .int x), (2, .int y)] := hl
  have hpg := hps.1
  have hp1 := hpg.1
  have hp2 := hpg.2.1
  have hp3 := hpg.2.2.1
  have hp4 := hpg.2.2.2.1
  have hp5 := hpg.2.2.2.2.1
  have hp6 := hpg.2.2.2.2.2.1
  have hp8 := hpg.2.2.2.2.2.2.2.1
  have hp9 := hpg.2.2.2.2.2.2.2.2
  refine lv_aload_n hx hb dX11_letter_0 rfl (lv_at hl 0 rfl) ?_
  refine lv_iload_n hx hb dX11_letter_1 rfl (lv_at hl 1 rfl) ?_
  have hO : OKP G h0 a (upd F 3 (nI nz)) (updR (updR R 0 (.ref pq)) 0 (.ref pq)) Z (updA (updA (updA (updA B 12 ns) 13 nl) 14 nn) 15 bk) J K w := hO.to rfl
  obtain ⟨_, qr4, hqr5⟩ := hO.2.1 0 _ (sg_0 G h0 a _ _ _ _ _)
  refine pc_V0 (G := G) (As := [.int x]) (rest := []) hx hb hml hown hq hE hX pX0_al hP hD hS hA hl.1 (J_declared l G h0 a (upd F 3 (nI nz)) (updR R 0 (.ref pq)) Z (updA (updA (updA (updA B 12 ns) 13 nl) 14 nn) 15 bk) J K w x pq dr ml nd nm cp it s9 g rk hwp hps hrk hO) (gV pw_1374 pw_1375 pw_1376 pw_1339 pw_1362) hV_X11_declared qr4 8 hqr5 rfl rfl rfl (Nat.le_of_ble_eq_true rfl) dX11_letter_2 ⟨Nat.le_of_ble_eq_true rfl, Nat.le_of_ble_eq_true rfl⟩ ⟨Nat.le_of_ble_eq_true rfl, Nat.le_of_ble_eq_true rfl⟩ (fun v3 u1 H locs hw2 hP hD hS => ?_)
  obtain ⟨w, o6⟩ := u1
  obtain ⟨hw2, h7, hO⟩ := hw2
  have h7 : DoN K o6 := h7
  obtain rfl : v3 = some ((va_rf o6)) := hw2
  have hO : OKP G h0 a (upd F 3 (nI nz)) (updR R 0 (.ref pq)) Z (updA (updA (updA (updA B 12 ns) 13 nl) 14 nn) 15 bk) J K w := hO.to rfl
  refine W.widen (k := 0) (n := 0) (Nat.le_of_ble_eq_true rfl) (Nat.le_of_ble_eq_true rfl) ?_
  refine W.eq (g2 := F0 m 5 ls [(va_rf o6)]) rfl ?_
  rcases o6 with _ | d8
  · have hl : lv_has ls 4 [(0, .ref h0), (1, .int x), (2, .int y)] := hl
    refine W.eq (g2 := F0 m 5 ls [.null]) rfl ?_
    refine lv_astore_nN (lv' := [(3, .null), (0, .ref h0), (1, .int x), (2, .int y)]) hx hb dX11_letter_5 rfl hl (by decide) rfl (fun ls hl => ?_)
    refine lv_aload_nN hx hb dX11_letter_6 rfl (lv_at hl 0 rfl) ?_
    refine lv_ifnonnullN hx hb dX11_letter_7 ?_
    refine lv_iconst (v := (-1)) hx hb dX11_letter_10 (by decide) ?_
    refine lv_goto (tgt := 26) hx hb dX11_letter_11 (by decide) ?_
    have hO : OKP G h0 a (upd F 3 (nI nz)) (updR R 0 (.ref pq)) Z (updA (updA (updA (updA B 12 ns) 13 nl) 14 nn) 15 bk) J K w := hO.to rfl
    exact W.iret (v := (-1)) hx hb hr (fun t99 ht99 hW99 => ⟨⟨_, (w, ((-1) : Int32)), rfl, ⟨rfl, hO⟩, by rw [ht99]; exact hP, hD⟩, hS.F ht99⟩) hS.2.2 dX11_letter_26
  · have hl : lv_has ls 4 [(0, .ref h0), (1, .int x), (2, .int y)] := hl
    refine W.eq (g2 := F0 m 5 ls [.ref d8]) rfl ?_
    have hf9 := h7 d8 rfl
    refine lv_astore_n (lv' := [(3, .ref d8), (0, .ref h0), (1, .int x), (2, .int y)]) hx hb dX11_letter_5 rfl hl (by decide) rfl (fun ls hl => ?_)
    refine lv_aload_n hx hb dX11_letter_6 rfl (lv_at hl 0 rfl) ?_
    refine lv_ifnonnull (tgt := 14) hx hb dX11_letter_7 (by decide) ?_
    refine lv_aload_n hx hb dX11_letter_14 rfl (lv_at hl 1 rfl) ?_
    refine c_get (v := .ref (a 1)) (C := RX11) (Tc := TX11) (N := 8) (ci := 8) hx hb hq pin_wsX110 hown hE hP hO 0 (sg_0 G h0 a _ _ _ _ _) rfl 2 (by decide) (hq _ pw_1309) (fun _ h9 => h9) rfl dX11_letter_15 ?_
    refine lv_aload_n hx hb dX11_letter_18 rfl (lv_at hl 0 rfl) ?_
    refine p_get (v := .int (K.2.1 16 d8)) (C := RX2) (Tc := TX2) (N := 13) (ci := 2) hx hb hq pin_wsX20 hown hE hP hO (by rw [hf9]; decide) (rep_4 hf9) rfl 1 (by decide) (hq _ pw_1386) (fun _ h9 => h9) rfl dX11_letter_19 ?_
    refine lv_iload_n hx hb dX11_letter_22 rfl (lv_at hl 3 rfl) ?_
    have hO : OKW G h0 a (upd (upd F 3 (nI nz)) 3 (nI nz)) (updR R 0 (.ref pq)) Z (updA (updA (updA (updA (updA (updA (updA (updA B 12 ns) 13 nl) 14 nn) 15 bk) 12 ns) 13 nl) 14 nn) 15 bk) J K.1 (fun q99 x99 => x99 = rep G a K q99) w := hO.to rfl
    obtain ⟨_, qr13, hqr14⟩ := hO.2.1 2 _ (sg_2 G h0 a _ _ _ _ _)
    refine pc_V0 (G := G) (As := [.int (K.2.1 16 d8), .int y]) (rest := []) hx hb hml hown hq hE hX pX0_al hP hD hS hA hl.1 (K_letterOf l G h0 a (upd F 3 (nI nz)) (updR R 0 (.ref pq)) Z (updA (updA (updA (updA B 12 ns) 13 nl) 14 nn) 15 bk) J K.1 (fun q99 x99 => x99 = rep G a K q99) w (K.2.1 16 d8) y nz ns nl nn bk hnm hO) (gV pw_1387 pw_1388 pw_1389 pw_59 pw_1304) hV_X10_letterOf qr13 7 hqr14 rfl rfl rfl (Nat.le_of_ble_eq_true rfl) dX11_letter_23 ⟨Nat.le_of_ble_eq_true rfl, Nat.le_of_ble_eq_true rfl⟩ ⟨Nat.le_of_ble_eq_true rfl, Nat.le_of_ble_eq_true rfl⟩ (fun v12 u10 H locs hw11 hP hD hS => ?_)
    obtain ⟨w, r15⟩ := u10
    obtain ⟨hw11, hO⟩ := hw11
    obtain rfl : v12 = some (.int r15) := hw11
    have hO : OKP G h0 a (upd F 3 (nI nz)) (updR R 0 (.ref pq)) Z (updA (updA (updA (updA B 12 ns) 13 nl) 14 nn) 15 bk) J K w := hO.to rfl
    refine W.widen (k := 0) (n := 0) (Nat.le_of_ble_eq_true rfl) (Nat.le_of_ble_eq_true rfl) ?_
    refine W.eq (g2 := F0 m 26 ls [.int r15]) rfl ?_
    have hO : OKP G h0 a (upd F 3 (nI nz)) (updR R 0 (.ref pq)) Z (updA (updA (updA (updA B 12 ns) 13 nl) 14 nn) 15 bk) J K w := hO.to rfl
    exact W.iret (v := r15) hx hb hr (fun t99 ht99 hW99 => ⟨⟨_, (w, r15), rfl, ⟨rfl, hO⟩, by rw [ht99]; exact hP, hD⟩, hS.F ht99⟩) hS.2.2 dX11_letter_26
theorem dX11_called_17 : decode cX11_called 17 = .ok (.aload_n 0, 1) := by decide +kernel
theorem dX11_called_18 : decode cX11_called 18 = .ok (.getfield 69, 3) := by decide +kernel
theorem dX11_called_21 : decode cX11_called 21 = .ok (.iload_n 2, 1) := by decide +kernel
theorem dX11_called_22 : decode cX11_called 22 = .ok (.invokevirtual 148, 3) := by decide +kernel
theorem dX11_called_31 : decode cX11_called 31 = .ok (.aload_n 3, 1) := by decide +kernel
theorem dX11_called_32 : decode cX11_called 32 = .ok (.getfield 120, 3) := by decide +kernel
theorem dX11_called_35 : decode cX11_called 35 = .ok (.ifCond .ne 8, 3) := by decide +kernel
theorem dX11_called_38 : decode cX11_called 38 = .ok (.aload 4, 2) := by decide +kernel
theorem dX11_called_40 : decode cX11_called 40 = .ok (.ifnonnull 5, 3) := by decide +kernel
theorem dX11_called_45 : decode cX11_called 45 = .ok (.aload_n 3, 1) := by decide +kernel
theorem dX11_called_46 : decode cX11_called 46 = .ok (.aload 4, 2) := by decide +kernel
theorem dX11_called_48 : decode cX11_called 48 = .ok (.getfield 152, 3) := by decide +kernel
theorem dX11_called_51 : decode cX11_called 51 = .ok (.invokevirtual 155, 3) := by decide +kernel
theorem dX11_called_54 : decode cX11_called 54 = .ok (.astore 5, 2) := by decide +kernel
theorem dX11_called_56 : decode cX11_called 56 = .ok (.aload 5, 2) := by decide +kernel
theorem dX11_called_58 : decode cX11_called 58 = .ok (.ifnonnull 7, 3) := by decide +kernel
theorem dX11_called_61 : decode cX11_called 61 = .ok (.iconst (-1), 1) := by decide +kernel
theorem dX11_called_62 : decode cX11_called 62 = .ok (.goto 8, 3) := by decide +kernel
theorem dX11_called_70 : decode cX11_called 70 = .ok (.ireturn, 1) := by decide +kernel
theorem dX11_called_65 : decode cX11_called 65 = .ok (.aload 5, 2) := by decide +kernel
theorem dX11_called_67 : decode cX11_called 67 = .ok (.getfield 158, 3) := by decide +kernel
set_option maxHeartbeats 20000000 in
set_option maxRecDepth 100000 in
theorem J_called (l : Launch) (G : pT) (h0 : Nat) (a : Nat → Nat) (F : Nat → Int32) (R : Nat → Value) (Z : Int64) (B : Nat → Nat → Int32) (J : Nat → Nat → Int64) (K : PK) (w : va_W) (x : Int32) (y : Int32) (pq : Nat) (dr : Nat) (ml : Nat) (nd : Nat) (nm : Nat) (cp : Nat) (it : Nat → Nat) (s9 : Nat) (g : Nat → Nat → Nat) (rk : Nat → Nat) (hwp : WPr G K g) (hps : PgT G K g (a 1) pq dr ml nd nm cp it s9) (hrk : RkO K rk) (hO : OKP G h0 a F (updR R 0 (.ref pq)) Z B J K w) : PM l G pX0 yX11_called cX11_called 6 (some .int) ({ frames := 7, cells := 0, slots := 0, locals := 169 }) [.ref h0, .int x, .int y] w (fun (v : Option Value) (u : va_W × (Int32)) => v = some (.int u.2) ∧ (OKP G h0 a F (updR R 0 (.ref pq)) Z B J K u.1)) (fun u => u.1) := by
  intro sz
  refine Met.ofW (cc := cX11_called) (maxL := 6) (ret := (some .int)) (by decide) rfl ?_
  intro p e s m args below meth c s₁ B9 hml hv
  obtain ⟨rfl, hsz, hP, hD0, hE, hX⟩ := hv
  have hx := B9.exec
  have hb := B9.bytes
  have hr := B9.returns
  have hts := atoms_spec (ws := Cond.code yX11_called cX11_called 6 (some .int) :: pw) B9.pre
  have hq : ∀ w ∈ pw, w.before _ s = true := fun w h => hts w (List.mem_cons_of_mem _ h)
  have hown : s.vm.findClass RX11 = some m.cls := findClass_of_methodNamed B9.named
  have hlocks := B9.notSynchronized
  subst hsz
  have hD := hD0.self (sz := s.heap.size)
  have hA : ∀ q : Nat, s.heap.size ≤ q → va_A w s.heap.size q := fun q h => Or.inr h
  generalize va_A w s.heap.size = A at hD hE hA ⊢
  have hS : va_S A s.heap s.heap [] := va_S.rf
  have hl := lv_entry ([.ref h0, .int x, .int y]) (n := 6) (Nat.le_of_ble_eq_true rfl)
  rw [lg_entry_eq]
  generalize (lg_sl ([.ref h0, .int x, .int y]) ++ List.replicate (6 - (lg_sl ([.ref h0, .int x, .int y])).length) Slot.unset).toArray = ls at hl ⊢
  have hl : lv_has ls 6 [(0, .ref h0), (1, .int x), (2, .int y)] := hl
  have hpg := hps.1
  have hp1 := hpg.1
  have hp2 := hpg.2.1
  have hp3 := hpg.2.2.1
  have hp4 := hpg.2.2.2.1
  have hp5 := hpg.2.2.2.2.1
  have hp6 := hpg.2.2.2.2.2.1
  have hp8 := hpg.2.2.2.2.2.2.2.1
  have hp9 := hpg.2.2.2.2.2.2.2.2
  refine lv_aload_n hx hb dX11_called_0 rfl (lv_at hl 0 rfl) ?_
  refine lv_iload_n hx hb dX11_called_1 rfl (lv_at hl 1 rfl) ?_
  have hO : OKP G h0 a F (updR (updR R 0 (.ref pq)) 0 (.ref pq)) Z B J K w := hO.to rfl
  obtain ⟨_, qr4, hqr5⟩ := hO.2.1 0 _ (sg_0 G h0 a _ _ _ _ _)
  refine pc_V0 (G := G) (As := [.int x]) (rest := []) hx hb hml hown hq hE hX pX0_al hP hD hS hA hl.1 (J_declared l G h0 a F (updR R 0 (.ref pq)) Z B J K w x pq dr ml nd nm cp it s9 g rk hwp hps hrk hO) (gV pw_1374 pw_1375 pw_1376 pw_1339 pw_1362) hV_X11_declared qr4 8 hqr5 rfl rfl rfl (Nat.le_of_ble_eq_true rfl) dX11_called_2 ⟨Nat.le_of_ble_eq_true rfl, Nat.le_of_ble_eq_true rfl⟩ ⟨Nat.le_of_ble_eq_true rfl, Nat.le_of_ble_eq_true rfl⟩ (fun v3 u1 H locs hw2 hP hD hS => ?_)
  obtain ⟨w, o6⟩ := u1
  obtain ⟨hw2, h7, hO⟩ := hw2
  have h7 : DoN K o6 := h7
  obtain rfl : v3 = some ((va_rf o6)) := hw2
  have hO : OKP G h0 a F (updR R 0 (.ref pq)) Z B J K w := hO.to rfl
  refine W.widen (k := 0) (n := 0) (Nat.le_of_ble_eq_true rfl) (Nat.le_of_ble_eq_true rfl) ?_
  refine W.eq (g2 := F0 m 5 ls [(va_rf o6)]) rfl ?_
  rcases o6 with _ | d8
  · have hl : lv_has ls 6 [(0, .ref h0), (1, .int x), (2, .int y)] := hl
    refine W.eq (g2 := F0 m 5 ls [.null]) rfl ?_
    refine lv_astore_nN (lv' := [(3, .null), (0, .ref h0), (1, .int x), (2, .int y)]) hx hb dX11_called_5 rfl hl (by decide) rfl (fun ls hl => ?_)
    refine lv_aload_n hx hb dX11_called_6 rfl (lv_at hl 1 rfl) ?_
    refine c_get (v := .ref pq) (C := RX11) (Tc := TX11) (N := 8) (ci := 8) hx hb hq pin_wsX110 hown hE hP hO 0 (sg_0 G h0 a _ _ _ _ _) rfl 7 (by decide) (hq _ pw_1342) (fun _ h9 => h9) rfl dX11_called_7 ?_
    refine lv_ifnonnull (tgt := 17) hx hb dX11_called_10 (by decide) ?_
    refine lv_aload_n hx hb dX11_called_17 rfl (lv_at hl 1 rfl) ?_
    refine c_get (v := .ref pq) (C := RX11) (Tc := TX11) (N := 8) (ci := 8) hx hb hq pin_wsX110 hown hE hP hO 0 (sg_0 G h0 a _ _ _ _ _) rfl 7 (by decide) (hq _ pw_1342) (fun _ h9 => h9) rfl dX11_called_18 ?_
    refine lv_iload_n hx hb dX11_called_21 rfl (lv_at hl 3 rfl) ?_
    have hO : OKP G h0 a F (updR R 0 (.ref pq)) Z B J K w := hO.to rfl
    obtain ⟨qr12, hqr13⟩ := p_recv hO (by rw [hp1]; decide) (rep_7 hp1)
    refine pc_V0 (G := G) (As := [.int y]) (rest := []) hx hb hml hown hq hE hX pX0_al hP hD hS hA hl.1 (G_methodX l G h0 a F (updR R 0 (.ref pq)) Z B J K w pq dr ml nd y nm cp it g hps.1 hps.2.2.1 hO) (gV pw_1392 pw_529 pw_530 pw_106 pw_518) hV_X9_method qr12 6 hqr13 rfl rfl rfl (Nat.le_of_ble_eq_true rfl) dX11_called_22 ⟨Nat.le_of_ble_eq_true rfl, Nat.le_of_ble_eq_true rfl⟩ ⟨Nat.le_of_ble_eq_true rfl, Nat.le_of_ble_eq_true rfl⟩ (fun v11 u9 H locs hw10 hP hD hS => ?_)
    obtain ⟨w, o14⟩ := u9
    obtain ⟨hw10, h15, hO⟩ := hw10
    have h15 : MoX K nm it y o14 := h15
    obtain rfl : v11 = some ((va_rf o14)) := hw10
    have hO : OKP G h0 a F (updR R 0 (.ref pq)) Z B J K w := hO.to rfl
    refine W.widen (k := 0) (n := 0) (Nat.le_of_ble_eq_true rfl) (Nat.le_of_ble_eq_true rfl) ?_
    refine W.eq (g2 := F0 m 25 ls [(va_rf o14)]) rfl ?_
    rcases o14 with _ | d16
    · have hl : lv_has ls 6 [(3, .null), (0, .ref h0), (1, .int x), (2, .int y)] := hl
      refine W.eq (g2 := F0 m 25 ls [.null]) rfl ?_
      refine lv_astoreN (lv' := [(4, .null), (3, .null), (0, .ref h0), (1, .int x), (2, .int y)]) hx hb dX11_called_25 hl (by decide) rfl (fun ls hl => ?_)
      refine lv_aload_nN hx hb dX11_called_27 rfl (lv_at hl 1 rfl) ?_
      refine lv_ifnullN (tgt := 43) hx hb dX11_called_28 (by decide) ?_
      refine lv_iconst (v := (-1)) hx hb dX11_called_43 (by decide) ?_
      have hO : OKP G h0 a F (updR R 0 (.ref pq)) Z B J K w := hO.to rfl
      exact W.iret (v := (-1)) hx hb hr (fun t99 ht99 hW99 => ⟨⟨_, (w, ((-1) : Int32)), rfl, ⟨rfl, hO⟩, by rw [ht99]; exact hP, hD⟩, hS.F ht99⟩) hS.2.2 dX11_called_44
    · have hl : lv_has ls 6 [(3, .null), (0, .ref h0), (1, .int x), (2, .int y)] := hl
      refine W.eq (g2 := F0 m 25 ls [.ref d16]) rfl ?_
      have hf17 := (h15 d16 rfl).1
      refine lv_astore (lv' := [(4, .ref d16), (3, .null), (0, .ref h0), (1, .int x), (2, .int y)]) hx hb dX11_called_25 hl (by decide) rfl (fun ls hl => ?_)
      refine lv_aload_nN hx hb dX11_called_27 rfl (lv_at hl 1 rfl) ?_
      refine lv_ifnullN (tgt := 43) hx hb dX11_called_28 (by decide) ?_
      refine lv_iconst (v := (-1)) hx hb dX11_called_43 (by decide) ?_
      have hO : OKP G h0 a F (updR R 0 (.ref pq)) Z B J K w := hO.to rfl
      exact W.iret (v := (-1)) hx hb hr (fun t99 ht99 hW99 => ⟨⟨_, (w, ((-1) : Int32)), rfl, ⟨rfl, hO⟩, by rw [ht99]; exact hP, hD⟩, hS.F ht99⟩) hS.2.2 dX11_called_44
  · have hl : lv_has ls 6 [(0, .ref h0), (1, .int x), (2, .int y)] := hl
    refine W.eq (g2 := F0 m 5 ls [.ref d8]) rfl ?_
    have hf18 := h7 d8 rfl
    refine lv_astore_n (lv' := [(3, .ref d8), (0, .ref h0), (1, .int x), (2, .int y)]) hx hb dX11_called_5 rfl hl (by decide) rfl (fun ls hl => ?_)
    refine lv_aload_n hx hb dX11_called_6 rfl (lv_at hl 1 rfl) ?_
    refine c_get (v := .ref pq) (C := RX11) (Tc := TX11) (N := 8) (ci := 8) hx hb hq pin_wsX110 hown hE hP hO 0 (sg_0 G h0 a _ _ _ _ _) rfl 7 (by decide) (hq _ pw_1342) (fun _ h9 => h9) rfl dX11_called_7 ?_
    refine lv_ifnonnull (tgt := 17) hx hb dX11_called_10 (by decide) ?_
    refine lv_aload_n hx hb dX11_called_17 rfl (lv_at hl 1 rfl) ?_
    refine c_get (v := .ref pq) (C := RX11) (Tc := TX11) (N := 8) (ci := 8) hx hb hq pin_wsX110 hown hE hP hO 0 (sg_0 G h0 a _ _ _ _ _) rfl 7 (by decide) (hq _ pw_1342) (fun _ h9 => h9) rfl dX11_called_18 ?_
    refine lv_iload_n hx hb dX11_called_21 rfl (lv_at hl 3 rfl) ?_
    have hO : OKP G h0 a F (updR R 0 (.ref pq)) Z B J K w := hO.to rfl
    obtain ⟨qr22, hqr23⟩ := p_recv hO (by rw [hp1]; decide) (rep_7 hp1)
    refine pc_V0 (G := G) (As := [.int y]) (rest := []) hx hb hml hown hq hE hX pX0_al hP hD hS hA hl.1 (G_methodX l G h0 a F (updR R 0 (.ref pq)) Z B J K w pq dr ml nd y nm cp it g hps.1 hps.2.2.1 hO) (gV pw_1392 pw_529 pw_530 pw_106 pw_518) hV_X9_method qr22 6 hqr23 rfl rfl rfl (Nat.le_of_ble_eq_true rfl) dX11_called_22 ⟨Nat.le_of_ble_eq_true rfl, Nat.le_of_ble_eq_true rfl⟩ ⟨Nat.le_of_ble_eq_true rfl, Nat.le_of_ble_eq_true rfl⟩ (fun v21 u19 H locs hw20 hP hD hS => ?_)
    obtain ⟨w, o24⟩ := u19
    obtain ⟨hw20, h25, hO⟩ := hw20
    have h25 : MoX K nm it y o24 := h25
    obtain rfl : v21 = some ((va_rf o24)) := hw20
    have hO : OKP G h0 a F (updR R 0 (.ref pq)) Z B J K w := hO.to rfl
    refine W.widen (k := 0) (n := 0) (Nat.le_of_ble_eq_true rfl) (Nat.le_of_ble_eq_true rfl) ?_
    refine W.eq (g2 := F0 m 25 ls [(va_rf o24)]) rfl ?_
    rcases o24 with _ | d26
    · have hl : lv_has ls 6 [(3, .ref d8), (0, .ref h0), (1, .int x), (2, .int y)] := hl
      refine W.eq (g2 := F0 m 25 ls [.null]) rfl ?_
      refine lv_astoreN (lv' := [(4, .null), (3, .ref d8), (0, .ref h0), (1, .int x), (2, .int y)]) hx hb dX11_called_25 hl (by decide) rfl (fun ls hl => ?_)
      refine lv_aload_n hx hb dX11_called_27 rfl (lv_at hl 1 rfl) ?_
      refine lv_ifnull hx hb dX11_called_28 ?_
      refine lv_aload_n hx hb dX11_called_31 rfl (lv_at hl 1 rfl) ?_
      refine p_get (v := .int (K.2.1 18 d8)) (C := RX2) (Tc := TX2) (N := 13) (ci := 2) hx hb hq pin_wsX20 hown hE hP hO (by rw [hf18]; decide) (rep_4 hf18) rfl 3 (by decide) (hq _ pw_1372) (fun _ h9 => h9) rfl dX11_called_32 ?_
      refine lv_if_ne (tgt := 43) hx hb dX11_called_35 (by decide) (fun c27 => ?_) (fun c27 => ?_)
      · refine lv_iconst (v := (-1)) hx hb dX11_called_43 (by decide) ?_
        have hO : OKP G h0 a F (updR R 0 (.ref pq)) Z B J K w := hO.to rfl
        exact W.iret (v := (-1)) hx hb hr (fun t99 ht99 hW99 => ⟨⟨_, (w, ((-1) : Int32)), rfl, ⟨rfl, hO⟩, by rw [ht99]; exact hP, hD⟩, hS.F ht99⟩) hS.2.2 dX11_called_44
      · refine lv_aloadN hx hb dX11_called_38 (lv_at hl 0 rfl) ?_
        refine lv_ifnonnullN hx hb dX11_called_40 ?_
        refine lv_iconst (v := (-1)) hx hb dX11_called_43 (by decide) ?_
        have hO : OKP G h0 a F (updR R 0 (.ref pq)) Z B J K w := hO.to rfl
        exact W.iret (v := (-1)) hx hb hr (fun t99 ht99 hW99 => ⟨⟨_, (w, ((-1) : Int32)), rfl, ⟨rfl, hO⟩, by rw [ht99]; exact hP, hD⟩, hS.F ht99⟩) hS.2.2 dX11_called_44
    · have hl : lv_has ls 6 [(3, .ref d8), (0, .ref h0), (1, .int x), (2, .int y)] := hl
      refine W.eq (g2 := F0 m 25 ls [.ref d26]) rfl ?_
      have hf28 := (h25 d26 rfl).1
      refine lv_astore (lv' := [(4, .ref d26), (3, .ref d8), (0, .ref h0), (1, .int x), (2, .int y)]) hx hb dX11_called_25 hl (by decide) rfl (fun ls hl => ?_)
      refine lv_aload_n hx hb dX11_called_27 rfl (lv_at hl 1 rfl) ?_
      refine lv_ifnull hx hb dX11_called_28 ?_
      refine lv_aload_n hx hb dX11_called_31 rfl (lv_at hl 1 rfl) ?_
      refine p_get (v := .int (K.2.1 18 d8)) (C := RX2) (Tc := TX2) (N := 13) (ci := 2) hx hb hq pin_wsX20 hown hE hP hO (by rw [hf18]; decide) (rep_4 hf18) rfl 3 (by decide) (hq _ pw_1372) (fun _ h9 => h9) rfl dX11_called_32 ?_
      refine lv_if_ne (tgt := 43) hx hb dX11_called_35 (by decide) (fun c29 => ?_) (fun c29 => ?_)
      · refine lv_iconst (v := (-1)) hx hb dX11_called_43 (by decide) ?_
        have hO : OKP G h0 a F (updR R 0 (.ref pq)) Z B J K w := hO.to rfl
        exact W.iret (v := (-1)) hx hb hr (fun t99 ht99 hW99 => ⟨⟨_, (w, ((-1) : Int32)), rfl, ⟨rfl, hO⟩, by rw [ht99]; exact hP, hD⟩, hS.F ht99⟩) hS.2.2 dX11_called_44
      · refine lv_aload hx hb dX11_called_38 (lv_at hl 0 rfl) ?_
        refine lv_ifnonnull (tgt := 45) hx hb dX11_called_40 (by decide) ?_
        refine lv_aload_n hx hb dX11_called_45 rfl (lv_at hl 1 rfl) ?_
        refine lv_aload hx hb dX11_called_46 (lv_at hl 0 rfl) ?_
        refine p_get (v := .int (K.2.1 6 d26)) (C := RX6) (Tc := TX6) (N := 12) (ci := 12) hx hb hq pin_wsX60 hown hE hP hO (by rw [hf28]; decide) (rep_3 hf28) rfl 1 (by decide) (hq _ pw_1390) (fun _ h9 => h9) rfl dX11_called_48 ?_
        have hO : OKP G h0 a F (updR R 0 (.ref pq)) Z B J K w := hO.to rfl
        obtain ⟨qr33, hqr34⟩ := p_recv hO (by rw [hf18]; decide) (rep_4 hf18)
        refine pc_V0 (G := G) (As := [.int (K.2.1 6 d26)]) (rest := []) hx hb hml hown hq hE hX pX0_al hP hD hS hA hl.1 (O_nearest l G h0 a F (updR R 0 (.ref pq)) Z B J K w d8 (K.2.1 6 d26) g rk hf18 hwp hrk hO) (gV pw_1393 pw_222 pw_223 pw_146 pw_154) hV_X2_nearest qr33 2 hqr34 rfl rfl rfl (Nat.le_of_ble_eq_true rfl) dX11_called_51 ⟨Nat.le_of_ble_eq_true rfl, Nat.le_of_ble_eq_true rfl⟩ ⟨Nat.le_of_ble_eq_true rfl, Nat.le_of_ble_eq_true rfl⟩ (fun v32 u30 H locs hw31 hP hD hS => ?_)
        obtain ⟨w, o35⟩ := u30
        obtain ⟨hw31, h36, hO⟩ := hw31
        have h36 : MoN K o35 := h36
        obtain rfl : v32 = some ((va_rf o35)) := hw31
        have hO : OKP G h0 a F (updR R 0 (.ref pq)) Z B J K w := hO.to rfl
        refine W.widen (k := 0) (n := 0) (Nat.le_of_ble_eq_true rfl) (Nat.le_of_ble_eq_true rfl) ?_
        refine W.eq (g2 := F0 m 54 ls [(va_rf o35)]) rfl ?_
        rcases o35 with _ | d37
        · have hl : lv_has ls 6 [(4, .ref d26), (3, .ref d8), (0, .ref h0), (1, .int x), (2, .int y)] := hl
          refine W.eq (g2 := F0 m 54 ls [.null]) rfl ?_
          refine lv_astoreN (lv' := [(5, .null), (4, .ref d26), (3, .ref d8), (0, .ref h0), (1, .int x), (2, .int y)]) hx hb dX11_called_54 hl (by decide) rfl (fun ls hl => ?_)
          refine lv_aloadN hx hb dX11_called_56 (lv_at hl 0 rfl) ?_
          refine lv_ifnonnullN hx hb dX11_called_58 ?_
          refine lv_iconst (v := (-1)) hx hb dX11_called_61 (by decide) ?_
          refine lv_goto (tgt := 70) hx hb dX11_called_62 (by decide) ?_
          have hO : OKP G h0 a F (updR R 0 (.ref pq)) Z B J K w := hO.to rfl
          exact W.iret (v := (-1)) hx hb hr (fun t99 ht99 hW99 => ⟨⟨_, (w, ((-1) : Int32)), rfl, ⟨rfl, hO⟩, by rw [ht99]; exact hP, hD⟩, hS.F ht99⟩) hS.2.2 dX11_called_70
        · have hl : lv_has ls 6 [(4, .ref d26), (3, .ref d8), (0, .ref h0), (1, .int x), (2, .int y)] := hl
          refine W.eq (g2 := F0 m 54 ls [.ref d37]) rfl ?_
          have hf38 := h36 d37 rfl
          refine lv_astore (lv' := [(5, .ref d37), (4, .ref d26), (3, .ref d8), (0, .ref h0), (1, .int x), (2, .int y)]) hx hb dX11_called_54 hl (by decide) rfl (fun ls hl => ?_)
          refine lv_aload hx hb dX11_called_56 (lv_at hl 0 rfl) ?_
          refine lv_ifnonnull (tgt := 65) hx hb dX11_called_58 (by decide) ?_
          refine lv_aload hx hb dX11_called_65 (lv_at hl 0 rfl) ?_
          refine p_get (v := .int (K.2.1 9 d37)) (C := RX6) (Tc := TX6) (N := 12) (ci := 12) hx hb hq pin_wsX60 hown hE hP hO (by rw [hf38]; decide) (rep_3 hf38) rfl 6 (by decide) (hq _ pw_1391) (fun _ h9 => h9) rfl dX11_called_67 ?_
          have hO : OKP G h0 a F (updR R 0 (.ref pq)) Z B J K w := hO.to rfl
          exact W.iret (v := (K.2.1 9 d37)) hx hb hr (fun t99 ht99 hW99 => ⟨⟨_, (w, (K.2.1 9 d37)), rfl, ⟨rfl, hO⟩, by rw [ht99]; exact hP, hD⟩, hS.F ht99⟩) hS.2.2 dX11_called_70

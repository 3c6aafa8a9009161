def MdQ (J J1 : Nat → Nat → Int64) (sp sp1 c d tp1 ht1 : Nat) (en1 : Int32) : Prop := (en1 = 3 ∧ tp1 = 0) ∨ (en1 = 5 ∧ tp1 = 1 ∧ sp1 = sp ∧ ht1 = 8 + c ∧ 8 + c ≤ 3008 ∧ J1 29 0 = rfV 8 ∧ J1 sp1 8 = hdV c d ∧ (∀ i : Nat, 1 ≤ i → i < c → J1 sp1 (8 + i) = 0) ∧ ∀ x : Nat, x < 8 → J1 sp1 x = J sp x)
theorem updJ_at {J : Nat → Nat → Int64} {i x : Nat} {g : Nat → Int64} : updJ J i g i x = g x := congrFun (if_pos rfl) x
theorem LoE.swap {J : Nat → Nat → Int64} {s o : Nat} (h : LoE J s o) : LoE J o s := fun p hp9 => ⟨(h p hp9).1.symm, fun h7 => (h p hp9).1.trans ((h p hp9).2 h7)⟩
set_option maxHeartbeats 2000000 in
set_option maxRecDepth 100000 in
theorem Y_endColl0 (l : Launch) (G : pT) (h0 : Nat) (a : Nat → Nat) (F : Nat → Int32) (R : Nat → Value) (Z : Int64) (B : Nat → Nat → Int32) (J : Nat → Nat → Int64) (T : Nat → Nat) (Pi : Nat → va_E → Prop) (w : va_W) (sp : Nat) (op : Nat) (ht : Nat) (hsp : (sp = 34 ∧ op = 35) ∨ (sp = 35 ∧ op = 34)) (hO : OKW G h0 a (upd (upd F 26 (nI ht)) 27 8) (updR (updR R 7 (.ref (a sp))) 8 (.ref (a op))) Z B J T Pi w) : PM l G pX0 yX3_endCollecting cX3_endCollecting 2 none ({ frames := 2, cells := 0, slots := 0, locals := 60 }) [.ref (a 28)] w (fun (v : Option Value) (u : va_W × (Unit)) => v = none ∧ (OKW G h0 a (upd (upd F 26 8) 27 8) (updR (updR R 7 (.ref (a op))) 8 (.ref (a sp))) Z B J T Pi u.1)) (fun u => u.1) := by
  intro sz
  refine Met.ofW (cc := cX3_endCollecting) (maxL := 2) (ret := none) (by decide) rfl ?_
  intro p e s m args below meth c s₁ B9 hml hv
  obtain ⟨rfl, hsz, hP, hD0, hE, hX⟩ := hv
  have hx := B9.exec
  have hb := B9.bytes
  have hr := B9.returns
  have hts := atoms_spec (ws := Cond.code yX3_endCollecting cX3_endCollecting 2 none :: pw) B9.pre
  have hq : ∀ w ∈ pw, w.before _ s = true := fun w h => hts w (List.mem_cons_of_mem _ h)
  have hown : s.vm.findClass RX3 = some m.cls := findClass_of_methodNamed B9.named
  have hlocks := B9.notSynchronized
  subst hsz
  have hD := hD0.self (sz := s.heap.size)
  have hA : ∀ q : Nat, s.heap.size ≤ q → va_A w s.heap.size q := fun q h => Or.inr h
  generalize va_A w s.heap.size = A at hD hE hA ⊢
  have hS : va_S A s.heap s.heap [] := va_S.rf
  have hl := lv_entry ([.ref (a 28)]) (n := 2) (Nat.le_of_ble_eq_true rfl)
  rw [lg_entry_eq]
  generalize (lg_sl ([.ref (a 28)]) ++ List.replicate (2 - (lg_sl ([.ref (a 28)])).length) Slot.unset).toArray = ls at hl ⊢
  have hl : lv_has ls 2 [(0, .ref (a 28))] := hl
  rcases hsp with ⟨rfl, rfl⟩ | ⟨rfl, rfl⟩
  · skip
    refine lv_bipush (v := 8) hx hb dX3_endCollecting_0 (by decide) ?_
    refine lv_istore_n (lv' := [(1, .int 8), (0, .ref (a 28))]) hx hb dX3_endCollecting_2 rfl hl (by decide) rfl (fun ls hl => ?_)
    refine lv_iload_n hx hb dX3_endCollecting_3 rfl (lv_at hl 0 rfl) ?_
    refine lv_aload_n hx hb dX3_endCollecting_4 rfl (lv_at hl 1 rfl) ?_
    refine c_get (v := .int 8) (C := RX3) (Tc := TX3) (N := 5) (ci := 3) hx hb hq pin_wsX30 hown hE hP hO 29 (sg_29 G h0 a _ _ _ _ _) rfl 3 (by decide) (hq _ pw_458) (fun _ h9 => h9) rfl dX3_endCollecting_5 ?_
    refine lv_icmp_ge (tgt := 42) hx hb dX3_endCollecting_8 (by decide) (fun c1 => ?_) (fun c1 => absurd c1 (by decide))
    refine lv_aload_n hx hb dX3_endCollecting_42 rfl (lv_at hl 1 rfl) ?_
    refine c_get (v := .ref (a 34)) (C := RX3) (Tc := TX3) (N := 5) (ci := 3) hx hb hq pin_wsX30 hown hE hP hO 29 (sg_29 G h0 a _ _ _ _ _) rfl 0 (by decide) (hq _ pw_415) (fun _ h9 => h9) rfl dX3_endCollecting_43 ?_
    refine lv_astore_n (lv' := [(1, .ref (a 34)), (0, .ref (a 28))]) hx hb dX3_endCollecting_46 rfl hl (by decide) rfl (fun ls hl => ?_)
    refine lv_aload_n hx hb dX3_endCollecting_47 rfl (lv_at hl 1 rfl) ?_
    refine lv_aload_n hx hb dX3_endCollecting_48 rfl (lv_at hl 1 rfl) ?_
    refine c_get (v := .ref (a 35)) (C := RX3) (Tc := TX3) (N := 5) (ci := 3) hx hb hq pin_wsX30 hown hE hP hO 29 (sg_29 G h0 a _ _ _ _ _) rfl 1 (by decide) (hq _ pw_416) (fun _ h9 => h9) rfl dX3_endCollecting_49 ?_
    refine c_put (v := .ref (a 35)) (ty := (.array .long)) (C := RX3) (Tc := TX3) (N := 5) (ci := 3) hx hb hq pin_wsX30 tyX3 tyX3_ok nmX3 hown hE hP hD hS hO 29 (sg_29 G h0 a _ _ _ _ _) rfl 0 (by decide) (hq _ pw_415) (fun _ h9 => h9) rfl (by decide +kernel) rfl rfl (Nat.le_of_ble_eq_true rfl) (sr_7 G h0 a _ _ _ _ _ (.ref (a 35))) dX3_endCollecting_52 (fun H locs w hP hD hS hO => ?_)
    refine lv_aload_n hx hb dX3_endCollecting_55 rfl (lv_at hl 1 rfl) ?_
    refine lv_aload_n hx hb dX3_endCollecting_56 rfl (lv_at hl 0 rfl) ?_
    refine c_put (v := .ref (a 34)) (ty := (.array .long)) (C := RX3) (Tc := TX3) (N := 5) (ci := 3) hx hb hq pin_wsX30 tyX3 tyX3_ok nmX3 hown hE hP hD hS hO 29 (sg_29 G h0 a _ _ _ _ _) rfl 1 (by decide) (hq _ pw_416) (fun _ h9 => h9) rfl (by decide +kernel) rfl rfl (Nat.le_of_ble_eq_true rfl) (sr_8 G h0 a _ _ _ _ _ (.ref (a 34))) dX3_endCollecting_57 (fun H locs w hP hD hS hO => ?_)
    refine lv_aload_n hx hb dX3_endCollecting_60 rfl (lv_at hl 1 rfl) ?_
    refine lv_aload_n hx hb dX3_endCollecting_61 rfl (lv_at hl 1 rfl) ?_
    refine c_get (v := .int 8) (C := RX3) (Tc := TX3) (N := 5) (ci := 3) hx hb hq pin_wsX30 hown hE hP hO 29 (sg_29 G h0 a _ _ _ _ _) rfl 3 (by decide) (hq _ pw_458) (fun _ h9 => h9) rfl dX3_endCollecting_62 ?_
    refine c_put (v := .int 8) (ty := .int) (C := RX3) (Tc := TX3) (N := 5) (ci := 3) hx hb hq pin_wsX30 tyX3 tyX3_ok nmX3 hown hE hP hD hS hO 29 (sg_29 G h0 a _ _ _ _ _) rfl 2 (by decide) (hq _ pw_417) (fun _ h9 => h9) rfl (by decide +kernel) rfl rfl (Nat.le_of_ble_eq_true rfl) (sf_26 G h0 a _ _ _ _ _ 8) dX3_endCollecting_65 (fun H locs w hP hD hS hO => ?_)
    have hO : OKW G h0 a (upd (upd F 26 8) 27 8) (updR (updR R 7 (.ref (a 35))) 8 (.ref (a 34))) Z B J T Pi w := hO.to rfl
    exact W.vret hx hb hr (fun t99 ht99 hW99 => ⟨⟨_, (w, ()), rfl, ⟨rfl, hO⟩, by rw [ht99]; exact hP, hD⟩, hS.F ht99⟩) hS.2.2 dX3_endCollecting_68
  · skip
    refine lv_bipush (v := 8) hx hb dX3_endCollecting_0 (by decide) ?_
    refine lv_istore_n (lv' := [(1, .int 8), (0, .ref (a 28))]) hx hb dX3_endCollecting_2 rfl hl (by decide) rfl (fun ls hl => ?_)
    refine lv_iload_n hx hb dX3_endCollecting_3 rfl (lv_at hl 0 rfl) ?_
    refine lv_aload_n hx hb dX3_endCollecting_4 rfl (lv_at hl 1 rfl) ?_
    refine c_get (v := .int 8) (C := RX3) (Tc := TX3) (N := 5) (ci := 3) hx hb hq pin_wsX30 hown hE hP hO 29 (sg_29 G h0 a _ _ _ _ _) rfl 3 (by decide) (hq _ pw_458) (fun _ h9 => h9) rfl dX3_endCollecting_5 ?_
    refine lv_icmp_ge (tgt := 42) hx hb dX3_endCollecting_8 (by decide) (fun c2 => ?_) (fun c2 => absurd c2 (by decide))
    refine lv_aload_n hx hb dX3_endCollecting_42 rfl (lv_at hl 1 rfl) ?_
    refine c_get (v := .ref (a 35)) (C := RX3) (Tc := TX3) (N := 5) (ci := 3) hx hb hq pin_wsX30 hown hE hP hO 29 (sg_29 G h0 a _ _ _ _ _) rfl 0 (by decide) (hq _ pw_415) (fun _ h9 => h9) rfl dX3_endCollecting_43 ?_
    refine lv_astore_n (lv' := [(1, .ref (a 35)), (0, .ref (a 28))]) hx hb dX3_endCollecting_46 rfl hl (by decide) rfl (fun ls hl => ?_)
    refine lv_aload_n hx hb dX3_endCollecting_47 rfl (lv_at hl 1 rfl) ?_
    refine lv_aload_n hx hb dX3_endCollecting_48 rfl (lv_at hl 1 rfl) ?_
    refine c_get (v := .ref (a 34)) (C := RX3) (Tc := TX3) (N := 5) (ci := 3) hx hb hq pin_wsX30 hown hE hP hO 29 (sg_29 G h0 a _ _ _ _ _) rfl 1 (by decide) (hq _ pw_416) (fun _ h9 => h9) rfl dX3_endCollecting_49 ?_
    refine c_put (v := .ref (a 34)) (ty := (.array .long)) (C := RX3) (Tc := TX3) (N := 5) (ci := 3) hx hb hq pin_wsX30 tyX3 tyX3_ok nmX3 hown hE hP hD hS hO 29 (sg_29 G h0 a _ _ _ _ _) rfl 0 (by decide) (hq _ pw_415) (fun _ h9 => h9) rfl (by decide +kernel) rfl rfl (Nat.le_of_ble_eq_true rfl) (sr_7 G h0 a _ _ _ _ _ (.ref (a 34))) dX3_endCollecting_52 (fun H locs w hP hD hS hO => ?_)
    refine lv_aload_n hx hb dX3_endCollecting_55 rfl (lv_at hl 1 rfl) ?_
    refine lv_aload_n hx hb dX3_endCollecting_56 rfl (lv_at hl 0 rfl) ?_
    refine c_put (v := .ref (a 35)) (ty := (.array .long)) (C := RX3) (Tc := TX3) (N := 5) (ci := 3) hx hb hq pin_wsX30 tyX3 tyX3_ok nmX3 hown hE hP hD hS hO 29 (sg_29 G h0 a _ _ _ _ _) rfl 1 (by decide) (hq _ pw_416) (fun _ h9 => h9) rfl (by decide +kernel) rfl rfl (Nat.le_of_ble_eq_true rfl) (sr_8 G h0 a _ _ _ _ _ (.ref (a 35))) dX3_endCollecting_57 (fun H locs w hP hD hS hO => ?_)
    refine lv_aload_n hx hb dX3_endCollecting_60 rfl (lv_at hl 1 rfl) ?_
    refine lv_aload_n hx hb dX3_endCollecting_61 rfl (lv_at hl 1 rfl) ?_
    refine c_get (v := .int 8) (C := RX3) (Tc := TX3) (N := 5) (ci := 3) hx hb hq pin_wsX30 hown hE hP hO 29 (sg_29 G h0 a _ _ _ _ _) rfl 3 (by decide) (hq _ pw_458) (fun _ h9 => h9) rfl dX3_endCollecting_62 ?_
    refine c_put (v := .int 8) (ty := .int) (C := RX3) (Tc := TX3) (N := 5) (ci := 3) hx hb hq pin_wsX30 tyX3 tyX3_ok nmX3 hown hE hP hD hS hO 29 (sg_29 G h0 a _ _ _ _ _) rfl 2 (by decide) (hq _ pw_417) (fun _ h9 => h9) rfl (by decide +kernel) rfl rfl (Nat.le_of_ble_eq_true rfl) (sf_26 G h0 a _ _ _ _ _ 8) dX3_endCollecting_65 (fun H locs w hP hD hS hO => ?_)
    have hO : OKW G h0 a (upd (upd F 26 8) 27 8) (updR (updR R 7 (.ref (a 34))) 8 (.ref (a 35))) Z B J T Pi w := hO.to rfl
    exact W.vret hx hb hr (fun t99 ht99 hW99 => ⟨⟨_, (w, ()), rfl, ⟨rfl, hO⟩, by rw [ht99]; exact hP, hD⟩, hS.F ht99⟩) hS.2.2 dX3_endCollecting_68
set_option maxHeartbeats 2000000 in
set_option maxRecDepth 100000 in
theorem Y_collect0 (l : Launch) (G : pT) (h0 : Nat) (a : Nat → Nat) (F : Nat → Int32) (R : Nat → Value) (Z : Int64) (B : Nat → Nat → Int32) (J : Nat → Nat → Int64) (T : Nat → Nat) (Pi : Nat → va_E → Prop) (w : va_W) (sp : Nat) (op : Nat) (ht : Nat) (hsp : (sp = 34 ∧ op = 35) ∨ (sp = 35 ∧ op = 34)) (hO : OKW G h0 a (upd (upd F 22 0) 26 (nI ht)) (updR (updR (updR R 6 (.null)) 7 (.ref (a sp))) 8 (.ref (a op))) Z B J T Pi w) : PM l G pX0 yX5_collect cX5_collect 9 none ({ frames := 3, cells := 0, slots := 0, locals := 81 }) [.ref (a 5)] w (fun (v : Option Value) (u : va_W × (Unit)) => v = none ∧ (OKW G h0 a (upd (upd (upd F 22 0) 26 8) 27 8) (updR (updR (updR R 6 (.null)) 7 (.ref (a op))) 8 (.ref (a sp))) Z B J T Pi u.1)) (fun u => u.1) := by
  intro sz
  refine Met.ofW (cc := cX5_collect) (maxL := 9) (ret := none) (by decide) rfl ?_
  intro p e s m args below meth c s₁ B9 hml hv
  obtain ⟨rfl, hsz, hP, hD0, hE, hX⟩ := hv
  have hx := B9.exec
  have hb := B9.bytes
  have hr := B9.returns
  have hts := atoms_spec (ws := Cond.code yX5_collect cX5_collect 9 none :: pw) B9.pre
  have hq : ∀ w ∈ pw, w.before _ s = true := fun w h => hts w (List.mem_cons_of_mem _ h)
  have hown : s.vm.findClass RX5 = some m.cls := findClass_of_methodNamed B9.named
  have hlocks := B9.notSynchronized
  subst hsz
  have hD := hD0.self (sz := s.heap.size)
  have hA : ∀ q : Nat, s.heap.size ≤ q → va_A w s.heap.size q := fun q h => Or.inr h
  generalize va_A w s.heap.size = A at hD hE hA ⊢
  have hS : va_S A s.heap s.heap [] := va_S.rf
  have hl := lv_entry ([.ref (a 5)]) (n := 9) (Nat.le_of_ble_eq_true rfl)
  rw [lg_entry_eq]
  generalize (lg_sl ([.ref (a 5)]) ++ List.replicate (9 - (lg_sl ([.ref (a 5)])).length) Slot.unset).toArray = ls at hl ⊢
  have hl : lv_has ls 9 [(0, .ref (a 5))] := hl
  refine lv_aload_n hx hb dX5_collect_0 rfl (lv_at hl 0 rfl) ?_
  refine c_get (v := .ref (a 28)) (C := RX5) (Tc := TX5) (N := 19) (ci := 4) hx hb hq pin_wsX50 hown hE hP hO 28 (sg_28 G h0 a _ _ _ _ _) rfl 1 (by decide) (hq _ pw_473) (fun _ h9 => h9) rfl dX5_collect_1 ?_
  have hO : OKW G h0 a (upd (upd F 22 0) 26 (nI ht)) (updR (updR (updR R 6 (.null)) 7 (.ref (a sp))) 8 (.ref (a op))) Z B J T Pi w := hO.to rfl
  obtain ⟨_, qr4, hqr5⟩ := hO.2.1 29 _ (sg_29 G h0 a _ _ _ _ _)
  refine pc_V0 (G := G) (As := []) (rest := []) hx hb hml hown hq hE hX pX0_al hP hD hS hA hl.1 (K_beginCollecting l G h0 a (upd (upd F 22 0) 26 (nI ht)) (updR (updR (updR R 6 (.null)) 7 (.ref (a sp))) 8 (.ref (a op))) Z B J T Pi w hO) (gV pw_521 pw_522 pw_523 pw_440 pw_457) hV_X3_beginCollecting qr4 3 hqr5 rfl rfl rfl (Nat.le_of_ble_eq_true rfl) dX5_collect_4 ⟨Nat.le_of_ble_eq_true rfl, Nat.le_of_ble_eq_true rfl⟩ ⟨Nat.le_of_ble_eq_true rfl, Nat.le_of_ble_eq_true rfl⟩ (fun v3 u1 H locs hw2 hP hD hS => ?_)
  obtain ⟨w, _⟩ := u1
  obtain ⟨hw2, hO⟩ := hw2
  obtain rfl : v3 = none := hw2
  have hO : OKW G h0 a (upd (upd (upd F 22 0) 26 (nI ht)) 27 8) (updR (updR (updR R 6 (.null)) 7 (.ref (a sp))) 8 (.ref (a op))) Z B J T Pi w := hO.to rfl
  refine W.widen (k := 0) (n := 0) (Nat.le_of_ble_eq_true rfl) (Nat.le_of_ble_eq_true rfl) ?_
  refine W.eq (g2 := F0 m 7 ls []) rfl ?_
  refine lv_aload_n hx hb dX5_collect_7 rfl (lv_at hl 0 rfl) ?_
  refine c_get (v := .int (F 18)) (C := RX5) (Tc := TX5) (N := 19) (ci := 4) hx hb hq pin_wsX50 hown hE hP hO 28 (sg_28 G h0 a _ _ _ _ _) rfl 10 (by decide) (hq _ pw_504) (fun _ h9 => h9) rfl dX5_collect_8 ?_
  refine lv_istore_n (lv' := [(1, .int (F 18)), (0, .ref (a 5))]) hx hb dX5_collect_11 rfl hl (by decide) rfl (fun ls hl => ?_)
  refine lv_aload_n hx hb dX5_collect_12 rfl (lv_at hl 1 rfl) ?_
  refine c_get (v := .int (F 19)) (C := RX5) (Tc := TX5) (N := 19) (ci := 4) hx hb hq pin_wsX50 hown hE hP hO 28 (sg_28 G h0 a _ _ _ _ _) rfl 11 (by decide) (hq _ pw_505) (fun _ h9 => h9) rfl dX5_collect_13 ?_
  refine lv_istore_n (lv' := [(2, .int (F 19)), (1, .int (F 18)), (0, .ref (a 5))]) hx hb dX5_collect_16 rfl hl (by decide) rfl (fun ls hl => ?_)
  refine lv_aload_n hx hb dX5_collect_17 rfl (lv_at hl 2 rfl) ?_
  refine c_get (v := .int (F 20)) (C := RX5) (Tc := TX5) (N := 19) (ci := 4) hx hb hq pin_wsX50 hown hE hP hO 28 (sg_28 G h0 a _ _ _ _ _) rfl 12 (by decide) (hq _ pw_506) (fun _ h9 => h9) rfl dX5_collect_18 ?_
  refine lv_istore_n (lv' := [(3, .int (F 20)), (2, .int (F 19)), (1, .int (F 18)), (0, .ref (a 5))]) hx hb dX5_collect_21 rfl hl (by decide) rfl (fun ls hl => ?_)
  refine lv_aload_n hx hb dX5_collect_22 rfl (lv_at hl 3 rfl) ?_
  refine c_get (v := .null) (C := RX5) (Tc := TX5) (N := 19) (ci := 4) hx hb hq pin_wsX50 hown hE hP hO 28 (sg_28 G h0 a _ _ _ _ _) rfl 9 (by decide) (hq _ pw_503) (fun _ h9 => h9) rfl dX5_collect_23 ?_
  refine lv_astoreN (lv' := [(4, .null), (3, .int (F 20)), (2, .int (F 19)), (1, .int (F 18)), (0, .ref (a 5))]) hx hb dX5_collect_26 hl (by decide) rfl (fun ls hl => ?_)
  refine lv_aload_n hx hb dX5_collect_28 rfl (lv_at hl 4 rfl) ?_
  refine c_get (v := .int 0) (C := RX5) (Tc := TX5) (N := 19) (ci := 4) hx hb hq pin_wsX50 hown hE hP hO 28 (sg_28 G h0 a _ _ _ _ _) rfl 15 (by decide) (hq _ pw_502) (fun _ h9 => h9) rfl dX5_collect_29 ?_
  refine lv_iconst (v := 1) hx hb dX5_collect_32 (by decide) ?_
  refine lv_isub hx hb dX5_collect_33 ?_
  refine lv_topi (fun x6 e7 => ?_)
  obtain rfl : x6 = (-1) := e7.trans (by decide)
  refine lv_istore (lv' := [(5, .int (-1)), (4, .null), (3, .int (F 20)), (2, .int (F 19)), (1, .int (F 18)), (0, .ref (a 5))]) hx hb dX5_collect_34 hl (by decide) rfl (fun ls hl => ?_)
  refine lv_iload hx hb dX5_collect_36 (lv_at hl 0 rfl) ?_
  refine lv_if_lt (tgt := 185) hx hb dX5_collect_38 (by decide) (fun c8 => ?_) (fun c8 => absurd c8 (by decide))
  refine lv_aload_n hx hb dX5_collect_185 rfl (lv_at hl 5 rfl) ?_
  refine c_get (v := .ref (a 28)) (C := RX5) (Tc := TX5) (N := 19) (ci := 4) hx hb hq pin_wsX50 hown hE hP hO 28 (sg_28 G h0 a _ _ _ _ _) rfl 1 (by decide) (hq _ pw_473) (fun _ h9 => h9) rfl dX5_collect_186 ?_
  have hO : OKW G h0 a (upd (upd (upd (upd (upd F 22 0) 26 (nI ht)) 27 8) 26 (nI ht)) 27 8) (updR (updR (updR (updR (updR R 6 (.null)) 7 (.ref (a sp))) 8 (.ref (a op))) 7 (.ref (a sp))) 8 (.ref (a op))) Z B J T Pi w := hO.to rfl
  obtain ⟨_, qr12, hqr13⟩ := hO.2.1 29 _ (sg_29 G h0 a _ _ _ _ _)
  refine pc_V0 (G := G) (As := []) (rest := []) hx hb hml hown hq hE hX pX0_al hP hD hS hA hl.1 (Y_endColl0 l G h0 a (upd (upd (upd F 22 0) 26 (nI ht)) 27 8) (updR (updR (updR R 6 (.null)) 7 (.ref (a sp))) 8 (.ref (a op))) Z B J T Pi w sp op ht hsp hO) (gV pw_531 pw_532 pw_533 pw_440 pw_464) hV_X3_endCollecting qr12 3 hqr13 rfl rfl rfl (Nat.le_of_ble_eq_true rfl) dX5_collect_189 ⟨Nat.le_of_ble_eq_true rfl, Nat.le_of_ble_eq_true rfl⟩ ⟨Nat.le_of_ble_eq_true rfl, Nat.le_of_ble_eq_true rfl⟩ (fun v11 u9 H locs hw10 hP hD hS => ?_)
  obtain ⟨w, _⟩ := u9
  obtain ⟨hw10, hO⟩ := hw10
  obtain rfl : v11 = none := hw10
  have hO : OKW G h0 a (upd (upd (upd F 22 0) 26 8) 27 8) (updR (updR (updR R 6 (.null)) 7 (.ref (a op))) 8 (.ref (a sp))) Z B J T Pi w := hO.to rfl
  refine W.widen (k := 0) (n := 0) (Nat.le_of_ble_eq_true rfl) (Nat.le_of_ble_eq_true rfl) ?_
  refine W.eq (g2 := F0 m 192 ls []) rfl ?_
  have hO : OKW G h0 a (upd (upd (upd F 22 0) 26 8) 27 8) (updR (updR (updR R 6 (.null)) 7 (.ref (a op))) 8 (.ref (a sp))) Z B J T Pi w := hO.to rfl
  exact W.vret hx hb hr (fun t99 ht99 hW99 => ⟨⟨_, (w, ()), rfl, ⟨rfl, hO⟩, by rw [ht99]; exact hP, hD⟩, hS.F ht99⟩) hS.2.2 dX5_collect_192
set_option maxHeartbeats 20000000 in
set_option maxRecDepth 100000 in
theorem Y_make0 (l : Launch) (G : pT) (h0 : Nat) (a : Nat → Nat) (F : Nat → Int32) (R : Nat → Value) (Z : Int64) (B : Nat → Nat → Int32) (J : Nat → Nat → Int64) (T : Nat → Nat) (Pi : Nat → va_E → Prop) (w : va_W) (sp : Nat) (op : Nat) (fl : Nat) (lm : Nat) (d9 : Nat) (c9 : Nat) (hsp : (sp = 34 ∧ op = 35) ∨ (sp = 35 ∧ op = 34)) (hfl : B 33 5 = nI fl) (hlm : lm ≤ 3008) (hle : LoE J sp op) (hc9 : 1 ≤ c9 ∧ c9 ≤ 200000 ∧ d9 < 128) (hO : OKW G h0 a (upd (upd (upd (upd (upd F 19 0) 22 0) 23 5) 26 8) 28 (nI lm)) (updR (updR (updR R 6 (.null)) 7 (.ref (a sp))) 8 (.ref (a op))) Z B J T Pi w) : PM l G pX0 yX5_make cX5_make 4 none ({ frames := 5, cells := 0, slots := 0, locals := 129 }) [.ref (a 5), .int (nI d9), .long (lN c9)] w (fun (v : Option Value) (u : va_W × (Nat × Int32 × (Nat → Nat → Int64) × (Nat → Int32) × Nat × Nat × Nat × Int32)) => v = none ∧ (MdQ J u.2.2.2.1 sp u.2.2.2.2.2.1 c9 d9 u.2.1 u.2.2.2.2.2.2.2.1 u.2.2.1) ∧ (u.2.2.2.2.1 5 = nI fl) ∧ ((u.2.2.2.2.2.1 = 34 ∧ u.2.2.2.2.2.2.1 = 35) ∨ (u.2.2.2.2.2.1 = 35 ∧ u.2.2.2.2.2.2.1 = 34)) ∧ ((8 ≤ u.2.2.2.2.2.2.2.1 ∧ u.2.2.2.2.2.2.2.1 ≤ 3008) ∧ u.2.1 ≤ 1) ∧ (LoE u.2.2.2.1 u.2.2.2.2.2.1 u.2.2.2.2.2.2.1) ∧ (OKW G h0 a (upd (upd (upd (upd (upd (upd F 19 (nI u.2.1)) 22 0) 23 u.2.2.1) 26 (nI u.2.2.2.2.2.2.2.1)) 27 u.2.2.2.2.2.2.2.2) 28 (nI lm)) (updR (updR (updR R 6 (.null)) 7 (.ref (a u.2.2.2.2.2.1))) 8 (.ref (a u.2.2.2.2.2.2.1))) Z (updA B 33 u.2.2.2.2.1) u.2.2.2.1 T Pi u.1)) (fun u => u.1) := by
  intro sz
  refine Met.ofW (cc := cX5_make) (maxL := 4) (ret := none) (by decide) rfl ?_
  intro p e s m args below meth c s₁ B9 hml hv
  obtain ⟨rfl, hsz, hP, hD0, hE, hX⟩ := hv
  have hx := B9.exec
  have hb := B9.bytes
  have hr := B9.returns
  have hts := atoms_spec (ws := Cond.code yX5_make cX5_make 4 none :: pw) B9.pre
  have hq : ∀ w ∈ pw, w.before _ s = true := fun w h => hts w (List.mem_cons_of_mem _ h)
  have hown : s.vm.findClass RX5 = some m.cls := findClass_of_methodNamed B9.named
  have hlocks := B9.notSynchronized
  subst hsz
  have hD := hD0.self (sz := s.heap.size)
  have hA : ∀ q : Nat, s.heap.size ≤ q → va_A w s.heap.size q := fun q h => Or.inr h
  generalize va_A w s.heap.size = A at hD hE hA ⊢
  have hS : va_S A s.heap s.heap [] := va_S.rf
  have hl := lv_entry ([.ref (a 5), .int (nI d9), .long (lN c9)]) (n := 4) (Nat.le_of_ble_eq_true rfl)
  rw [lg_entry_eq]
  generalize (lg_sl ([.ref (a 5), .int (nI d9), .long (lN c9)]) ++ List.replicate (4 - (lg_sl ([.ref (a 5), .int (nI d9), .long (lN c9)])).length) Slot.unset).toArray = ls at hl ⊢
  have hl : lv_has ls 4 [(0, .ref (a 5)), (1, .int (nI d9)), (2, .long (lN c9))] := hl
  refine lv_aload_n hx hb dX5_make_0 rfl (lv_at hl 0 rfl) ?_
  refine c_get (v := .ref (a 28)) (C := RX5) (Tc := TX5) (N := 19) (ci := 4) hx hb hq pin_wsX50 hown hE hP hO 28 (sg_28 G h0 a _ _ _ _ _) rfl 1 (by decide) (hq _ pw_473) (fun _ h9 => h9) rfl dX5_make_1 ?_
  refine lv_lload_n hx hb dX5_make_4 rfl (lv_at hl 2 rfl) ?_
  have hO : OKW G h0 a (upd (upd (upd (upd (upd (upd (upd F 19 0) 22 0) 23 5) 26 8) 28 (nI lm)) 26 (nI 8)) 28 (nI lm)) (updR (updR (updR R 6 (.null)) 7 (.ref (a sp))) 8 (.ref (a op))) Z B J T Pi w := hO.to rfl
  obtain ⟨_, qr4, hqr5⟩ := hO.2.1 29 _ (sg_29 G h0 a _ _ _ _ _)
  refine pc_V0 (G := G) (As := [.long (lN c9)]) (rest := []) hx hb hml hown hq hE hX pX0_al hP hD hS hA hl.1 (Y_hasRoom l G h0 a (upd (upd (upd (upd (upd F 19 0) 22 0) 23 5) 26 8) 28 (nI lm)) (updR (updR (updR R 6 (.null)) 7 (.ref (a sp))) 8 (.ref (a op))) Z B J T Pi w c9 8 lm (by omega) hO) (gV pw_540 pw_541 pw_542 pw_440 pw_425) hV_X3_hasRoom qr4 3 hqr5 rfl rfl rfl (Nat.le_of_ble_eq_true rfl) dX5_make_5 ⟨Nat.le_of_ble_eq_true rfl, Nat.le_of_ble_eq_true rfl⟩ ⟨Nat.le_of_ble_eq_true rfl, Nat.le_of_ble_eq_true rfl⟩ (fun v3 u1 H locs hw2 hP hD hS => ?_)
  obtain ⟨w, r6⟩ := u1
  obtain ⟨hw2, h7, h8, h9, hO⟩ := hw2
  have h7 : r6 ≤ 1 := h7
  have h8 : If (r6 = 1) (8 + c9 ≤ lm) := h8
  have h9 : If (r6 = 0) (¬ 8 + c9 ≤ lm) := h9
  obtain rfl : v3 = some (.int (nI r6)) := hw2
  have hO : OKW G h0 a (upd (upd (upd (upd (upd F 19 0) 22 0) 23 5) 26 8) 28 (nI lm)) (updR (updR (updR R 6 (.null)) 7 (.ref (a sp))) 8 (.ref (a op))) Z B J T Pi w := hO.to rfl
  refine W.widen (k := 0) (n := 0) (Nat.le_of_ble_eq_true rfl) (Nat.le_of_ble_eq_true rfl) ?_
  refine W.eq (g2 := F0 m 8 ls [.int (nI r6)]) rfl ?_
  refine lv_if_ne (tgt := 15) hx hb dX5_make_8 (by decide) (fun c10 => ?_) (fun c10 => ?_)
  · have n11 : ¬ (r6 = 0) := fun h9 => c10 ((nI_eq (a := r6) (b := 0) (by omega) (by omega)).mpr h9)
    refine lv_aload_n hx hb dX5_make_15 rfl (lv_at hl 0 rfl) ?_
    refine c_get (v := .ref (a 28)) (C := RX5) (Tc := TX5) (N := 19) (ci := 4) hx hb hq pin_wsX50 hown hE hP hO 28 (sg_28 G h0 a _ _ _ _ _) rfl 1 (by decide) (hq _ pw_473) (fun _ h9 => h9) rfl dX5_make_16 ?_
    refine lv_lload_n hx hb dX5_make_19 rfl (lv_at hl 2 rfl) ?_
    have hO : OKW G h0 a (upd (upd (upd (upd (upd (upd (upd F 19 0) 22 0) 23 5) 26 8) 28 (nI lm)) 26 (nI 8)) 28 (nI lm)) (updR (updR (updR R 6 (.null)) 7 (.ref (a sp))) 8 (.ref (a op))) Z B J T Pi w := hO.to rfl
    obtain ⟨_, qr15, hqr16⟩ := hO.2.1 29 _ (sg_29 G h0 a _ _ _ _ _)
    refine pc_V0 (G := G) (As := [.long (lN c9)]) (rest := []) hx hb hml hown hq hE hX pX0_al hP hD hS hA hl.1 (Y_hasRoom l G h0 a (upd (upd (upd (upd (upd F 19 0) 22 0) 23 5) 26 8) 28 (nI lm)) (updR (updR (updR R 6 (.null)) 7 (.ref (a sp))) 8 (.ref (a op))) Z B J T Pi w c9 8 lm (by omega) hO) (gV pw_540 pw_541 pw_542 pw_440 pw_425) hV_X3_hasRoom qr15 3 hqr16 rfl rfl rfl (Nat.le_of_ble_eq_true rfl) dX5_make_20 ⟨Nat.le_of_ble_eq_true rfl, Nat.le_of_ble_eq_true rfl⟩ ⟨Nat.le_of_ble_eq_true rfl, Nat.le_of_ble_eq_true rfl⟩ (fun v14 u12 H locs hw13 hP hD hS => ?_)
    obtain ⟨w, r17⟩ := u12
    obtain ⟨hw13, h18, h19, h20, hO⟩ := hw13
    have h18 : r17 ≤ 1 := h18
    have h19 : If (r17 = 1) (8 + c9 ≤ lm) := h19
    have h20 : If (r17 = 0) (¬ 8 + c9 ≤ lm) := h20
    obtain rfl : v14 = some (.int (nI r17)) := hw13
    have hO : OKW G h0 a (upd (upd (upd (upd (upd F 19 0) 22 0) 23 5) 26 8) 28 (nI lm)) (updR (updR (updR R 6 (.null)) 7 (.ref (a sp))) 8 (.ref (a op))) Z B J T Pi w := hO.to rfl
    refine W.widen (k := 0) (n := 0) (Nat.le_of_ble_eq_true rfl) (Nat.le_of_ble_eq_true rfl) ?_
    refine W.eq (g2 := F0 m 23 ls [.int (nI r17)]) rfl ?_
    refine lv_if_ne (tgt := 32) hx hb dX5_make_23 (by decide) (fun c21 => ?_) (fun c21 => ?_)
    · have n22 : ¬ (r17 = 0) := fun h9 => c21 ((nI_eq (a := r17) (b := 0) (by omega) (by omega)).mpr h9)
      have hroom := h19 (by omega)
      refine lv_aload_n hx hb dX5_make_32 rfl (lv_at hl 0 rfl) ?_
      refine lv_aload_n hx hb dX5_make_33 rfl (lv_at hl 0 rfl) ?_
      refine c_get (v := .ref (a 28)) (C := RX5) (Tc := TX5) (N := 19) (ci := 4) hx hb hq pin_wsX50 hown hE hP hO 28 (sg_28 G h0 a _ _ _ _ _) rfl 1 (by decide) (hq _ pw_473) (fun _ h9 => h9) rfl dX5_make_34 ?_
      refine lv_iload_n hx hb dX5_make_37 rfl (lv_at hl 1 rfl) ?_
      refine lv_lload_n hx hb dX5_make_38 rfl (lv_at hl 2 rfl) ?_
      refine lv_l2i hx hb dX5_make_39 rfl ?_
      refine lv_topi (fun x23 e24 => ?_)
      rw [show x23 = nI c9 from e24.trans (lN_i _)]
      have hO : OKW G h0 a (upd (upd (upd (upd (upd (upd F 19 0) 22 0) 23 5) 26 8) 28 (nI lm)) 26 (nI 8)) (updR (updR (updR (updR (updR R 6 (.null)) 7 (.ref (a sp))) 8 (.ref (a op))) 7 (.ref (a sp))) 8 (.ref (a op))) Z B J T Pi w := hO.to rfl
      obtain ⟨_, qr28, hqr29⟩ := hO.2.1 29 _ (sg_29 G h0 a _ _ _ _ _)
      refine pc_V0 (G := G) (As := [.int (nI d9), .int (nI c9)]) (rest := [.ref (a 5)]) hx hb hml hown hq hE hX pX0_al hP hD hS hA hl.1 (Y_hmake l G h0 a (upd (upd (upd (upd (upd F 19 0) 22 0) 23 5) 26 8) 28 (nI lm)) (updR (updR (updR R 6 (.null)) 7 (.ref (a sp))) 8 (.ref (a op))) Z B J T Pi w d9 c9 sp op 8 hsp (by omega) (by omega) hO) (gV pw_546 pw_547 pw_548 pw_440 pw_434) hV_X3_make qr28 3 hqr29 rfl rfl rfl (Nat.le_of_ble_eq_true rfl) dX5_make_40 ⟨Nat.le_of_ble_eq_true rfl, Nat.le_of_ble_eq_true rfl⟩ ⟨Nat.le_of_ble_eq_true rfl, Nat.le_of_ble_eq_true rfl⟩ (fun v27 u25 H locs hw26 hP hD hS => ?_)
      obtain ⟨w, J30⟩ := u25
      obtain ⟨hw26, h31, h32, h33, h34, h35, hO⟩ := hw26
      have h31 : J30 sp 8 = hdV c9 d9 := h31
      have h32 : ∀ i : Nat, 1 ≤ i → i < c9 → J30 sp (8 + i) = 0 := h32
      have h33 : ∀ i : Nat, i < 8 → J30 sp i = J sp i := h33
      have h34 : J30 29 = (J 29) := h34
      have h35 : J30 op = J op := h35
      obtain rfl : v27 = some (.long (rfV 8)) := hw26
      have hO : OKW G h0 a (upd (upd (upd (upd (upd F 19 0) 22 0) 23 5) 26 (nI (8 + c9))) 28 (nI lm)) (updR (updR (updR R 6 (.null)) 7 (.ref (a sp))) 8 (.ref (a op))) Z B J30 T Pi w := hO.to rfl
      refine W.widen (k := 0) (n := 0) (Nat.le_of_ble_eq_true rfl) (Nat.le_of_ble_eq_true rfl) ?_
      refine W.eq (g2 := F0 m 43 ls [.long (rfV 8), .ref (a 5)]) rfl ?_
      have hO : OKW G h0 a (upd (upd (upd (upd (upd (upd F 19 0) 22 0) 23 5) 26 (nI (8 + c9))) 28 (nI lm)) 19 (nI 0)) (updR (updR (updR R 6 (.null)) 7 (.ref (a sp))) 8 (.ref (a op))) Z B J30 T Pi w := hO.to rfl
      obtain ⟨_, qr39, hqr40⟩ := hO.2.1 28 _ (sg_28 G h0 a _ _ _ _ _)
      refine pc_V0 (G := G) (As := [.long (rfV 8)]) (rest := []) hx hb hml hown hq hE hX pX0_al hP hD hS hA hl.1 (Y_push l G h0 a (upd (upd (upd (upd (upd F 19 0) 22 0) 23 5) 26 (nI (8 + c9))) 28 (nI lm)) (updR (updR (updR R 6 (.null)) 7 (.ref (a sp))) 8 (.ref (a op))) Z B J30 T Pi w (rfV 8) 0 (by omega) hO) (gV pw_549 pw_550 pw_551 pw_539 pw_535) hV_X5_push qr39 4 hqr40 rfl rfl rfl (Nat.le_of_ble_eq_true rfl) dX5_make_43 ⟨Nat.le_of_ble_eq_true rfl, Nat.le_of_ble_eq_true rfl⟩ ⟨Nat.le_of_ble_eq_true rfl, Nat.le_of_ble_eq_true rfl⟩ (fun v38 u36 H locs hw37 hP hD hS => ?_)
      obtain ⟨w, _⟩ := u36
      obtain ⟨hw37, hO⟩ := hw37
      obtain rfl : v38 = none := hw37
      have hO : OKW G h0 a (upd (upd (upd (upd (upd F 19 (nI (0 + 1))) 22 0) 23 5) 26 (nI (8 + c9))) 28 (nI lm)) (updR (updR (updR R 6 (.null)) 7 (.ref (a sp))) 8 (.ref (a op))) Z B (updJ J30 29 (vp_updL ((J30 29)) 0 (rfV 8))) T Pi w := hO.to rfl
      refine W.widen (k := 0) (n := 0) (Nat.le_of_ble_eq_true rfl) (Nat.le_of_ble_eq_true rfl) ?_
      refine W.eq (g2 := F0 m 46 ls []) rfl ?_
      refine lv_aload_n hx hb dX5_make_46 rfl (lv_at hl 0 rfl) ?_
      refine c_get (v := .ref (a 33)) (C := RX5) (Tc := TX5) (N := 19) (ci := 4) hx hb hq pin_wsX50 hown hE hP hO 28 (sg_28 G h0 a _ _ _ _ _) rfl 7 (by decide) (hq _ pw_478) (fun _ h9 => h9) rfl dX5_make_47 ?_
      refine lv_bipush (v := 8) hx hb dX5_make_50 (by decide) ?_
      refine lv_dup2_11 hx hb dX5_make_52 rfl rfl ?_
      refine c_ldi (f := (B 33)) (n := 12) (t0 := 0) hx hb hE hP hO 36 (sg_36 G h0 a _ _ _ _ _) rfl (by unfold vp_in; decide) dX5_make_53 ?_
      refine W.eq (g2 := F0 m 54 ls [.int ((B 33) 8), .int 8, .ref (a 33)]) rfl ?_
      refine lv_topi (fun x41 e42 => ?_)
      refine lv_iconst (v := 1) hx hb dX5_make_54 (by decide) ?_
      refine lv_iadd hx hb dX5_make_55 ?_
      refine lv_topi (fun x43 e44 => ?_)
      refine c_sti (f := (B 33)) (n := 12) (t0 := 0) hx hb hE hP hD hS hO 36 (sg_36 G h0 a _ _ _ _ _) rfl (by unfold vp_in; decide) (sb_33 G h0 a _ _ _ _ _ _) dX5_make_56 (fun H locs w hP hD hS hO => ?_)
      refine lv_aload_n hx hb dX5_make_57 rfl (lv_at hl 0 rfl) ?_
      refine c_get (v := .ref (a 33)) (C := RX5) (Tc := TX5) (N := 19) (ci := 4) hx hb hq pin_wsX50 hown hE hP hO 28 (sg_28 G h0 a _ _ _ _ _) rfl 7 (by decide) (hq _ pw_478) (fun _ h9 => h9) rfl dX5_make_58 ?_
      refine lv_bipush (v := 9) hx hb dX5_make_61 (by decide) ?_
      refine lv_dup2_11 hx hb dX5_make_63 rfl rfl ?_
      refine c_ldi (f := (upd (B 33) 8 x43)) (n := 12) (t0 := 0) hx hb hE hP hO 36 (sg_36 G h0 a _ _ _ _ _) rfl (by unfold vp_in; decide) dX5_make_64 ?_
      refine W.eq (g2 := F0 m 65 ls [.int ((upd (B 33) 8 x43) 9), .int 9, .ref (a 33)]) rfl ?_
      refine lv_topi (fun x45 e46 => ?_)
      refine lv_lload_n hx hb dX5_make_65 rfl (lv_at hl 2 rfl) ?_
      refine lv_l2i hx hb dX5_make_66 rfl ?_
      refine lv_topi (fun x47 e48 => ?_)
      rw [show x47 = nI c9 from e48.trans (lN_i _)]
      refine lv_iadd hx hb dX5_make_67 ?_
      refine lv_topi (fun x49 e50 => ?_)
      refine c_sti (f := (upd (B 33) 8 x43)) (n := 12) (t0 := 0) hx hb hE hP hD hS hO 36 (sg_36 G h0 a _ _ _ _ _) rfl (by unfold vp_in; decide) (sb_33 G h0 a _ _ _ _ _ _) dX5_make_68 (fun H locs w hP hD hS hO => ?_)
      have h29 : ¬ sp = 29 ∧ ¬ op = 29 := by omega
      have hz51 : MdQ J (updJ J30 29 (vp_updL ((J30 29)) 0 (rfV 8))) sp sp c9 d9 (0 + 1) (8 + c9) (5 : Int32) := (Or.inr ⟨rfl, rfl, rfl, rfl, by omega, (updJ_at.trans vpL_eq), (by rw [updJ_ne h29.1]; exact h31), (by rw [updJ_ne h29.1]; exact h32), (by rw [updJ_ne h29.1]; exact h33)⟩)
      have hz52 : (upd (upd (B 33) 8 x43) 9 x49) 5 = nI fl := ((if_neg (by decide)).trans ((if_neg (by decide)).trans hfl))
      have hz53 : (sp = 34 ∧ op = 35) ∨ (sp = 35 ∧ op = 34) := hsp
      have hz54 : (8 ≤ (8 + c9) ∧ (8 + c9) ≤ 3008) ∧ (0 + 1) ≤ 1 := (by omega)
      have hz55 : LoE (updJ J30 29 (vp_updL ((J30 29)) 0 (rfV 8))) sp op := (LoE.mk hle h33 h35 trivial h29 (by omega))
      have hO : OKW G h0 a (upd (upd (upd (upd (upd (upd F 19 (nI (0 + 1))) 22 0) 23 (5 : Int32)) 26 (nI (8 + c9))) 27 (F 27)) 28 (nI lm)) (updR (updR (updR R 6 (.null)) 7 (.ref (a sp))) 8 (.ref (a op))) Z (updA B 33 (upd (upd (B 33) 8 x43) 9 x49)) (updJ J30 29 (vp_updL ((J30 29)) 0 (rfV 8))) T Pi w := hO.to rfl
      exact W.vret hx hb hr (fun t99 ht99 hW99 => ⟨⟨_, (w, ((0 + 1), (5 : Int32), (updJ J30 29 (vp_updL ((J30 29)) 0 (rfV 8))), (upd (upd (B 33) 8 x43) 9 x49), sp, op, (8 + c9), (F 27))), rfl, ⟨rfl, hz51, hz52, hz53, hz54, hz55, hO⟩, by rw [ht99]; exact hP, hD⟩, hS.F ht99⟩) hS.2.2 dX5_make_69
    · have n56 : r17 = 0 := (nI_eq (a := r17) (b := 0) (by omega) (by omega)).mp c21
      refine lv_aload_n hx hb dX5_make_26 rfl (lv_at hl 0 rfl) ?_
      refine lv_iconst (v := 3) hx hb dX5_make_27 (by decide) ?_
      refine c_put (v := .int 3) (ty := .int) (C := RX5) (Tc := TX5) (N := 19) (ci := 4) hx hb hq pin_wsX50 tyX5 tyX5_ok nmX5 hown hE hP hD hS hO 28 (sg_28 G h0 a _ _ _ _ _) rfl 16 (by decide) (hq _ pw_513) (fun _ h9 => h9) rfl (by decide +kernel) rfl rfl (Nat.le_of_ble_eq_true rfl) (sf_23 G h0 a _ _ _ _ _ 3) dX5_make_28 (fun H locs w hP hD hS hO => ?_)
      have hz57 : MdQ J J sp sp c9 d9 0 8 (3 : Int32) := (Or.inl ⟨rfl, rfl⟩)
      have hz58 : (B 33) 5 = nI fl := hfl
      have hz59 : (sp = 34 ∧ op = 35) ∨ (sp = 35 ∧ op = 34) := (by omega)
      have hz60 : (8 ≤ 8 ∧ 8 ≤ 3008) ∧ 0 ≤ 1 := (by omega)
      have hz61 : LoE J sp op := hle
      have hO : OKW G h0 a (upd (upd (upd (upd (upd (upd F 19 (nI 0)) 22 0) 23 (3 : Int32)) 26 (nI 8)) 27 (F 27)) 28 (nI lm)) (updR (updR (updR R 6 (.null)) 7 (.ref (a sp))) 8 (.ref (a op))) Z (updA B 33 (B 33)) J T Pi w := hO.to rfl
      exact W.vret hx hb hr (fun t99 ht99 hW99 => ⟨⟨_, (w, (0, (3 : Int32), J, (B 33), sp, op, 8, (F 27))), rfl, ⟨rfl, hz57, hz58, hz59, hz60, hz61, hO⟩, by rw [ht99]; exact hP, hD⟩, hS.F ht99⟩) hS.2.2 dX5_make_31
  · have n62 : r6 = 0 := (nI_eq (a := r6) (b := 0) (by omega) (by omega)).mp c10
    have hno := h9 (by omega)
    refine lv_aload_n hx hb dX5_make_11 rfl (lv_at hl 0 rfl) ?_
    have hO : OKW G h0 a (upd (upd (upd (upd (upd (upd (upd F 19 0) 22 0) 23 5) 26 8) 28 (nI lm)) 22 0) 26 (nI 8)) (updR (updR (updR (updR (updR (updR R 6 (.null)) 7 (.ref (a sp))) 8 (.ref (a op))) 6 (.null)) 7 (.ref (a sp))) 8 (.ref (a op))) Z B J T Pi w := hO.to rfl
    obtain ⟨_, qr66, hqr67⟩ := hO.2.1 28 _ (sg_28 G h0 a _ _ _ _ _)
    refine pc_V0 (G := G) (As := []) (rest := []) hx hb hml hown hq hE hX pX0_al hP hD hS hA hl.1 (Y_collect0 l G h0 a (upd (upd (upd (upd (upd F 19 0) 22 0) 23 5) 26 8) 28 (nI lm)) (updR (updR (updR R 6 (.null)) 7 (.ref (a sp))) 8 (.ref (a op))) Z B J T Pi w sp op 8 hsp hO) (gV pw_543 pw_544 pw_545 pw_539 pw_534) hV_X5_collect qr66 4 hqr67 rfl rfl rfl (Nat.le_of_ble_eq_true rfl) dX5_make_12 ⟨Nat.le_of_ble_eq_true rfl, Nat.le_of_ble_eq_true rfl⟩ ⟨Nat.le_of_ble_eq_true rfl, Nat.le_of_ble_eq_true rfl⟩ (fun v65 u63 H locs hw64 hP hD hS => ?_)
    obtain ⟨w, _⟩ := u63
    obtain ⟨hw64, hO⟩ := hw64
    obtain rfl : v65 = none := hw64
    have hO : OKW G h0 a (upd (upd (upd (upd (upd (upd F 19 0) 22 0) 23 5) 26 8) 27 8) 28 (nI lm)) (updR (updR (updR R 6 (.null)) 7 (.ref (a op))) 8 (.ref (a sp))) Z B J T Pi w := hO.to rfl
    refine W.widen (k := 0) (n := 0) (Nat.le_of_ble_eq_true rfl) (Nat.le_of_ble_eq_true rfl) ?_
    refine W.eq (g2 := F0 m 15 ls []) rfl ?_
    refine lv_aload_n hx hb dX5_make_15 rfl (lv_at hl 0 rfl) ?_
    refine c_get (v := .ref (a 28)) (C := RX5) (Tc := TX5) (N := 19) (ci := 4) hx hb hq pin_wsX50 hown hE hP hO 28 (sg_28 G h0 a _ _ _ _ _) rfl 1 (by decide) (hq _ pw_473) (fun _ h9 => h9) rfl dX5_make_16 ?_
    refine lv_lload_n hx hb dX5_make_19 rfl (lv_at hl 2 rfl) ?_
    have hO : OKW G h0 a (upd (upd (upd (upd (upd (upd (upd (upd F 19 0) 22 0) 23 5) 26 8) 27 8) 28 (nI lm)) 26 (nI 8)) 28 (nI lm)) (updR (updR (updR R 6 (.null)) 7 (.ref (a op))) 8 (.ref (a sp))) Z B J T Pi w := hO.to rfl
    obtain ⟨_, qr71, hqr72⟩ := hO.2.1 29 _ (sg_29 G h0 a _ _ _ _ _)
    refine pc_V0 (G := G) (As := [.long (lN c9)]) (rest := []) hx hb hml hown hq hE hX pX0_al hP hD hS hA hl.1 (Y_hasRoom l G h0 a (upd (upd (upd (upd (upd (upd F 19 0) 22 0) 23 5) 26 8) 27 8) 28 (nI lm)) (updR (updR (updR R 6 (.null)) 7 (.ref (a op))) 8 (.ref (a sp))) Z B J T Pi w c9 8 lm (by omega) hO) (gV pw_540 pw_541 pw_542 pw_440 pw_425) hV_X3_hasRoom qr71 3 hqr72 rfl rfl rfl (Nat.le_of_ble_eq_true rfl) dX5_make_20 ⟨Nat.le_of_ble_eq_true rfl, Nat.le_of_ble_eq_true rfl⟩ ⟨Nat.le_of_ble_eq_true rfl, Nat.le_of_ble_eq_true rfl⟩ (fun v70 u68 H locs hw69 hP hD hS => ?_)
    obtain ⟨w, r73⟩ := u68
    obtain ⟨hw69, h74, h75, h76, hO⟩ := hw69
    have h74 : r73 ≤ 1 := h74
    have h75 : If (r73 = 1) (8 + c9 ≤ lm) := h75
    have h76 : If (r73 = 0) (¬ 8 + c9 ≤ lm) := h76
    obtain rfl : v70 = some (.int (nI r73)) := hw69
    have hO : OKW G h0 a (upd (upd (upd (upd (upd (upd F 19 0) 22 0) 23 5) 26 8) 27 8) 28 (nI lm)) (updR (updR (updR R 6 (.null)) 7 (.ref (a op))) 8 (.ref (a sp))) Z B J T Pi w := hO.to rfl
    refine W.widen (k := 0) (n := 0) (Nat.le_of_ble_eq_true rfl) (Nat.le_of_ble_eq_true rfl) ?_
    refine W.eq (g2 := F0 m 23 ls [.int (nI r73)]) rfl ?_
    refine lv_if_ne (tgt := 32) hx hb dX5_make_23 (by decide) (fun c77 => ?_) (fun c77 => ?_)
    · have n78 : ¬ (r73 = 0) := fun h9 => c77 ((nI_eq (a := r73) (b := 0) (by omega) (by omega)).mpr h9)
      have hroom := h75 (by omega)
      exact absurd hroom hno
    · have n79 : r73 = 0 := (nI_eq (a := r73) (b := 0) (by omega) (by omega)).mp c77
      refine lv_aload_n hx hb dX5_make_26 rfl (lv_at hl 0 rfl) ?_
      refine lv_iconst (v := 3) hx hb dX5_make_27 (by decide) ?_
      refine c_put (v := .int 3) (ty := .int) (C := RX5) (Tc := TX5) (N := 19) (ci := 4) hx hb hq pin_wsX50 tyX5 tyX5_ok nmX5 hown hE hP hD hS hO 28 (sg_28 G h0 a _ _ _ _ _) rfl 16 (by decide) (hq _ pw_513) (fun _ h9 => h9) rfl (by decide +kernel) rfl rfl (Nat.le_of_ble_eq_true rfl) (sf_23 G h0 a _ _ _ _ _ 3) dX5_make_28 (fun H locs w hP hD hS hO => ?_)
      have hz80 : MdQ J J sp op c9 d9 0 8 (3 : Int32) := (Or.inl ⟨rfl, rfl⟩)
      have hz81 : (B 33) 5 = nI fl := hfl
      have hz82 : (op = 34 ∧ sp = 35) ∨ (op = 35 ∧ sp = 34) := (by omega)
      have hz83 : (8 ≤ 8 ∧ 8 ≤ 3008) ∧ 0 ≤ 1 := (by omega)
      have hz84 : LoE J op sp := (LoE.swap hle)
      have hO : OKW G h0 a (upd (upd (upd (upd (upd (upd F 19 (nI 0)) 22 0) 23 (3 : Int32)) 26 (nI 8)) 27 (8 : Int32)) 28 (nI lm)) (updR (updR (updR R 6 (.null)) 7 (.ref (a op))) 8 (.ref (a sp))) Z (updA B 33 (B 33)) J T Pi w := hO.to rfl
      exact W.vret hx hb hr (fun t99 ht99 hW99 => ⟨⟨_, (w, (0, (3 : Int32), J, (B 33), op, sp, 8, (8 : Int32))), rfl, ⟨rfl, hz80, hz81, hz82, hz83, hz84, hO⟩, by rw [ht99]; exact hP, hD⟩, hS.F ht99⟩) hS.2.2 dX5_make_31
set_option maxHeartbeats 20000000 in
set_option maxRecDepth 100000 in
theorem Y_makeObject0 (l : Launch) (G : pT) (h0 : Nat) (a : Nat → Nat) (F : Nat → Int32) (R : Nat → Value) (Z : Int64) (B : Nat → Nat → Int32) (J : Nat → Nat → Int64) (K : PK) (w : va_W) (y : TY) (sp : Nat) (op : Nat) (fl : Nat) (lm : Nat) (d9 : Nat) (pq : Nat) (dr : Nat) (ml : Nat) (nd : Nat) (nm : Nat) (cp : Nat) (it : Nat → Nat) (s9 : Nat) (g : Nat → Nat → Nat) (rk : Nat → Nat) (cs : Nat) (rg : Nat) (hsp : (sp = 34 ∧ op = 35) ∨ (sp = 35 ∧ op = 34)) (hfl : B 33 5 = nI fl) (hlm : lm ≤ 3008) (hle : LoE J sp op) (hwp : WPr G K g) (hps : PgT G K g (a 1) pq dr ml nd nm cp it s9) (hrk : RkO K rk) (hpy : PrY y K B dr nd nm it cs rg) (hcs9 : cs ≤ 10000) (hx9 : (yX y).1 d9) (hO : OKP G h0 a (upd (upd (upd (upd (upd F 19 0) 22 0) 23 5) 26 8) 28 (nI lm)) (updR (updR (updR (updR R 5 (.ref pq)) 6 (.null)) 7 (.ref (a sp))) 8 (.ref (a op))) Z B J K w) : PM l G pX0 yX5_makeObject cX5_makeObject 3 none ({ frames := 6, cells := 0, slots := 0, locals := 152 }) [.ref (a 5), .int (nI d9)] w (fun (v : Option Value) (u : va_W × (Nat × Int32 × (Nat → Nat → Int64) × (Nat → Int32) × Nat × Nat × Nat × Int32)) => v = none ∧ (MdQ J u.2.2.2.1 sp u.2.2.2.2.2.1 (1 + yfd y d9) d9 u.2.1 u.2.2.2.2.2.2.2.1 u.2.2.1) ∧ (u.2.2.2.2.1 5 = nI fl) ∧ ((u.2.2.2.2.2.1 = 34 ∧ u.2.2.2.2.2.2.1 = 35) ∨ (u.2.2.2.2.2.1 = 35 ∧ u.2.2.2.2.2.2.1 = 34)) ∧ ((8 ≤ u.2.2.2.2.2.2.2.1 ∧ u.2.2.2.2.2.2.2.1 ≤ 3008) ∧ u.2.1 ≤ 1) ∧ (LoE u.2.2.2.1 u.2.2.2.2.2.1 u.2.2.2.2.2.2.1) ∧ (OKP G h0 a (upd (upd (upd (upd (upd (upd F 19 (nI u.2.1)) 22 0) 23 u.2.2.1) 26 (nI u.2.2.2.2.2.2.2.1)) 27 u.2.2.2.2.2.2.2.2) 28 (nI lm)) (updR (updR (updR (updR R 5 (.ref pq)) 6 (.null)) 7 (.ref (a u.2.2.2.2.2.1))) 8 (.ref (a u.2.2.2.2.2.2.1))) Z (updA B 33 u.2.2.2.2.1) u.2.2.2.1 K u.1)) (fun u => u.1) := by
  intro sz
  refine Met.ofW (cc := cX5_makeObject) (maxL := 3) (ret := none) (by decide) rfl ?_
  intro p e s m args below meth c s₁ B9 hml hv
  obtain ⟨rfl, hsz, hP, hD0, hE, hX⟩ := hv
  have hx := B9.exec
  have hb := B9.bytes
  have hr := B9.returns
  have hts := atoms_spec (ws := Cond.code yX5_makeObject cX5_makeObject 3 none :: pw) B9.pre
  have hq : ∀ w ∈ pw, w.before _ s = true := fun w h => hts w (List.mem_cons_of_mem _ h)
  have hown : s.vm.findClass RX5 = some m.cls := findClass_of_methodNamed B9.named
  have hlocks := B9.notSynchronized
  subst hsz
  have hD := hD0.self (sz := s.heap.size)
  have hA : ∀ q : Nat, s.heap.size ≤ q → va_A w s.heap.size q := fun q h => Or.inr h
  generalize va_A w s.heap.size = A at hD hE hA ⊢
  have hS : va_S A s.heap s.heap [] := va_S.rf
  have hl := lv_entry ([.ref (a 5), .int (nI d9)]) (n := 3) (Nat.le_of_ble_eq_true rfl)
  rw [lg_entry_eq]
  generalize (lg_sl ([.ref (a 5), .int (nI d9)]) ++ List.replicate (3 - (lg_sl ([.ref (a 5), .int (nI d9)])).length) Slot.unset).toArray = ls at hl ⊢
  have hl : lv_has ls 3 [(0, .ref (a 5)), (1, .int (nI d9))] := hl
  have hpg := hps.1
  have hp1 := hpg.1
  have hp2 := hpg.2.1
  have hp3 := hpg.2.2.1
  have hp4 := hpg.2.2.2.1
  have hp5 := hpg.2.2.2.2.1
  have hp6 := hpg.2.2.2.2.2.1
  have hp8 := hpg.2.2.2.2.2.2.2.1
  have hp9 := hpg.2.2.2.2.2.2.2.2
  obtain ⟨q8, lq8, hy1, hy2, hy3, hy4⟩ := hpy.2.2.2.1 d9 hx9
  have hnd8 := hpy.1.2.2.1 d9 hx9
  have hn37 := hpy.1.2.2.2.2
  have hT8 : K.1 q8 = 4 := by obtain ⟨d7, h71, h72, _⟩ := hps.2.1 d9 hnd8; rw [← Option.some.inj (h71.symm.trans hy1)]; exact h72
  refine lv_aload_n hx hb dX5_makeObject_0 rfl (lv_at hl 0 rfl) ?_
  refine c_get (v := .ref pq) (C := RX5) (Tc := TX5) (N := 19) (ci := 4) hx hb hq pin_wsX50 hown hE hP hO 28 (sg_28 G h0 a _ _ _ _ _) rfl 8 (by decide) (hq _ pw_486) (fun _ h9 => h9) rfl dX5_makeObject_1 ?_
  refine lv_iload_n hx hb dX5_makeObject_4 rfl (lv_at hl 1 rfl) ?_
  have hO : OKP G h0 a (upd (upd (upd (upd (upd F 19 0) 22 0) 23 5) 26 8) 28 (nI lm)) (updR (updR (updR (updR R 5 (.ref pq)) 6 (.null)) 7 (.ref (a sp))) 8 (.ref (a op))) Z B J K w := hO.to rfl
  obtain ⟨qr4, hqr5⟩ := p_recv hO (by rw [hp1]; decide) (rep_7 hp1)
  refine pc_V0 (G := G) (As := [.int (nI d9)]) (rest := []) hx hb hml hown hq hE hX pX0_al hP hD hS hA hl.1 (Y_decl l G h0 a (upd (upd (upd (upd (upd F 19 0) 22 0) 23 5) 26 8) 28 (nI lm)) (updR (updR (updR (updR R 5 (.ref pq)) 6 (.null)) 7 (.ref (a sp))) 8 (.ref (a op))) Z B J K w pq dr ml nd d9 q8 g hps.1 hps.2.1 hnd8 hy1 hO) (gV pw_492 pw_182 pw_183 pw_106 pw_13) hV_X9_decl qr4 6 hqr5 rfl rfl rfl (Nat.le_of_ble_eq_true rfl) dX5_makeObject_5 ⟨Nat.le_of_ble_eq_true rfl, Nat.le_of_ble_eq_true rfl⟩ ⟨Nat.le_of_ble_eq_true rfl, Nat.le_of_ble_eq_true rfl⟩ (fun v3 u1 H locs hw2 hP hD hS => ?_)
  obtain ⟨w, _⟩ := u1
  obtain ⟨hw2, hO⟩ := hw2
  obtain rfl : v3 = some (.ref q8) := hw2
  have hO : OKP G h0 a (upd (upd (upd (upd (upd F 19 0) 22 0) 23 5) 26 8) 28 (nI lm)) (updR (updR (updR (updR R 5 (.ref pq)) 6 (.null)) 7 (.ref (a sp))) 8 (.ref (a op))) Z B J K w := hO.to rfl
  refine W.widen (k := 0) (n := 0) (Nat.le_of_ble_eq_true rfl) (Nat.le_of_ble_eq_true rfl) ?_
  refine W.eq (g2 := F0 m 8 ls [.ref q8]) rfl ?_
  refine lv_astore_n (lv' := [(2, .ref q8), (0, .ref (a 5)), (1, .int (nI d9))]) hx hb dX5_makeObject_8 rfl hl (by decide) rfl (fun ls hl => ?_)
  refine lv_aload_n hx hb dX5_makeObject_9 rfl (lv_at hl 0 rfl) ?_
  refine lv_ifnonnull (tgt := 20) hx hb dX5_makeObject_10 (by decide) ?_
  refine lv_aload_n hx hb dX5_makeObject_20 rfl (lv_at hl 1 rfl) ?_
  refine lv_iload_n hx hb dX5_makeObject_21 rfl (lv_at hl 2 rfl) ?_
  refine lv_aload_n hx hb dX5_makeObject_22 rfl (lv_at hl 0 rfl) ?_
  have hO : OKP G h0 a (upd (upd (upd (upd (upd F 19 0) 22 0) 23 5) 26 8) 28 (nI lm)) (updR (updR (updR (updR R 5 (.ref pq)) 6 (.null)) 7 (.ref (a sp))) 8 (.ref (a op))) Z B J K w := hO.to rfl
  obtain ⟨qr9, hqr10⟩ := p_recv hO (by rw [hT8]; decide) (rep_4 hT8)
  refine pc_V0 (G := G) (As := []) (rest := [.int (nI d9), .ref (a 5)]) hx hb hml hown hq hE hX pX0_al hP hD hS hA hl.1 (Y_cells l G h0 a (upd (upd (upd (upd (upd F 19 0) 22 0) 23 5) 26 8) 28 (nI lm)) (updR (updR (updR (updR R 5 (.ref pq)) 6 (.null)) 7 (.ref (a sp))) 8 (.ref (a op))) Z B J K w q8 lq8 (yfd y d9) g hT8 hwp hy2 hy3 hy4 hO) (gV pw_553 pw_554 pw_555 pw_146 pw_411) hV_X2_cells qr9 2 hqr10 rfl rfl rfl (Nat.le_of_ble_eq_true rfl) dX5_makeObject_23 ⟨Nat.le_of_ble_eq_true rfl, Nat.le_of_ble_eq_true rfl⟩ ⟨Nat.le_of_ble_eq_true rfl, Nat.le_of_ble_eq_true rfl⟩ (fun v8 u6 H locs hw7 hP hD hS => ?_)
  obtain ⟨w, _⟩ := u6
  obtain ⟨hw7, hO⟩ := hw7
  obtain rfl : v8 = some (.int (nI (1 + (yfd y d9)))) := hw7
  have hO : OKP G h0 a (upd (upd (upd (upd (upd F 19 0) 22 0) 23 5) 26 8) 28 (nI lm)) (updR (updR (updR (updR R 5 (.ref pq)) 6 (.null)) 7 (.ref (a sp))) 8 (.ref (a op))) Z B J K w := hO.to rfl
  refine W.widen (k := 0) (n := 0) (Nat.le_of_ble_eq_true rfl) (Nat.le_of_ble_eq_true rfl) ?_
  refine W.eq (g2 := F0 m 26 ls [.int (nI (1 + (yfd y d9))), .int (nI d9), .ref (a 5)]) rfl ?_
  refine lv_i2l hx hb dX5_makeObject_26 rfl ?_
  refine lv_topl (fun x11 e12 => ?_)
  rw [show x11 = lN (1 + yfd y d9) from e12.trans (nI_l (by omega))]
  have hO : OKW G h0 a (upd (upd (upd (upd (upd (upd (upd (upd (upd (upd F 19 0) 22 0) 23 5) 26 8) 28 (nI lm)) 19 0) 22 0) 23 5) 26 8) 28 (nI lm)) (updR (updR (updR (updR (updR (updR (updR R 5 (.ref pq)) 6 (.null)) 7 (.ref (a sp))) 8 (.ref (a op))) 6 (.null)) 7 (.ref (a sp))) 8 (.ref (a op))) Z B J K.1 (fun q99 x99 => x99 = rep G a K q99) w := hO.to rfl
  obtain ⟨_, qr16, hqr17⟩ := hO.2.1 28 _ (sg_28 G h0 a _ _ _ _ _)
  refine pc_V0 (G := G) (As := [.int (nI d9), .long (lN (1 + yfd y d9))]) (rest := []) hx hb hml hown hq hE hX pX0_al hP hD hS hA hl.1 (Y_make0 l G h0 a (upd (upd (upd (upd (upd F 19 0) 22 0) 23 5) 26 8) 28 (nI lm)) (updR (updR (updR (updR R 5 (.ref pq)) 6 (.null)) 7 (.ref (a sp))) 8 (.ref (a op))) Z B J K.1 (fun q99 x99 => x99 = rep G a K q99) w sp op fl lm d9 (1 + yfd y d9) hsp hfl hlm hle (by omega) hO) (gV pw_556 pw_557 pw_558 pw_539 pw_552) hV_X5_make qr16 4 hqr17 rfl rfl rfl (Nat.le_of_ble_eq_true rfl) dX5_makeObject_27 ⟨Nat.le_of_ble_eq_true rfl, Nat.le_of_ble_eq_true rfl⟩ ⟨Nat.le_of_ble_eq_true rfl, Nat.le_of_ble_eq_true rfl⟩ (fun v15 u13 H locs hw14 hP hD hS => ?_)
  obtain ⟨w, tp18, en19, J20, ta21, sp22, op23, ht24, ot25⟩ := u13
  obtain ⟨hw14, h26, h27, h28, h29, h30, hO⟩ := hw14
  have h26 : MdQ J J20 sp sp22 (1 + yfd y d9) d9 tp18 ht24 en19 := h26
  have h27 : ta21 5 = nI fl := h27
  have h28 : (sp22 = 34 ∧ op23 = 35) ∨ (sp22 = 35 ∧ op23 = 34) := h28
  have h29 : (8 ≤ ht24 ∧ ht24 ≤ 3008) ∧ tp18 ≤ 1 := h29
  have h30 : LoE J20 sp22 op23 := h30
  obtain rfl : v15 = none := hw14
  have hO : OKP G h0 a (upd (upd (upd (upd (upd (upd F 19 (nI tp18)) 22 0) 23 en19) 26 (nI ht24)) 27 ot25) 28 (nI lm)) (updR (updR (updR (updR R 5 (.ref pq)) 6 (.null)) 7 (.ref (a sp22))) 8 (.ref (a op23))) Z (updA B 33 ta21) J20 K w := hO.to rfl
  refine W.widen (k := 0) (n := 0) (Nat.le_of_ble_eq_true rfl) (Nat.le_of_ble_eq_true rfl) ?_
  refine W.eq (g2 := F0 m 30 ls []) rfl ?_
  have hz31 : MdQ J J20 sp sp22 (1 + yfd y d9) d9 tp18 ht24 en19 := h26
  have hz32 : ta21 5 = nI fl := h27
  have hz33 : (sp22 = 34 ∧ op23 = 35) ∨ (sp22 = 35 ∧ op23 = 34) := h28
  have hz34 : (8 ≤ ht24 ∧ ht24 ≤ 3008) ∧ tp18 ≤ 1 := h29
  have hz35 : LoE J20 sp22 op23 := h30
  have hO : OKP G h0 a (upd (upd (upd (upd (upd (upd F 19 (nI tp18)) 22 0) 23 en19) 26 (nI ht24)) 27 ot25) 28 (nI lm)) (updR (updR (updR (updR R 5 (.ref pq)) 6 (.null)) 7 (.ref (a sp22))) 8 (.ref (a op23))) Z (updA B 33 ta21) J20 K w := hO.to rfl
  exact W.vret hx hb hr (fun t99 ht99 hW99 => ⟨⟨_, (w, (tp18, en19, J20, ta21, sp22, op23, ht24, ot25)), rfl, ⟨rfl, hz31, hz32, hz33, hz34, hz35, hO⟩, by rw [ht99]; exact hP, hD⟩, hS.F ht99⟩) hS.2.2 dX5_makeObject_30
set_option maxHeartbeats 8000000 in
set_option maxRecDepth 100000 in
theorem Y_find (l : Launch) (G : pT) (h0 : Nat) (a : Nat → Nat) (F : Nat → Int32) (R : Nat → Value) (Z : Int64) (B : Nat → Nat → Int32) (J : Nat → Nat → Int64) (K : PK) (w : va_W) (pq : Nat) (dr : Nat) (ml : Nat) (nd : Nat) (k9 : Nat) (q9 : Nat) (x : Int32) (g : Nat → Nat → Nat) (hpb : PgB K g (a 1) pq dr ml nd) (hdc : DcR K g dr nd) (hk9 : k9 < nd) (hq9 : K.2.2.2.2.1 dr k9 = some q9) (hn9 : K.2.1 16 q9 = x) (hno : ∀ k q : Nat, k < k9 → K.2.2.2.2.1 dr k = some q → ¬ K.2.1 16 q = x) (hO : OKP G h0 a F R Z B J K w) : PM l G pX0 yX9_find cX9_find 3 (some .int) ({ frames := 2, cells := 0, slots := 0, locals := 60 }) [.ref pq, .int x] w (fun (v : Option Value) (u : va_W × (Unit)) => v = some (.int (nI k9)) ∧ (OKP G h0 a F R Z B J K u.1)) (fun u => u.1) := by
  intro sz
  refine Met.ofW (cc := cX9_find) (maxL := 3) (ret := (some .int)) (by decide) rfl ?_
  intro p e s m args below meth c s₁ B9 hml hv
  obtain ⟨rfl, hsz, hP, hD0, hE, hX⟩ := hv
  have hx := B9.exec
  have hb := B9.bytes
  have hr := B9.returns
  have hts := atoms_spec (ws := Cond.code yX9_find cX9_find 3 (some .int) :: pw) B9.pre
  have hq : ∀ w ∈ pw, w.before _ s = true := fun w h => hts w (List.mem_cons_of_mem _ h)
  have hown : s.vm.findClass RX9 = some m.cls := findClass_of_methodNamed B9.named
  have hlocks := B9.notSynchronized
  subst hsz
  have hD := hD0.self (sz := s.heap.size)
  have hA : ∀ q : Nat, s.heap.size ≤ q → va_A w s.heap.size q := fun q h => Or.inr h
  generalize va_A w s.heap.size = A at hD hE hA ⊢
  have hS : va_S A s.heap s.heap [] := va_S.rf
  have hl := lv_entry ([.ref pq, .int x]) (n := 3) (Nat.le_of_ble_eq_true rfl)
  rw [lg_entry_eq]
  generalize (lg_sl ([.ref pq, .int x]) ++ List.replicate (3 - (lg_sl ([.ref pq, .int x])).length) Slot.unset).toArray = ls at hl ⊢
  have hl : lv_has ls 3 [(0, .ref pq), (1, .int x)] := hl
  have hp1 := hpb.1
  have hp2 := hpb.2.1
  have hp3 := hpb.2.2.1
  have hp4 := hpb.2.2.2.1
  have hp5 := hpb.2.2.2.2.1
  have hp6 := hpb.2.2.2.2.2.1
  have hp8 := hpb.2.2.2.2.2.2.2.1
  have hp9 := hpb.2.2.2.2.2.2.2.2
  refine lv_iconst (v := 0) hx hb dX9_find_0 (by decide) ?_
  refine lv_istore_n (lv' := [(2, .int 0), (0, .ref pq), (1, .int x)]) hx hb dX9_find_1 rfl hl (by decide) rfl (fun ls hl => ?_)
  have loop_i : ∀ (n_i : Nat) (i2 : Nat) (H : Heap) (locs : List Loc) (ls : Array Slot) (w : va_W), i2 ≤ nd → nd + 1 ≤ i2 + n_i → (i2 ≤ k9) → va_P G.1 pCl w H → va_D A w → va_S A s.heap H locs → OKP G h0 a F R Z B J K w → lv_has ls 3 [(2, .int (nI i2)), (1, .int x), (0, .ref pq)] → W p l e (headSpec (Cond.code yX9_find cX9_find 3 (some .int) :: pw) ({ frames := 2, cells := 0, slots := 0, locals := 60 } : Room)).room s m ([.ref pq, .int x] : List Value).toArray below meth c H locs 0 0 (MQ below (pQ G A (fun (v : Option Value) (u : va_W × (Unit)) => v = some (.int (nI k9)) ∧ (OKP G h0 a F R Z B J K u.1)) (fun u => u.1)) ([.ref pq, .int x] : List Value).toArray s ({ frames := 2, cells := 0, slots := 0, locals := 60 } : Room).cells ({ frames := 2, cells := 0, slots := 0, locals := 60 } : Room).slots A) (F0 m 2 ls []) := by
    intro n_i
    induction n_i with
    | zero => intro i2 H locs ls w hk_i hn_i; omega
    | succ n_i ih_i =>
      intro i2 H locs ls w hk_i hn_i hi2 hP hD hS hO hl
      have hp1 := hpb.1
      have hp2 := hpb.2.1
      have hp3 := hpb.2.2.1
      have hp4 := hpb.2.2.2.1
      have hp5 := hpb.2.2.2.2.1
      have hp6 := hpb.2.2.2.2.2.1
      have hp8 := hpb.2.2.2.2.2.2.2.1
      have hp9 := hpb.2.2.2.2.2.2.2.2
      refine lv_iload_n hx hb dX9_find_2 rfl (lv_at hl 0 rfl) ?_
      refine lv_aload_n hx hb dX9_find_3 rfl (lv_at hl 2 rfl) ?_
      refine p_get (v := .int (nI nd)) (C := RX9) (Tc := TX9) (N := 5) (ci := 6) hx hb hq pin_wsX90 hown hE hP hO (by rw [hp1]; decide) (rep_7 hp1) rfl 2 (by decide) (hq _ pw_14) (fun _ h9 => h9) (congrArg (fun z => some (Value.int z)) hp8) dX9_find_4 ?_
      refine lv_icmp_ge (tgt := 31) hx hb dX9_find_7 (by decide) (fun c1 => (by have n2 : nd ≤ i2 := (nI_leI (a := nd) (b := i2) (by omega) (by omega)).mp c1; omega)) (fun c1 => ?_)
      refine lv_aload_n hx hb dX9_find_10 rfl (lv_at hl 2 rfl) ?_
      refine p_get (v := .ref dr) (C := RX9) (Tc := TX9) (N := 5) (ci := 6) hx hb hq pin_wsX90 hown hE hP hO (by rw [hp1]; decide) (rep_7 hp1) rfl 1 (by decide) (hq _ pw_15) (fun _ h9 => h9) (congrArg (fun z => some (va_rf z)) hp3) dX9_find_11 ?_
      refine lv_iload_n hx hb dX9_find_14 rfl (lv_at hl 0 rfl) ?_
      refine p_ald8 hx hb hE hP hO hp4 (vp_in_nI (by omega) (by omega)) dX9_find_15 ?_
      rw [nI_clamp (show i2 < 2 ^ 31 by omega)]
      obtain ⟨d3, hd4, hd5, hd6, hd7⟩ := hdc i2 (by omega)
      rw [hd4]
      refine W.eq (g2 := F0 m 16 ls [.ref d3]) rfl ?_
      refine p_get (v := .int (K.2.1 16 d3)) (C := RX2) (Tc := TX2) (N := 13) (ci := 2) hx hb hq pin_wsX20 hown hE hP hO (by rw [hd5]; decide) (rep_4 hd5) rfl 1 (by decide) (hq _ pw_510) (fun _ h9 => h9) rfl dX9_find_16 ?_
      refine lv_iload_n hx hb dX9_find_19 rfl (lv_at hl 1 rfl) ?_
      refine lv_icmp_ne (tgt := 25) hx hb dX9_find_20 (by decide) (fun c8 => ?_) (fun c8 => ?_)
      · refine lv_iinc (v := (nI (i2 + 1))) (lv' := [(2, .int (nI (i2 + 1))), (1, .int x), (0, .ref pq)]) hx hb dX9_find_25 hl (k := 0) rfl (nI_1 i2) (by decide) rfl (fun ls hl => ?_)
        refine lv_goto (tgt := 2) hx hb dX9_find_28 (by decide) ?_
        have hO : OKP G h0 a F R Z B J K w := hO.to rfl
        exact ih_i (i2 + 1) _ _ _ _ (by omega) (by omega) (by have : ¬ i2 = k9 := (fun z => by rw [← z] at hq9; exact c8 (by rw [show d3 = q9 from Option.some.inj (hd4.symm.trans hq9)]; exact hn9)); omega) hP hD hS hO (lv_sub hl [0, 1, 2] rfl)
      · have hik : i2 = k9 := Classical.byContradiction fun z => hno i2 d3 (by omega) hd4 c8
        refine lv_iload_n hx hb dX9_find_23 rfl (lv_at hl 0 rfl) ?_
        rw [hik]
        have hO : OKP G h0 a F R Z B J K w := hO.to rfl
        exact W.iret (v := (nI k9)) hx hb hr (fun t99 ht99 hW99 => ⟨⟨_, (w, ()), rfl, ⟨rfl, hO⟩, by rw [ht99]; exact hP, hD⟩, hS.F ht99⟩) hS.2.2 dX9_find_24
  have hO : OKP G h0 a F R Z B J K w := hO.to rfl
  exact loop_i (nd + 1) 0 _ _ _ _ (by omega) (by omega) (by omega) hP hD hS hO (lv_sub hl [0, 2, 1] rfl)
set_option maxHeartbeats 20000000 in
set_option maxRecDepth 100000 in
theorem Y_callNearest0 (l : Launch) (G : pT) (h0 : Nat) (a : Nat → Nat) (F : Nat → Int32) (R : Nat → Value) (Z : Int64) (B : Nat → Nat → Int32) (J : Nat → Nat → Int64) (K : PK) (w : va_W) (y : TY) (sp : Nat) (op : Nat) (ht : Nat) (fl : Nat) (m9 : Nat) (c9 : Nat) (k9 : Nat) (pq : Nat) (dr : Nat) (ml : Nat) (nd : Nat) (nm : Nat) (cp : Nat) (it : Nat → Nat) (s9 : Nat) (g : Nat → Nat → Nat) (rk : Nat → Nat) (cs : Nat) (rg : Nat) (hsp : (sp = 34 ∧ op = 35) ∨ (sp = 35 ∧ op = 34)) (hfl : B 33 5 = nI fl) (hflb : fl ≤ 20000) (hst : J 29 0 = rfV 8) (hhd : J sp 8 = hdV c9 m9) (hb9 : 1 ≤ c9 ∧ c9 ≤ 3008 ∧ m9 < 60 ∧ 8 < ht ∧ ht ≤ 3008) (hmx : MnX y K dr nd m9 k9) (hwp : WPr G K g) (hps : PgT G K g (a 1) pq dr ml nd nm cp it s9) (hrk : RkO K rk) (hpy : PrY y K B dr nd nm it cs rg) (hcs9 : cs ≤ 10000) (hO : OKP G h0 a (upd (upd (upd (upd (upd (upd (upd (upd F 5 (nI cs)) 6 (nI rg)) 18 0) 19 1) 20 0) 22 0) 23 5) 26 (nI ht)) (updR (updR (updR (updR R 5 (.ref pq)) 6 (.null)) 7 (.ref (a sp))) 8 (.ref (a op))) Z B J K w) : PM l G pX0 yX5_callNearest cX5_callNearest 5 none ({ frames := 7, cells := 0, slots := 0, locals := 169 }) [.ref (a 5), .int 37, .int 0] w (fun (v : Option Value) (u : va_W × (Nat × Int32 × Int32 × Nat × Nat × Nat × Option Nat × (Nat → Int32) × (Nat → Int32))) => v = none ∧ (¬ u.2.2.1 = 5 ∨ (u.2.2.1 = 5 ∧ fl = u.2.2.2.2.2.2.1 + 1 ∧ u.2.1 = ysl y k9 ∧ u.2.2.2.1 = nI (ylo y k9) ∧ u.2.2.2.2.1 = 0 ∧ u.2.2.2.2.2.1 = 1 ∧ u.2.2.2.2.2.2.2.1 = some (it k9))) ∧ (u.2.2.2.2.2.2.2.2.1 5 = nI u.2.2.2.2.2.2.1) ∧ (u.2.1 ≤ 32000 ∧ u.2.2.2.2.1 ≤ 32000 ∧ u.2.2.2.2.2.1 ≤ 100 ∧ u.2.2.2.2.2.2.1 ≤ fl) ∧ (OKP G h0 a (upd (upd (upd (upd (upd (upd (upd (upd (upd F 5 (nI cs)) 6 (nI rg)) 18 (nI u.2.2.2.2.1)) 19 (nI u.2.1)) 20 0) 21 u.2.2.2.1) 22 (nI u.2.2.2.2.2.1)) 23 u.2.2.1) 26 (nI ht)) (updR (updR (updR (updR R 5 (.ref pq)) 6 (va_rf u.2.2.2.2.2.2.2.1)) 7 (.ref (a sp))) 8 (.ref (a op))) Z (updA (updA B 30 u.2.2.2.2.2.2.2.2.2) 33 u.2.2.2.2.2.2.2.2.1) J K u.1)) (fun u => u.1) := by
  intro sz
  refine Met.ofW (cc := cX5_callNearest) (maxL := 5) (ret := none) (by decide) rfl ?_
  intro p e s m args below meth c s₁ B9 hml hv
  obtain ⟨rfl, hsz, hP, hD0, hE, hX⟩ := hv
  have hx := B9.exec
  have hb := B9.bytes
  have hr := B9.returns
  have hts := atoms_spec (ws := Cond.code yX5_callNearest cX5_callNearest 5 none :: pw) B9.pre
  have hq : ∀ w ∈ pw, w.before _ s = true := fun w h => hts w (List.mem_cons_of_mem _ h)
  have hown : s.vm.findClass RX5 = some m.cls := findClass_of_methodNamed B9.named
  have hlocks := B9.notSynchronized
  subst hsz
  have hD := hD0.self (sz := s.heap.size)
  have hA : ∀ q : Nat, s.heap.size ≤ q → va_A w s.heap.size q := fun q h => Or.inr h
  generalize va_A w s.heap.size = A at hD hE hA ⊢
  have hS : va_S A s.heap s.heap [] := va_S.rf
  have hl := lv_entry ([.ref (a 5), .int 37, .int 0]) (n := 5) (Nat.le_of_ble_eq_true rfl)
  rw [lg_entry_eq]
  generalize (lg_sl ([.ref (a 5), .int 37, .int 0]) ++ List.replicate (5 - (lg_sl ([.ref (a 5), .int 37, .int 0])).length) Slot.unset).toArray = ls at hl ⊢
  have hl : lv_has ls 5 [(0, .ref (a 5)), (1, .int 37), (2, .int 0)] := hl
  have hpg := hps.1
  have hp1 := hpg.1
  have hp2 := hpg.2.1
  have hp3 := hpg.2.2.1
  have hp4 := hpg.2.2.2.1
  have hp5 := hpg.2.2.2.2.1
  have hp6 := hpg.2.2.2.2.2.1
  have hp8 := hpg.2.2.2.2.2.2.2.1
  have hp9 := hpg.2.2.2.2.2.2.2.2
  obtain ⟨hm1, hm2, hm3, ⟨q7, hm4, hm5⟩, hm6, hm7, hm8, hm9⟩ := hmx
  obtain ⟨hkn, q8, hy1, hy2⟩ := hpy.2.2.2.2.1 m9 k9 37 hm3 hm7
  have hT8 : K.1 q8 = 4 := by obtain ⟨d7, h71, h72, _⟩ := hps.2.1 m9 hm1; rw [← Option.some.inj (h71.symm.trans hy1)]; exact h72
  have hmk := hpy.2.1 k9 hkn
  have hsk : ysl y k9 ≤ 319 := by have := (hmk.1.2.2.2.1 (ylo y k9) (Nat.le_refl _) hmk.1.2.1.1 hmk.1.2.2.2.2.2.2.2.2.1.1).2.2.1; have e9 : ysl y k9 = (yM y).2.1 k9 := rfl; omega
  refine lv_aload_n hx hb dX5_callNearest_0 rfl (lv_at hl 0 rfl) ?_
  refine c_get (v := .int 1) (C := RX5) (Tc := TX5) (N := 19) (ci := 4) hx hb hq pin_wsX50 hown hE hP hO 28 (sg_28 G h0 a _ _ _ _ _) rfl 11 (by decide) (hq _ pw_505) (fun _ h9 => h9) rfl dX5_callNearest_1 ?_
  refine lv_iload_n hx hb dX5_callNearest_4 rfl (lv_at hl 2 rfl) ?_
  refine lv_isub hx hb dX5_callNearest_5 ?_
  refine lv_topi (fun x1 e2 => ?_)
  obtain rfl : x1 = 1 := e2.trans (by decide)
  refine lv_iconst (v := 1) hx hb dX5_callNearest_6 (by decide) ?_
  refine lv_isub hx hb dX5_callNearest_7 ?_
  refine lv_topi (fun x3 e4 => ?_)
  obtain rfl : x3 = 0 := e4.trans (by decide)
  refine lv_istore_n (lv' := [(3, .int 0), (0, .ref (a 5)), (1, .int 37), (2, .int 0)]) hx hb dX5_callNearest_8 rfl hl (by decide) rfl (fun ls hl => ?_)
  refine lv_iload_n hx hb dX5_callNearest_9 rfl (lv_at hl 0 rfl) ?_
  refine lv_if_ge (tgt := 18) hx hb dX5_callNearest_10 (by decide) (fun c5 => ?_) (fun c5 => absurd c5 (by decide))
  refine lv_aload_n hx hb dX5_callNearest_18 rfl (lv_at hl 1 rfl) ?_
  have hO : OKW G h0 a (upd (upd (upd (upd (upd (upd (upd (upd (upd F 5 (nI cs)) 6 (nI rg)) 18 0) 19 1) 20 0) 22 0) 23 5) 26 (nI ht)) 23 5) (updR (updR (updR (updR R 5 (.ref pq)) 6 (.null)) 7 (.ref (a sp))) 8 (.ref (a op))) Z B J K.1 (fun q99 x99 => x99 = rep G a K q99) w := hO.to rfl
  obtain ⟨_, qr9, hqr10⟩ := hO.2.1 28 _ (sg_28 G h0 a _ _ _ _ _)
  refine pc_V0 (G := G) (As := []) (rest := []) hx hb hml hown hq hE hX pX0_al hP hD hS hA hl.1 (Y_burn l G h0 a (upd (upd (upd (upd (upd (upd (upd (upd F 5 (nI cs)) 6 (nI rg)) 18 0) 19 1) 20 0) 22 0) 23 5) 26 (nI ht)) (updR (updR (updR (updR R 5 (.ref pq)) 6 (.null)) 7 (.ref (a sp))) 8 (.ref (a op))) Z B J K.1 (fun q99 x99 => x99 = rep G a K q99) w fl hfl (by omega) hO) (gV pw_567 pw_568 pw_569 pw_539 pw_560) hV_X5_burn qr9 4 hqr10 rfl rfl rfl (Nat.le_of_ble_eq_true rfl) dX5_callNearest_19 ⟨Nat.le_of_ble_eq_true rfl, Nat.le_of_ble_eq_true rfl⟩ ⟨Nat.le_of_ble_eq_true rfl, Nat.le_of_ble_eq_true rfl⟩ (fun v8 u6 H locs hw7 hP hD hS => ?_)
  obtain ⟨w, r11, fl12, en13, ta14⟩ := u6
  obtain ⟨hw7, h15, h16, h17, h18, hO⟩ := hw7
  have h15 : r11 ≤ 1 := h15
  have h16 : BuQ fl r11 en13 fl12 := h16
  have h17 : ta14 5 = nI fl12 := h17
  have h18 : fl12 ≤ fl := h18
  obtain rfl : v8 = some (.int (nI r11)) := hw7
  have hO : OKP G h0 a (upd (upd (upd (upd (upd (upd (upd (upd F 5 (nI cs)) 6 (nI rg)) 18 0) 19 1) 20 0) 22 0) 23 en13) 26 (nI ht)) (updR (updR (updR (updR R 5 (.ref pq)) 6 (.null)) 7 (.ref (a sp))) 8 (.ref (a op))) Z (updA B 33 ta14) J K w := hO.to rfl
  refine W.widen (k := 0) (n := 0) (Nat.le_of_ble_eq_true rfl) (Nat.le_of_ble_eq_true rfl) ?_
  refine W.eq (g2 := F0 m 22 ls [.int (nI r11)]) rfl ?_
  refine lv_if_ne (tgt := 26) hx hb dX5_callNearest_22 (by decide) (fun c19 => ?_) (fun c19 => ?_)
  · have n20 : ¬ (r11 = 0) := fun h9 => c19 ((nI_eq (a := r11) (b := 0) (by omega) (by omega)).mpr h9)
    obtain ⟨_, hen, hfb⟩ := Or.resolve_right h16 (fun z => by have := z.1; omega)
    subst hen
    refine lv_aload_n hx hb dX5_callNearest_26 rfl (lv_at hl 1 rfl) ?_
    refine c_get (v := .ref (a 29)) (C := RX5) (Tc := TX5) (N := 19) (ci := 4) hx hb hq pin_wsX50 hown hE hP hO 28 (sg_28 G h0 a _ _ _ _ _) rfl 2 (by decide) (hq _ pw_474) (fun _ h9 => h9) rfl dX5_callNearest_27 ?_
    refine lv_iload_n hx hb dX5_callNearest_30 rfl (lv_at hl 0 rfl) ?_
    refine c_ldl (f := (J 29)) (n := 32000) (t0 := 2) hx hb hE hP hO 32 (sg_32 G h0 a _ _ _ _ _) rfl (by unfold vp_in; decide) dX5_callNearest_31 ?_
    refine W.eq (g2 := F0 m 32 ls [.long ((J 29) 0)]) rfl ?_
    refine lv_topl (fun x21 e22 => ?_)
    rw [show x21 = (rfV 8) from e22.trans hst]
    refine lv_lconst (v := 0) hx hb dX5_callNearest_32 (by decide) ?_
    refine W.lcmp hx hb dX5_callNearest_33 ?_
    refine lv_topi (fun x23 e24 => ?_)
    refine lv_if_ne (tgt := 43) hx hb dX5_callNearest_34 (by decide) (fun c25 => ?_) (fun c25 => (rfV_n0 (p := 8) ((lg_cmp_eq _ _).mp (e24.symm.trans c25))).elim)
    refine lv_aload_n hx hb dX5_callNearest_43 rfl (lv_at hl 1 rfl) ?_
    refine c_get (v := .ref pq) (C := RX5) (Tc := TX5) (N := 19) (ci := 4) hx hb hq pin_wsX50 hown hE hP hO 28 (sg_28 G h0 a _ _ _ _ _) rfl 8 (by decide) (hq _ pw_486) (fun _ h9 => h9) rfl dX5_callNearest_44 ?_
    refine lv_aload_n hx hb dX5_callNearest_47 rfl (lv_at hl 1 rfl) ?_
    refine c_get (v := .ref (a 28)) (C := RX5) (Tc := TX5) (N := 19) (ci := 4) hx hb hq pin_wsX50 hown hE hP hO 28 (sg_28 G h0 a _ _ _ _ _) rfl 1 (by decide) (hq _ pw_473) (fun _ h9 => h9) rfl dX5_callNearest_48 ?_
    refine lv_aload_n hx hb dX5_callNearest_51 rfl (lv_at hl 1 rfl) ?_
    refine c_get (v := .ref (a 29)) (C := RX5) (Tc := TX5) (N := 19) (ci := 4) hx hb hq pin_wsX50 hown hE hP hO 28 (sg_28 G h0 a _ _ _ _ _) rfl 2 (by decide) (hq _ pw_474) (fun _ h9 => h9) rfl dX5_callNearest_52 ?_
    refine lv_iload_n hx hb dX5_callNearest_55 rfl (lv_at hl 0 rfl) ?_
    refine c_ldl (f := (J 29)) (n := 32000) (t0 := 2) hx hb hE hP hO 32 (sg_32 G h0 a _ _ _ _ _) rfl (by unfold vp_in; decide) dX5_callNearest_56 ?_
    refine W.eq (g2 := F0 m 57 ls [.long ((J 29) 0), .ref (a 28), .ref pq]) rfl ?_
    refine lv_topl (fun x26 e27 => ?_)
    rw [show x26 = (rfV 8) from e27.trans hst]
    have hO : OKW G h0 a (upd (upd (upd (upd (upd (upd (upd (upd (upd F 5 (nI cs)) 6 (nI rg)) 18 0) 19 1) 20 0) 22 0) 23 5) 26 (nI ht)) 26 (nI ht)) (updR (updR (updR (updR (updR (updR R 5 (.ref pq)) 6 (.null)) 7 (.ref (a sp))) 8 (.ref (a op))) 7 (.ref (a sp))) 8 (.ref (a op))) Z (updA B 33 ta14) J K.1 (fun q99 x99 => x99 = rep G a K q99) w := hO.to rfl
    obtain ⟨_, qr31, hqr32⟩ := hO.2.1 29 _ (sg_29 G h0 a _ _ _ _ _)
    refine pc_V0 (G := G) (As := [.long (rfV 8)]) (rest := [.ref pq]) hx hb hml hown hq hE hX pX0_al hP hD hS hA hl.1 (Y_typeOf l G h0 a (upd (upd (upd (upd (upd (upd (upd (upd F 5 (nI cs)) 6 (nI rg)) 18 0) 19 1) 20 0) 22 0) 23 5) 26 (nI ht)) (updR (updR (updR (updR R 5 (.ref pq)) 6 (.null)) 7 (.ref (a sp))) 8 (.ref (a op))) Z (updA B 33 ta14) J K.1 (fun q99 x99 => x99 = rep G a K q99) w 8 c9 m9 sp op ht hsp (by omega) (by omega) hhd hO) (gV pw_489 pw_490 pw_491 pw_440 pw_441) hV_X3_typeOf qr31 3 hqr32 rfl rfl rfl (Nat.le_of_ble_eq_true rfl) dX5_callNearest_57 ⟨Nat.le_of_ble_eq_true rfl, Nat.le_of_ble_eq_true rfl⟩ ⟨Nat.le_of_ble_eq_true rfl, Nat.le_of_ble_eq_true rfl⟩ (fun v30 u28 H locs hw29 hP hD hS => ?_)
    obtain ⟨w, _⟩ := u28
    obtain ⟨hw29, hO⟩ := hw29
    obtain rfl : v30 = some (.int (nI m9)) := hw29
    have hO : OKP G h0 a (upd (upd (upd (upd (upd (upd (upd (upd F 5 (nI cs)) 6 (nI rg)) 18 0) 19 1) 20 0) 22 0) 23 5) 26 (nI ht)) (updR (updR (updR (updR R 5 (.ref pq)) 6 (.null)) 7 (.ref (a sp))) 8 (.ref (a op))) Z (updA B 33 ta14) J K w := hO.to rfl
    refine W.widen (k := 0) (n := 0) (Nat.le_of_ble_eq_true rfl) (Nat.le_of_ble_eq_true rfl) ?_
    refine W.eq (g2 := F0 m 60 ls [.int (nI m9), .ref pq]) rfl ?_
    have hO : OKP G h0 a (upd (upd (upd (upd (upd (upd (upd (upd F 5 (nI cs)) 6 (nI rg)) 18 0) 19 1) 20 0) 22 0) 23 5) 26 (nI ht)) (updR (updR (updR (updR R 5 (.ref pq)) 6 (.null)) 7 (.ref (a sp))) 8 (.ref (a op))) Z (updA B 33 ta14) J K w := hO.to rfl
    obtain ⟨qr36, hqr37⟩ := p_recv hO (by rw [hp1]; decide) (rep_7 hp1)
    refine pc_V0 (G := G) (As := [.int (nI m9)]) (rest := []) hx hb hml hown hq hE hX pX0_al hP hD hS hA hl.1 (Y_decl l G h0 a (upd (upd (upd (upd (upd (upd (upd (upd F 5 (nI cs)) 6 (nI rg)) 18 0) 19 1) 20 0) 22 0) 23 5) 26 (nI ht)) (updR (updR (updR (updR R 5 (.ref pq)) 6 (.null)) 7 (.ref (a sp))) 8 (.ref (a op))) Z (updA B 33 ta14) J K w pq dr ml nd m9 q8 g hps.1 hps.2.1 hm1 hy1 hO) (gV pw_492 pw_182 pw_183 pw_106 pw_13) hV_X9_decl qr36 6 hqr37 rfl rfl rfl (Nat.le_of_ble_eq_true rfl) dX5_callNearest_60 ⟨Nat.le_of_ble_eq_true rfl, Nat.le_of_ble_eq_true rfl⟩ ⟨Nat.le_of_ble_eq_true rfl, Nat.le_of_ble_eq_true rfl⟩ (fun v35 u33 H locs hw34 hP hD hS => ?_)
    obtain ⟨w, _⟩ := u33
    obtain ⟨hw34, hO⟩ := hw34
    obtain rfl : v35 = some (.ref q8) := hw34
    have hO : OKP G h0 a (upd (upd (upd (upd (upd (upd (upd (upd F 5 (nI cs)) 6 (nI rg)) 18 0) 19 1) 20 0) 22 0) 23 5) 26 (nI ht)) (updR (updR (updR (updR R 5 (.ref pq)) 6 (.null)) 7 (.ref (a sp))) 8 (.ref (a op))) Z (updA B 33 ta14) J K w := hO.to rfl
    refine W.widen (k := 0) (n := 0) (Nat.le_of_ble_eq_true rfl) (Nat.le_of_ble_eq_true rfl) ?_
    refine W.eq (g2 := F0 m 63 ls [.ref q8]) rfl ?_
    refine lv_astore (lv' := [(4, .ref q8), (3, .int 0), (0, .ref (a 5)), (1, .int 37), (2, .int 0)]) hx hb dX5_callNearest_63 hl (by decide) rfl (fun ls hl => ?_)
    refine lv_aload_n hx hb dX5_callNearest_65 rfl (lv_at hl 2 rfl) ?_
    refine lv_aload hx hb dX5_callNearest_66 (lv_at hl 0 rfl) ?_
    refine lv_ifnonnull (tgt := 75) hx hb dX5_callNearest_68 (by decide) ?_
    refine lv_aload hx hb dX5_callNearest_75 (lv_at hl 0 rfl) ?_
    refine lv_iload_n hx hb dX5_callNearest_77 rfl (lv_at hl 3 rfl) ?_
    have hO : OKP G h0 a (upd (upd (upd (upd (upd (upd (upd (upd F 5 (nI cs)) 6 (nI rg)) 18 0) 19 1) 20 0) 22 0) 23 5) 26 (nI ht)) (updR (updR (updR (updR R 5 (.ref pq)) 6 (.null)) 7 (.ref (a sp))) 8 (.ref (a op))) Z (updA B 33 ta14) J K w := hO.to rfl
    obtain ⟨qr41, hqr42⟩ := p_recv hO (by rw [hT8]; decide) (rep_4 hT8)
    refine pc_V0 (G := G) (As := [.int 37]) (rest := [.ref (a 5)]) hx hb hml hown hq hE hX pX0_al hP hD hS hA hl.1 (Y_nearest l G h0 a (upd (upd (upd (upd (upd (upd (upd (upd F 5 (nI cs)) 6 (nI rg)) 18 0) 19 1) 20 0) 22 0) 23 5) 26 (nI ht)) (updR (updR (updR (updR R 5 (.ref pq)) 6 (.null)) 7 (.ref (a sp))) 8 (.ref (a op))) Z (updA B 33 ta14) J K w q8 (it k9) 37 g rk hT8 hwp hrk hy2 hO) (gV pw_573 pw_222 pw_223 pw_146 pw_154) hV_X2_nearest qr41 2 hqr42 rfl rfl rfl (Nat.le_of_ble_eq_true rfl) dX5_callNearest_78 ⟨Nat.le_of_ble_eq_true rfl, Nat.le_of_ble_eq_true rfl⟩ ⟨Nat.le_of_ble_eq_true rfl, Nat.le_of_ble_eq_true rfl⟩ (fun v40 u38 H locs hw39 hP hD hS => ?_)
    obtain ⟨w, _⟩ := u38
    obtain ⟨hw39, hO⟩ := hw39
    obtain rfl : v40 = some (.ref (it k9)) := hw39
    have hO : OKP G h0 a (upd (upd (upd (upd (upd (upd (upd (upd F 5 (nI cs)) 6 (nI rg)) 18 0) 19 1) 20 0) 22 0) 23 5) 26 (nI ht)) (updR (updR (updR (updR R 5 (.ref pq)) 6 (.null)) 7 (.ref (a sp))) 8 (.ref (a op))) Z (updA B 33 ta14) J K w := hO.to rfl
    refine W.widen (k := 0) (n := 0) (Nat.le_of_ble_eq_true rfl) (Nat.le_of_ble_eq_true rfl) ?_
    refine W.eq (g2 := F0 m 81 ls [.ref (it k9), .ref (a 5)]) rfl ?_
    refine lv_iload_n hx hb dX5_callNearest_81 rfl (lv_at hl 1 rfl) ?_
    have hO : OKP G h0 a (upd (upd (upd (upd (upd (upd (upd (upd (upd (upd (upd (upd (upd F 5 (nI cs)) 6 (nI rg)) 18 0) 19 1) 20 0) 22 0) 23 5) 26 (nI ht)) 18 (nI 0)) 19 (nI 1)) 20 (nI 0)) 22 (nI 0)) 23 5) (updR (updR (updR (updR (updR (updR R 5 (.ref pq)) 6 (.null)) 7 (.ref (a sp))) 8 (.ref (a op))) 5 (.ref pq)) 6 (.null)) Z (updA B 33 ta14) J K w := hO.to rfl
    obtain ⟨_, qr46, hqr47⟩ := hO.2.1 28 _ (sg_28 G h0 a _ _ _ _ _)
    refine pc_V0 (G := G) (As := [.ref (it k9), .int (nI 0)]) (rest := []) hx hb hml hown hq hE hX pX0_al hP hD hS hA hl.1 (Y_begin0 l G h0 a (upd (upd (upd (upd (upd (upd (upd (upd F 5 (nI cs)) 6 (nI rg)) 18 0) 19 1) 20 0) 22 0) 23 5) 26 (nI ht)) (updR (updR (updR (updR R 5 (.ref pq)) 6 (.null)) 7 (.ref (a sp))) 8 (.ref (a op))) Z (updA B 33 ta14) J K w y 0 k9 k9 0 0 1 0 fl12 pq dr ml nd nm cp it s9 g rk cs rg hwp hps hrk hpy (by omega) (by omega) hkn (by omega) h17 hO) (gV pw_574 pw_575 pw_576 pw_539 pw_563) hV_X5_begin qr46 4 hqr47 rfl rfl rfl (Nat.le_of_ble_eq_true rfl) dX5_callNearest_82 ⟨Nat.le_of_ble_eq_true rfl, Nat.le_of_ble_eq_true rfl⟩ ⟨Nat.le_of_ble_eq_true rfl, Nat.le_of_ble_eq_true rfl⟩ (fun v45 u43 H locs hw44 hP hD hS => ?_)
    obtain ⟨w, tp48, en49, nx50, ba51, on52, mr53, ta54, fr55⟩ := u43
    obtain ⟨hw44, h56, h57, h58, hO⟩ := hw44
    have h56 : BgQ 0 0 (ysl y k9) (ylo y k9) (it k9) (nI 0) (nI 0) (-1) ((B 30)) 1 tp48 en49 (F 21) nx50 ba51 on52 mr53 fr55 := h56
    have h57 : ta54 5 = nI fl12 := h57
    have h58 : tp48 ≤ 32000 ∧ ba51 ≤ 32000 ∧ on52 ≤ 100 := h58
    obtain rfl : v45 = none := hw44
    have hO : OKP G h0 a (upd (upd (upd (upd (upd (upd (upd (upd (upd F 5 (nI cs)) 6 (nI rg)) 18 (nI ba51)) 19 (nI tp48)) 20 0) 21 nx50) 22 (nI on52)) 23 en49) 26 (nI ht)) (updR (updR (updR (updR R 5 (.ref pq)) 6 (.ref mr53)) 7 (.ref (a sp))) 8 (.ref (a op))) Z (updA (updA B 30 fr55) 33 ta54) J K w := hO.to rfl
    refine W.widen (k := 0) (n := 0) (Nat.le_of_ble_eq_true rfl) (Nat.le_of_ble_eq_true rfl) ?_
    refine W.eq (g2 := F0 m 85 ls []) rfl ?_
    have hz59 : ¬ en49 = 5 ∨ (en49 = 5 ∧ fl = fl12 + 1 ∧ tp48 = ysl y k9 ∧ nx50 = nI (ylo y k9) ∧ ba51 = 0 ∧ on52 = 1 ∧ (some mr53) = some (it k9)) := (by rcases h56 with z | ⟨_, z2, z3, z4, z5, z6, z7, _⟩; (exact Or.inl (by rw [z.2]; decide)); (exact Or.inr ⟨z2, hfb, by omega, z4, z5, by omega, by rw [z7]⟩))
    have hz60 : ta54 5 = nI fl12 := h57
    have hz61 : tp48 ≤ 32000 ∧ ba51 ≤ 32000 ∧ on52 ≤ 100 ∧ fl12 ≤ fl := (by omega)
    have hO : OKP G h0 a (upd (upd (upd (upd (upd (upd (upd (upd (upd F 5 (nI cs)) 6 (nI rg)) 18 (nI ba51)) 19 (nI tp48)) 20 0) 21 nx50) 22 (nI on52)) 23 en49) 26 (nI ht)) (updR (updR (updR (updR R 5 (.ref pq)) 6 (va_rf (some mr53))) 7 (.ref (a sp))) 8 (.ref (a op))) Z (updA (updA B 30 fr55) 33 ta54) J K w := hO.to rfl
    exact W.vret hx hb hr (fun t99 ht99 hW99 => ⟨⟨_, (w, (tp48, en49, nx50, ba51, on52, fl12, (some mr53), ta54, fr55)), rfl, ⟨rfl, hz59, hz60, hz61, hO⟩, by rw [ht99]; exact hP, hD⟩, hS.F ht99⟩) hS.2.2 dX5_callNearest_85
  · have n62 : r11 = 0 := (nI_eq (a := r11) (b := 0) (by omega) (by omega)).mp c19
    have hne5 : ¬ en13 = 5 := by rcases h16 with z | z; (exact absurd z.1 (by omega)); (rw [z.2.1]; decide)
    have hz63 : ¬ en13 = 5 ∨ (en13 = 5 ∧ fl = fl12 + 1 ∧ 1 = ysl y k9 ∧ (F 21) = nI (ylo y k9) ∧ 0 = 0 ∧ 0 = 1 ∧ none = some (it k9)) := (Or.inl hne5)
    have hz64 : ta14 5 = nI fl12 := h17
    have hz65 : 1 ≤ 32000 ∧ 0 ≤ 32000 ∧ 0 ≤ 100 ∧ fl12 ≤ fl := (by omega)
    have hO : OKP G h0 a (upd (upd (upd (upd (upd (upd (upd (upd (upd F 5 (nI cs)) 6 (nI rg)) 18 (nI 0)) 19 (nI 1)) 20 0) 21 (F 21)) 22 (nI 0)) 23 en13) 26 (nI ht)) (updR (updR (updR (updR R 5 (.ref pq)) 6 (va_rf none)) 7 (.ref (a sp))) 8 (.ref (a op))) Z (updA (updA B 30 (B 30)) 33 ta14) J K w := hO.to rfl
    exact W.vret hx hb hr (fun t99 ht99 hW99 => ⟨⟨_, (w, (1, en13, (F 21), 0, 0, fl12, none, ta14, (B 30))), rfl, ⟨rfl, hz63, hz64, hz65, hO⟩, by rw [ht99]; exact hP, hD⟩, hS.F ht99⟩) hS.2.2 dX5_callNearest_25

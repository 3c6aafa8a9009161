theorem lt8_nn {x : Int32} (h : ¬ x < 8) : ¬ x < 0 := fun q => h (by
  rw [Int32.lt_iff_toInt_lt] at q ⊢
  have z1 : (0 : Int32).toInt = 0 := by decide
  have z2 : (8 : Int32).toInt = 8 := by decide
  omega)
theorem dX3_isReference_0 : decode cX3_isReference 0 = .ok (.lload_n 0, 1) := by decide +kernel
theorem dX3_isReference_1 : decode cX3_isReference 1 = .ok (.ldc2_w 33, 3) := by decide +kernel
theorem dX3_isReference_4 : decode cX3_isReference 4 = .ok (.land, 1) := by decide +kernel
theorem dX3_isReference_5 : decode cX3_isReference 5 = .ok (.lconst 0, 1) := by decide +kernel
theorem dX3_isReference_6 : decode cX3_isReference 6 = .ok (.lcmp, 1) := by decide +kernel
theorem dX3_isReference_7 : decode cX3_isReference 7 = .ok (.ifCond .eq 7, 3) := by decide +kernel
theorem dX3_isReference_14 : decode cX3_isReference 14 = .ok (.iconst 0, 1) := by decide +kernel
theorem dX3_isReference_15 : decode cX3_isReference 15 = .ok (.ireturn, 1) := by decide +kernel
theorem dX3_isReference_10 : decode cX3_isReference 10 = .ok (.iconst 1, 1) := by decide +kernel
theorem dX3_isReference_11 : decode cX3_isReference 11 = .ok (.goto 4, 3) := by decide +kernel
set_option maxHeartbeats 1000000 in
set_option maxRecDepth 100000 in
/-- s_isRef -/
theorem s_isRef (l : Launch) (G : pT) (x : Int64) : PM l G pX0 yX3_isReference cX3_isReference 2 (some .boolean) ({ frames := 2, cells := 0, slots := 0, locals := 60 }) [.long x] [] (fun (v : Option Value) (u : Nat) => v = some (.int (nI u)) ∧ u ≤ 1) (fun u => []) := by
  intro sz
  refine Met.ofW (cc := cX3_isReference) (maxL := 2) (ret := (some .boolean)) (by decide) rfl ?_
  intro p e s m args below meth c s₁ B hml hv
  obtain ⟨rfl, hsz, hP, hD0, hE, hX⟩ := hv
  have hx := B.exec
  have hb := B.bytes
  have hr := B.returns
  have hts := atoms_spec (ws := Cond.code yX3_isReference cX3_isReference 2 (some .boolean) :: pw) B.pre
  have hq : ∀ w ∈ pw, w.before _ s = true := fun w h => hts w (List.mem_cons_of_mem _ h)
  have hown : s.vm.findClass RX3 = some m.cls := findClass_of_methodNamed B.named
  have hlocks := B.notSynchronized
  subst hsz
  have hD := hD0.self (sz := s.heap.size)
  have hA : ∀ q : Nat, s.heap.size ≤ q → va_A [] s.heap.size q := fun q h => Or.inr h
  have hP : va_P G.1 pCl [] s.heap := hP
  generalize va_A [] s.heap.size = A at hD hE hA ⊢
  have hS : va_S A s.heap s.heap [] := va_S.rf
  have hl := lv_entry ([.long x]) (n := 2) (Nat.le_of_ble_eq_true rfl)
  rw [lg_entry_eq]
  generalize (lg_sl ([.long x]) ++ List.replicate (2 - (lg_sl ([.long x])).length) Slot.unset).toArray = ls at hl ⊢
  have hl : lv_has ls 2 [(0, .long x)] := hl
  refine lv_lload_n hx hb dX3_isReference_0 rfl (lv_at hl 0 rfl) ?_
  refine lv_ldc2 (v := 4294967296) hx hb hown (hq _ pw_424) dX3_isReference_1 ?_
  refine lv_land hx hb dX3_isReference_4 ?_
  refine lv_topl (fun x1 e2 => ?_)
  refine lv_lconst (v := 0) hx hb dX3_isReference_5 (by decide) ?_
  refine W.lcmp hx hb dX3_isReference_6 ?_
  refine lv_topi (fun x3 e4 => ?_)
  refine lv_if_eq (tgt := 14) hx hb dX3_isReference_7 (by decide) (fun c5 => ?_) (fun c5 => ?_)
  · refine lv_iconst (v := 0) hx hb dX3_isReference_14 (by decide) ?_
    refine W.widen (k := 0) (n := 0) (Nat.le_of_ble_eq_true rfl) (Nat.le_of_ble_eq_true rfl) ?_
    exact W.zret (v := 0) hx hb hr rfl (fun t ht hW => ⟨⟨_, 0, rfl, ⟨rfl, by decide⟩, by rw [ht]; exact hP.sub [] rfl, hD.sub [] (by decide) rfl⟩, hS.F ht⟩) hS.2.2 dX3_isReference_15
  · refine lv_iconst (v := 1) hx hb dX3_isReference_10 (by decide) ?_
    refine lv_goto (tgt := 15) hx hb dX3_isReference_11 (by decide) ?_
    refine W.widen (k := 0) (n := 0) (Nat.le_of_ble_eq_true rfl) (Nat.le_of_ble_eq_true rfl) ?_
    exact W.zret (v := 1) hx hb hr rfl (fun t ht hW => ⟨⟨_, 1, rfl, ⟨rfl, by decide⟩, by rw [ht]; exact hP.sub [] rfl, hD.sub [] (by decide) rfl⟩, hS.F ht⟩) hS.2.2 dX3_isReference_15
theorem dX3_aheadOf_0 : decode cX3_aheadOf 0 = .ok (.lload_n 0, 1) := by decide +kernel
theorem dX3_aheadOf_1 : decode cX3_aheadOf 1 = .ok (.ldc2_w 56, 3) := by decide +kernel
theorem dX3_aheadOf_4 : decode cX3_aheadOf 4 = .ok (.land, 1) := by decide +kernel
theorem dX3_aheadOf_5 : decode cX3_aheadOf 5 = .ok (.ldc2_w 58, 3) := by decide +kernel
theorem dX3_aheadOf_8 : decode cX3_aheadOf 8 = .ok (.lcmp, 1) := by decide +kernel
theorem dX3_aheadOf_9 : decode cX3_aheadOf 9 = .ok (.ifCond .lt 7, 3) := by decide +kernel
theorem dX3_aheadOf_16 : decode cX3_aheadOf 16 = .ok (.iconst 1, 1) := by decide +kernel
theorem dX3_aheadOf_17 : decode cX3_aheadOf 17 = .ok (.ireturn, 1) := by decide +kernel
theorem dX3_aheadOf_12 : decode cX3_aheadOf 12 = .ok (.iconst 2, 1) := by decide +kernel
theorem dX3_aheadOf_13 : decode cX3_aheadOf 13 = .ok (.goto 4, 3) := by decide +kernel
set_option maxHeartbeats 1000000 in
set_option maxRecDepth 100000 in
/-- s_ahead -/
theorem s_ahead (l : Launch) (G : pT) (x : Int64) : PM l G pX0 yX3_aheadOf cX3_aheadOf 2 (some .int) ({ frames := 2, cells := 0, slots := 0, locals := 60 }) [.long x] [] (fun (v : Option Value) (u : Nat) => v = some (.int (nI u)) ∧ u ≤ 2) (fun u => []) := by
  intro sz
  refine Met.ofW (cc := cX3_aheadOf) (maxL := 2) (ret := (some .int)) (by decide) rfl ?_
  intro p e s m args below meth c s₁ B hml hv
  obtain ⟨rfl, hsz, hP, hD0, hE, hX⟩ := hv
  have hx := B.exec
  have hb := B.bytes
  have hr := B.returns
  have hts := atoms_spec (ws := Cond.code yX3_aheadOf cX3_aheadOf 2 (some .int) :: pw) B.pre
  have hq : ∀ w ∈ pw, w.before _ s = true := fun w h => hts w (List.mem_cons_of_mem _ h)
  have hown : s.vm.findClass RX3 = some m.cls := findClass_of_methodNamed B.named
  have hlocks := B.notSynchronized
  subst hsz
  have hD := hD0.self (sz := s.heap.size)
  have hA : ∀ q : Nat, s.heap.size ≤ q → va_A [] s.heap.size q := fun q h => Or.inr h
  have hP : va_P G.1 pCl [] s.heap := hP
  generalize va_A [] s.heap.size = A at hD hE hA ⊢
  have hS : va_S A s.heap s.heap [] := va_S.rf
  have hl := lv_entry ([.long x]) (n := 2) (Nat.le_of_ble_eq_true rfl)
  rw [lg_entry_eq]
  generalize (lg_sl ([.long x]) ++ List.replicate (2 - (lg_sl ([.long x])).length) Slot.unset).toArray = ls at hl ⊢
  have hl : lv_has ls 2 [(0, .long x)] := hl
  refine lv_lload_n hx hb dX3_aheadOf_0 rfl (lv_at hl 0 rfl) ?_
  refine lv_ldc2 (v := 255) hx hb hown (hq _ pw_446) dX3_aheadOf_1 ?_
  refine lv_land hx hb dX3_aheadOf_4 ?_
  refine lv_topl (fun x1 e2 => ?_)
  refine lv_ldc2 (v := 64) hx hb hown (hq _ pw_447) dX3_aheadOf_5 ?_
  refine W.lcmp hx hb dX3_aheadOf_8 ?_
  refine lv_topi (fun x3 e4 => ?_)
  refine lv_if_lt (tgt := 16) hx hb dX3_aheadOf_9 (by decide) (fun c5 => ?_) (fun c5 => ?_)
  · refine lv_iconst (v := 1) hx hb dX3_aheadOf_16 (by decide) ?_
    refine W.widen (k := 0) (n := 0) (Nat.le_of_ble_eq_true rfl) (Nat.le_of_ble_eq_true rfl) ?_
    exact W.iret (v := 1) hx hb hr (fun t ht hW => ⟨⟨_, 1, rfl, ⟨rfl, by decide⟩, by rw [ht]; exact hP.sub [] rfl, hD.sub [] (by decide) rfl⟩, hS.F ht⟩) hS.2.2 dX3_aheadOf_17
  · refine lv_iconst (v := 2) hx hb dX3_aheadOf_12 (by decide) ?_
    refine lv_goto (tgt := 17) hx hb dX3_aheadOf_13 (by decide) ?_
    refine W.widen (k := 0) (n := 0) (Nat.le_of_ble_eq_true rfl) (Nat.le_of_ble_eq_true rfl) ?_
    exact W.iret (v := 2) hx hb hr (fun t ht hW => ⟨⟨_, 2, rfl, ⟨rfl, by decide⟩, by rw [ht]; exact hP.sub [] rfl, hD.sub [] (by decide) rfl⟩, hS.F ht⟩) hS.2.2 dX3_aheadOf_17
theorem dX3_start_0 : decode cX3_start 0 = .ok (.aload_n 0, 1) := by decide +kernel
theorem dX3_start_1 : decode cX3_start 1 = .ok (.bipush 8, 2) := by decide +kernel
theorem dX3_start_3 : decode cX3_start 3 = .ok (.putfield 20, 3) := by decide +kernel
theorem dX3_start_6 : decode cX3_start 6 = .ok (.aload_n 0, 1) := by decide +kernel
theorem dX3_start_7 : decode cX3_start 7 = .ok (.bipush 8, 2) := by decide +kernel
theorem dX3_start_9 : decode cX3_start 9 = .ok (.iload_n 1, 1) := by decide +kernel
theorem dX3_start_10 : decode cX3_start 10 = .ok (.sipush 3000, 3) := by decide +kernel
theorem dX3_start_13 : decode cX3_start 13 = .ok (.invokestatic 24, 3) := by decide +kernel
theorem dX3_start_16 : decode cX3_start 16 = .ok (.iadd, 1) := by decide +kernel
theorem dX3_start_17 : decode cX3_start 17 = .ok (.putfield 30, 3) := by decide +kernel
theorem dX3_start_20 : decode cX3_start 20 = .ok (.return_, 1) := by decide +kernel
set_option maxHeartbeats 2000000 in
set_option maxRecDepth 100000 in
theorem K_heapStart (l : Launch) (G : pT) (h0 : Nat) (a : Nat → Nat) (F : Nat → Int32) (R : Nat → Value) (Z : Int64) (B : Nat → Nat → Int32) (J : Nat → Nat → Int64) (T : Nat → Nat) (Pi : Nat → va_E → Prop) (w : va_W) (c9 : Nat) (hc9 : c9 ≤ 3000) (hO : OKW G h0 a F R Z B J T Pi w) : PM l G pX0 yX3_start cX3_start 2 none ({ frames := 2, cells := 0, slots := 0, locals := 60 }) [.ref (a 28), .int (nI c9)] w (fun (v : Option Value) (u : va_W × (Unit)) => v = none ∧ (OKW G h0 a (upd (upd F 26 8) 28 (nI (8 + c9))) R Z B J T Pi u.1)) (fun u => u.1) := by
  intro sz
  refine Met.ofW (cc := cX3_start) (maxL := 2) (ret := none) (by decide) rfl ?_
  intro p e s m args below meth c s₁ B9 hml hv
  obtain ⟨rfl, hsz, hP, hD0, hE, hX⟩ := hv
  have hx := B9.exec
  have hb := B9.bytes
  have hr := B9.returns
  have hts := atoms_spec (ws := Cond.code yX3_start cX3_start 2 none :: pw) B9.pre
  have hq : ∀ w ∈ pw, w.before _ s = true := fun w h => hts w (List.mem_cons_of_mem _ h)
  have hown : s.vm.findClass RX3 = some m.cls := findClass_of_methodNamed B9.named
  have hlocks := B9.notSynchronized
  subst hsz
  have hD := hD0.self (sz := s.heap.size)
  have hA : ∀ q : Nat, s.heap.size ≤ q → va_A w s.heap.size q := fun q h => Or.inr h
  generalize va_A w s.heap.size = A at hD hE hA ⊢
  have hS : va_S A s.heap s.heap [] := va_S.rf
  have hl := lv_entry ([.ref (a 28), .int (nI c9)]) (n := 2) (Nat.le_of_ble_eq_true rfl)
  rw [lg_entry_eq]
  generalize (lg_sl ([.ref (a 28), .int (nI c9)]) ++ List.replicate (2 - (lg_sl ([.ref (a 28), .int (nI c9)])).length) Slot.unset).toArray = ls at hl ⊢
  have hl : lv_has ls 2 [(0, .ref (a 28)), (1, .int (nI c9))] := hl
  refine lv_aload_n hx hb dX3_start_0 rfl (lv_at hl 0 rfl) ?_
  refine lv_bipush (v := 8) hx hb dX3_start_1 (by decide) ?_
  refine c_put (v := .int 8) (ty := .int) (C := RX3) (Tc := TX3) (N := 5) (ci := 3) hx hb hq pin_wsX30 tyX3 tyX3_ok nmX3 hown hE hP hD hS hO 29 (sg_29 G h0 a _ _ _ _ _) rfl 2 (by decide) (hq _ pw_417) (fun _ h9 => h9) rfl (by decide +kernel) rfl rfl (Nat.le_of_ble_eq_true rfl) (sf_26 G h0 a _ _ _ _ _ 8) dX3_start_3 (fun H locs w hP hD hS hO => ?_)
  refine lv_aload_n hx hb dX3_start_6 rfl (lv_at hl 0 rfl) ?_
  refine lv_bipush (v := 8) hx hb dX3_start_7 (by decide) ?_
  refine lv_iload_n hx hb dX3_start_9 rfl (lv_at hl 1 rfl) ?_
  refine lv_sipush (v := 3000) hx hb dX3_start_10 (by decide) ?_
  refine va_mmin (own := RX3) hx hb (by rw [hml]; exact hl.1.symm) hown (hq _ pw_419) (hq _ pw_420) (hq _ pw_52) (hq _ pw_421) (Nat.le_of_ble_eq_true rfl) (Nat.le_of_ble_eq_true rfl) (Nat.le_of_ble_eq_true rfl) (Nat.le_of_ble_eq_true rfl) dX3_start_13 ?_
  refine lv_topi (fun x1 e2 => ?_)
  obtain rfl : x1 = nI c9 := e2.trans (mn_l (n := 3000) (by omega) (by omega))
  refine lv_iadd hx hb dX3_start_16 ?_
  refine lv_topi (fun x3 e4 => ?_)
  obtain rfl : x3 = nI (8 + c9) := e4.trans (nI_add (8) (c9))
  refine c_put (v := .int (nI (8 + c9))) (ty := .int) (C := RX3) (Tc := TX3) (N := 5) (ci := 3) hx hb hq pin_wsX30 tyX3 tyX3_ok nmX3 hown hE hP hD hS hO 29 (sg_29 G h0 a _ _ _ _ _) rfl 4 (by decide) (hq _ pw_422) (fun _ h9 => h9) rfl (by decide +kernel) rfl rfl (Nat.le_of_ble_eq_true rfl) (sf_28 G h0 a _ _ _ _ _ (nI (8 + c9))) dX3_start_17 (fun H locs w hP hD hS hO => ?_)
  have hO : OKW G h0 a (upd (upd F 26 8) 28 (nI (8 + c9))) R Z B J T Pi w := hO.to rfl
  exact W.vret hx hb hr (fun t99 ht99 hW99 => ⟨⟨_, (w, ()), rfl, ⟨rfl, hO⟩, by rw [ht99]; exact hP, hD⟩, hS.F ht99⟩) hS.2.2 dX3_start_20
theorem dX3_hasRoom_0 : decode cX3_hasRoom 0 = .ok (.aload_n 0, 1) := by decide +kernel
theorem dX3_hasRoom_1 : decode cX3_hasRoom 1 = .ok (.getfield 20, 3) := by decide +kernel
theorem dX3_hasRoom_4 : decode cX3_hasRoom 4 = .ok (.i2l, 1) := by decide +kernel
theorem dX3_hasRoom_5 : decode cX3_hasRoom 5 = .ok (.lload_n 1, 1) := by decide +kernel
theorem dX3_hasRoom_6 : decode cX3_hasRoom 6 = .ok (.ladd, 1) := by decide +kernel
theorem dX3_hasRoom_7 : decode cX3_hasRoom 7 = .ok (.aload_n 0, 1) := by decide +kernel
theorem dX3_hasRoom_8 : decode cX3_hasRoom 8 = .ok (.getfield 30, 3) := by decide +kernel
theorem dX3_hasRoom_11 : decode cX3_hasRoom 11 = .ok (.i2l, 1) := by decide +kernel
theorem dX3_hasRoom_12 : decode cX3_hasRoom 12 = .ok (.lcmp, 1) := by decide +kernel
theorem dX3_hasRoom_13 : decode cX3_hasRoom 13 = .ok (.ifCond .gt 7, 3) := by decide +kernel
theorem dX3_hasRoom_20 : decode cX3_hasRoom 20 = .ok (.iconst 0, 1) := by decide +kernel
theorem dX3_hasRoom_21 : decode cX3_hasRoom 21 = .ok (.ireturn, 1) := by decide +kernel
theorem dX3_hasRoom_16 : decode cX3_hasRoom 16 = .ok (.iconst 1, 1) := by decide +kernel
theorem dX3_hasRoom_17 : decode cX3_hasRoom 17 = .ok (.goto 4, 3) := by decide +kernel
set_option maxHeartbeats 2000000 in
set_option maxRecDepth 100000 in
theorem K_hasRoom (l : Launch) (G : pT) (h0 : Nat) (a : Nat → Nat) (F : Nat → Int32) (R : Nat → Value) (Z : Int64) (B : Nat → Nat → Int32) (J : Nat → Nat → Int64) (T : Nat → Nat) (Pi : Nat → va_E → Prop) (w : va_W) (x : Int64) (hO : OKW G h0 a F R Z B J T Pi w) : PM l G pX0 yX3_hasRoom cX3_hasRoom 3 (some .boolean) ({ frames := 2, cells := 0, slots := 0, locals := 60 }) [.ref (a 28), .long x] w (fun (v : Option Value) (u : va_W × (Nat)) => v = some (.int (nI u.2)) ∧ (u.2 ≤ 1) ∧ (OKW G h0 a F R Z B J T Pi u.1)) (fun u => u.1) := by
  intro sz
  refine Met.ofW (cc := cX3_hasRoom) (maxL := 3) (ret := (some .boolean)) (by decide) rfl ?_
  intro p e s m args below meth c s₁ B9 hml hv
  obtain ⟨rfl, hsz, hP, hD0, hE, hX⟩ := hv
  have hx := B9.exec
  have hb := B9.bytes
  have hr := B9.returns
  have hts := atoms_spec (ws := Cond.code yX3_hasRoom cX3_hasRoom 3 (some .boolean) :: pw) B9.pre
  have hq : ∀ w ∈ pw, w.before _ s = true := fun w h => hts w (List.mem_cons_of_mem _ h)
  have hown : s.vm.findClass RX3 = some m.cls := findClass_of_methodNamed B9.named
  have hlocks := B9.notSynchronized
  subst hsz
  have hD := hD0.self (sz := s.heap.size)
  have hA : ∀ q : Nat, s.heap.size ≤ q → va_A w s.heap.size q := fun q h => Or.inr h
  generalize va_A w s.heap.size = A at hD hE hA ⊢
  have hS : va_S A s.heap s.heap [] := va_S.rf
  have hl := lv_entry ([.ref (a 28), .long x]) (n := 3) (Nat.le_of_ble_eq_true rfl)
  rw [lg_entry_eq]
  generalize (lg_sl ([.ref (a 28), .long x]) ++ List.replicate (3 - (lg_sl ([.ref (a 28), .long x])).length) Slot.unset).toArray = ls at hl ⊢
  have hl : lv_has ls 3 [(0, .ref (a 28)), (1, .long x)] := hl
  refine lv_aload_n hx hb dX3_hasRoom_0 rfl (lv_at hl 0 rfl) ?_
  refine c_get (v := .int (F 26)) (C := RX3) (Tc := TX3) (N := 5) (ci := 3) hx hb hq pin_wsX30 hown hE hP hO 29 (sg_29 G h0 a _ _ _ _ _) rfl 2 (by decide) (hq _ pw_417) (fun _ h9 => h9) rfl dX3_hasRoom_1 ?_
  refine lv_i2l hx hb dX3_hasRoom_4 rfl ?_
  refine lv_topl (fun x1 e2 => ?_)
  refine lv_lload_n hx hb dX3_hasRoom_5 rfl (lv_at hl 1 rfl) ?_
  refine lv_ladd hx hb dX3_hasRoom_6 ?_
  refine lv_topl (fun x3 e4 => ?_)
  refine lv_aload_n hx hb dX3_hasRoom_7 rfl (lv_at hl 0 rfl) ?_
  refine c_get (v := .int (F 28)) (C := RX3) (Tc := TX3) (N := 5) (ci := 3) hx hb hq pin_wsX30 hown hE hP hO 29 (sg_29 G h0 a _ _ _ _ _) rfl 4 (by decide) (hq _ pw_422) (fun _ h9 => h9) rfl dX3_hasRoom_8 ?_
  refine lv_i2l hx hb dX3_hasRoom_11 rfl ?_
  refine lv_topl (fun x5 e6 => ?_)
  refine W.lcmp hx hb dX3_hasRoom_12 ?_
  refine lv_topi (fun x7 e8 => ?_)
  refine lv_if_gt (tgt := 20) hx hb dX3_hasRoom_13 (by decide) (fun c9 => ?_) (fun c9 => ?_)
  · refine lv_iconst (v := 0) hx hb dX3_hasRoom_20 (by decide) ?_
    have hz10 : 0 ≤ 1 := (by omega)
    have hO : OKW G h0 a F R Z B J T Pi w := hO.to rfl
    exact W.zret (v := 0) hx hb hr rfl (fun t99 ht99 hW99 => ⟨⟨_, (w, 0), rfl, ⟨rfl, hz10, hO⟩, by rw [ht99]; exact hP, hD⟩, hS.F ht99⟩) hS.2.2 dX3_hasRoom_21
  · refine lv_iconst (v := 1) hx hb dX3_hasRoom_16 (by decide) ?_
    refine lv_goto (tgt := 21) hx hb dX3_hasRoom_17 (by decide) ?_
    have hz11 : 1 ≤ 1 := (by omega)
    have hO : OKW G h0 a F R Z B J T Pi w := hO.to rfl
    exact W.zret (v := 1) hx hb hr rfl (fun t99 ht99 hW99 => ⟨⟨_, (w, 1), rfl, ⟨rfl, hz11, hO⟩, by rw [ht99]; exact hP, hD⟩, hS.F ht99⟩) hS.2.2 dX3_hasRoom_21
theorem dJ7_rangeCheck_23922_0 : decode cJ7_rangeCheck_23922 0 = .ok (.iload_n 1, 1) := by decide +kernel
theorem dJ7_rangeCheck_23922_1 : decode cJ7_rangeCheck_23922 1 = .ok (.iload_n 2, 1) := by decide +kernel
theorem dJ7_rangeCheck_23922_2 : decode cJ7_rangeCheck_23922 2 = .ok (.if_icmp .le 44, 3) := by decide +kernel
theorem dJ7_rangeCheck_23922_46 : decode cJ7_rangeCheck_23922 46 = .ok (.iload_n 1, 1) := by decide +kernel
theorem dJ7_rangeCheck_23922_47 : decode cJ7_rangeCheck_23922 47 = .ok (.ifCond .ge 12, 3) := by decide +kernel
theorem dJ7_rangeCheck_23922_59 : decode cJ7_rangeCheck_23922 59 = .ok (.iload_n 2, 1) := by decide +kernel
theorem dJ7_rangeCheck_23922_60 : decode cJ7_rangeCheck_23922 60 = .ok (.iload_n 0, 1) := by decide +kernel
theorem dJ7_rangeCheck_23922_61 : decode cJ7_rangeCheck_23922 61 = .ok (.if_icmp .le 12, 3) := by decide +kernel
theorem dJ7_rangeCheck_23922_73 : decode cJ7_rangeCheck_23922 73 = .ok (.return_, 1) := by decide +kernel
set_option maxHeartbeats 1000000 in
set_option maxRecDepth 100000 in
/-- rangeCheck -/
theorem s_range (l : Launch) (G : pT) (n9 : Nat) (f9 : Nat) (t9 : Nat) (hr9 : f9 ≤ t9 ∧ t9 ≤ n9 ∧ n9 < 2 ^ 31) : PM l G pX0 yJ7_rangeCheck_23922 cJ7_rangeCheck_23922 3 none ({ frames := 2, cells := 0, slots := 0, locals := 60 }) [.int (nI n9), .int (nI f9), .int (nI t9)] [] (fun (v : Option Value) (u : Unit) => v = none) (fun u => []) := by
  intro sz
  refine Met.ofW (cc := cJ7_rangeCheck_23922) (maxL := 3) (ret := none) (by decide) rfl ?_
  intro p e s m args below meth c s₁ B hml hv
  obtain ⟨rfl, hsz, hP, hD0, hE, hX⟩ := hv
  have hx := B.exec
  have hb := B.bytes
  have hr := B.returns
  have hts := atoms_spec (ws := Cond.code yJ7_rangeCheck_23922 cJ7_rangeCheck_23922 3 none :: pw) B.pre
  have hq : ∀ w ∈ pw, w.before _ s = true := fun w h => hts w (List.mem_cons_of_mem _ h)
  have hown : s.vm.findClass RJ7 = some m.cls := findClass_of_methodNamed B.named
  have hlocks := B.notSynchronized
  subst hsz
  have hD := hD0.self (sz := s.heap.size)
  have hA : ∀ q : Nat, s.heap.size ≤ q → va_A [] s.heap.size q := fun q h => Or.inr h
  have hP : va_P G.1 pCl [] s.heap := hP
  generalize va_A [] s.heap.size = A at hD hE hA ⊢
  have hS : va_S A s.heap s.heap [] := va_S.rf
  have hl := lv_entry ([.int (nI n9), .int (nI f9), .int (nI t9)]) (n := 3) (Nat.le_of_ble_eq_true rfl)
  rw [lg_entry_eq]
  generalize (lg_sl ([.int (nI n9), .int (nI f9), .int (nI t9)]) ++ List.replicate (3 - (lg_sl ([.int (nI n9), .int (nI f9), .int (nI t9)])).length) Slot.unset).toArray = ls at hl ⊢
  have hl : lv_has ls 3 [(0, .int (nI n9)), (1, .int (nI f9)), (2, .int (nI t9))] := hl
  refine lv_iload_n hx hb dJ7_rangeCheck_23922_0 rfl (lv_at hl 1 rfl) ?_
  refine lv_iload_n hx hb dJ7_rangeCheck_23922_1 rfl (lv_at hl 2 rfl) ?_
  refine lv_icmp_le (tgt := 46) hx hb dJ7_rangeCheck_23922_2 (by decide) (fun c1 => ?_) (fun c1 => (absurd ((nI_leI (a := f9) (b := t9) (by omega) (by omega)).mpr (by omega)) c1))
  refine lv_iload_n hx hb dJ7_rangeCheck_23922_46 rfl (lv_at hl 1 rfl) ?_
  refine lv_if_ge (tgt := 59) hx hb dJ7_rangeCheck_23922_47 (by decide) (fun c2 => ?_) (fun c2 => (absurd ((nI_leI (a := 0) (b := f9) (by omega) (by omega)).mpr (by omega)) c2))
  refine lv_iload_n hx hb dJ7_rangeCheck_23922_59 rfl (lv_at hl 2 rfl) ?_
  refine lv_iload_n hx hb dJ7_rangeCheck_23922_60 rfl (lv_at hl 0 rfl) ?_
  refine lv_icmp_le (tgt := 73) hx hb dJ7_rangeCheck_23922_61 (by decide) (fun c3 => ?_) (fun c3 => (absurd ((nI_leI (a := t9) (b := n9) (by omega) (by omega)).mpr (by omega)) c3))
  refine W.widen (k := 0) (n := 0) (Nat.le_of_ble_eq_true rfl) (Nat.le_of_ble_eq_true rfl) ?_
  exact W.vret hx hb hr (fun t ht hW => ⟨⟨_, (), rfl, rfl, by rw [ht]; exact hP.sub [] rfl, hD.sub [] (by decide) rfl⟩, hS.F ht⟩) hS.2.2 dJ7_rangeCheck_23922_73
theorem dJ7_fill_bad5a_0 : decode cJ7_fill_bad5a 0 = .ok (.aload_n 0, 1) := by decide +kernel
theorem dJ7_fill_bad5a_1 : decode cJ7_fill_bad5a 1 = .ok (.arraylength, 1) := by decide +kernel
theorem dJ7_fill_bad5a_2 : decode cJ7_fill_bad5a 2 = .ok (.iload_n 1, 1) := by decide +kernel
theorem dJ7_fill_bad5a_3 : decode cJ7_fill_bad5a 3 = .ok (.iload_n 2, 1) := by decide +kernel
theorem dJ7_fill_bad5a_4 : decode cJ7_fill_bad5a 4 = .ok (.invokestatic 13, 3) := by decide +kernel
theorem dJ7_fill_bad5a_7 : decode cJ7_fill_bad5a 7 = .ok (.iload_n 1, 1) := by decide +kernel
theorem dJ7_fill_bad5a_8 : decode cJ7_fill_bad5a 8 = .ok (.istore 5, 2) := by decide +kernel
theorem dJ7_fill_bad5a_10 : decode cJ7_fill_bad5a 10 = .ok (.iload 5, 2) := by decide +kernel
theorem dJ7_fill_bad5a_12 : decode cJ7_fill_bad5a 12 = .ok (.iload_n 2, 1) := by decide +kernel
theorem dJ7_fill_bad5a_13 : decode cJ7_fill_bad5a 13 = .ok (.if_icmp .ge 14, 3) := by decide +kernel
theorem dJ7_fill_bad5a_27 : decode cJ7_fill_bad5a 27 = .ok (.return_, 1) := by decide +kernel
theorem dJ7_fill_bad5a_16 : decode cJ7_fill_bad5a 16 = .ok (.aload_n 0, 1) := by decide +kernel
theorem dJ7_fill_bad5a_17 : decode cJ7_fill_bad5a 17 = .ok (.iload 5, 2) := by decide +kernel
theorem dJ7_fill_bad5a_19 : decode cJ7_fill_bad5a 19 = .ok (.lload_n 3, 1) := by decide +kernel
theorem dJ7_fill_bad5a_20 : decode cJ7_fill_bad5a 20 = .ok (.lastore, 1) := by decide +kernel
theorem dJ7_fill_bad5a_21 : decode cJ7_fill_bad5a 21 = .ok (.iinc 5 1, 3) := by decide +kernel
theorem dJ7_fill_bad5a_24 : decode cJ7_fill_bad5a 24 = .ok (.goto (-14), 3) := by decide +kernel
theorem hS_J7_rangeCheck_23922 : yJ7_rangeCheck_23922.cls ≠ "java/lang/invoke/MethodHandle" ∧ yJ7_rangeCheck_23922.cls ≠ "java/lang/invoke/VarHandle" ∧ (parseMethodDescriptor yJ7_rangeCheck_23922.desc).map (fun d => d.parameters.length) = some 3 := by decide +kernel
set_option maxHeartbeats 2000000 in
set_option maxRecDepth 100000 in
theorem K_fillL (l : Launch) (G : pT) (h0 : Nat) (a : Nat → Nat) (F : Nat → Int32) (R : Nat → Value) (Z : Int64) (B : Nat → Nat → Int32) (J : Nat → Nat → Int64) (T : Nat → Nat) (Pi : Nat → va_E → Prop) (w : va_W) (sp : Nat) (op : Nat) (f9 : Nat) (t9 : Nat) (x : Int64) (hsp : (sp = 34 ∧ op = 35) ∨ (sp = 35 ∧ op = 34)) (hft : f9 ≤ t9 ∧ t9 ≤ 3008) (hO : OKW G h0 a F R Z B J T Pi w) : PM l G pX0 yJ7_fill_bad5a cJ7_fill_bad5a 6 none ({ frames := 3, cells := 0, slots := 0, locals := 82 }) [.ref (a sp), .int (nI f9), .int (nI t9), .long x] w (fun (v : Option Value) (u : va_W × ((Nat → Nat → Int64))) => v = none ∧ (OKW G h0 a F R Z B u.2 T Pi u.1)) (fun u => u.1) := by
  intro sz
  refine Met.ofW (cc := cJ7_fill_bad5a) (maxL := 6) (ret := none) (by decide) rfl ?_
  intro p e s m args below meth c s₁ B9 hml hv
  obtain ⟨rfl, hsz, hP, hD0, hE, hX⟩ := hv
  have hx := B9.exec
  have hb := B9.bytes
  have hr := B9.returns
  have hts := atoms_spec (ws := Cond.code yJ7_fill_bad5a cJ7_fill_bad5a 6 none :: pw) B9.pre
  have hq : ∀ w ∈ pw, w.before _ s = true := fun w h => hts w (List.mem_cons_of_mem _ h)
  have hown : s.vm.findClass RJ7 = some m.cls := findClass_of_methodNamed B9.named
  have hlocks := B9.notSynchronized
  subst hsz
  have hD := hD0.self (sz := s.heap.size)
  have hA : ∀ q : Nat, s.heap.size ≤ q → va_A w s.heap.size q := fun q h => Or.inr h
  generalize va_A w s.heap.size = A at hD hE hA ⊢
  have hS : va_S A s.heap s.heap [] := va_S.rf
  have hl := lv_entry ([.ref (a sp), .int (nI f9), .int (nI t9), .long x]) (n := 6) (Nat.le_of_ble_eq_true rfl)
  rw [lg_entry_eq]
  generalize (lg_sl ([.ref (a sp), .int (nI f9), .int (nI t9), .long x]) ++ List.replicate (6 - (lg_sl ([.ref (a sp), .int (nI f9), .int (nI t9), .long x])).length) Slot.unset).toArray = ls at hl ⊢
  have hl : lv_has ls 6 [(0, .ref (a sp)), (1, .int (nI f9)), (2, .int (nI t9)), (3, .long x)] := hl
  rcases hsp with ⟨rfl, rfl⟩ | ⟨rfl, rfl⟩
  · skip
    refine lv_aload_n hx hb dJ7_fill_bad5a_0 rfl (lv_at hl 0 rfl) ?_
    refine c_len (n := 0) (t0 := 2) (v := 3008) hx hb hE hP hO 30 (sg_30 G h0 a _ _ _ _ _) rfl rfl dJ7_fill_bad5a_1 ?_
    refine lv_iload_n hx hb dJ7_fill_bad5a_2 rfl (lv_at hl 1 rfl) ?_
    refine lv_iload_n hx hb dJ7_fill_bad5a_3 rfl (lv_at hl 2 rfl) ?_
    refine pc_SN (G := G) (As := [.int (nI 3008), .int (nI f9), .int (nI t9)]) (rest := []) hx hb hml hown hq hE hX pX0_al hP hS hA hl.1 (s_range l G 3008 f9 t9 (by omega)) (gS pw_431 pw_432 pw_433 pw_426) hS_J7_rangeCheck_23922 rfl (Nat.le_of_ble_eq_true rfl) dJ7_fill_bad5a_4 ⟨Nat.le_of_ble_eq_true rfl, Nat.le_of_ble_eq_true rfl⟩ ⟨Nat.le_of_ble_eq_true rfl, Nat.le_of_ble_eq_true rfl⟩ (fun v3 u1 H locs hw2 hP hS => ?_)
    obtain rfl : v3 = none := hw2
    refine W.widen (k := 0) (n := 0) (Nat.le_of_ble_eq_true rfl) (Nat.le_of_ble_eq_true rfl) ?_
    refine W.eq (g2 := F0 m 7 ls []) rfl ?_
    refine lv_iload_n hx hb dJ7_fill_bad5a_7 rfl (lv_at hl 1 rfl) ?_
    refine lv_istore (lv' := [(5, .int (nI f9)), (0, .ref (a 34)), (1, .int (nI f9)), (2, .int (nI t9)), (3, .long x)]) hx hb dJ7_fill_bad5a_8 hl (by decide) rfl (fun ls hl => ?_)
    have loop_i : ∀ (n_i : Nat) (i2 : Nat) (J2 : Nat → Nat → Int64) (H : Heap) (locs : List Loc) (ls : Array Slot) (w : va_W), i2 ≤ t9 → t9 + 1 ≤ i2 + n_i → (f9 ≤ i2) → va_P G.1 pCl w H → va_D A w → va_S A s.heap H locs → OKW G h0 a F R Z B J2 T Pi w → lv_has ls 6 [(5, .int (nI i2)), (3, .long x), (2, .int (nI t9)), (1, .int (nI f9)), (0, .ref (a 34))] → W p l e (headSpec (Cond.code yJ7_fill_bad5a cJ7_fill_bad5a 6 none :: pw) ({ frames := 3, cells := 0, slots := 0, locals := 82 } : Room)).room s m ([.ref (a 34), .int (nI f9), .int (nI t9), .long x] : List Value).toArray below meth c H locs 0 0 (MQ below (pQ G A (fun (v : Option Value) (u : va_W × ((Nat → Nat → Int64))) => v = none ∧ (OKW G h0 a F R Z B u.2 T Pi u.1)) (fun u => u.1)) ([.ref (a 34), .int (nI f9), .int (nI t9), .long x] : List Value).toArray s ({ frames := 3, cells := 0, slots := 0, locals := 82 } : Room).cells ({ frames := 3, cells := 0, slots := 0, locals := 82 } : Room).slots A) (F0 m 10 ls []) := by
      intro n_i
      induction n_i with
      | zero => intro i2 J2 H locs ls w hk_i hn_i; omega
      | succ n_i ih_i =>
        intro i2 J2 H locs ls w hk_i hn_i hi2 hP hD hS hO hl
        refine lv_iload hx hb dJ7_fill_bad5a_10 (lv_at hl 0 rfl) ?_
        refine lv_iload_n hx hb dJ7_fill_bad5a_12 rfl (lv_at hl 2 rfl) ?_
        refine lv_icmp_ge (tgt := 27) hx hb dJ7_fill_bad5a_13 (by decide) (fun c4 => ?_) (fun c4 => ?_)
        · have n5 : t9 ≤ i2 := (nI_leI (a := t9) (b := i2) (by omega) (by omega)).mp c4
          have hO : OKW G h0 a F R Z B J2 T Pi w := hO.to rfl
          exact W.vret hx hb hr (fun t99 ht99 hW99 => ⟨⟨_, (w, J2), rfl, ⟨rfl, hO⟩, by rw [ht99]; exact hP, hD⟩, hS.F ht99⟩) hS.2.2 dJ7_fill_bad5a_27
        · have n6 : ¬ (t9 ≤ i2) := fun h9 => c4 ((nI_leI (a := t9) (b := i2) (by omega) (by omega)).mpr h9)
          refine lv_aload_n hx hb dJ7_fill_bad5a_16 rfl (lv_at hl 4 rfl) ?_
          refine lv_iload hx hb dJ7_fill_bad5a_17 (lv_at hl 0 rfl) ?_
          refine lv_lload_n hx hb dJ7_fill_bad5a_19 rfl (lv_at hl 1 rfl) ?_
          refine c_stl (f := (J2 34)) (n := 3008) (t0 := 2) hx hb hE hP hD hS hO 30 (sg_30 G h0 a _ _ _ _ _) rfl (vp_in_nI (by omega) (by decide)) (sj_34 G h0 a _ _ _ _ _ _) dJ7_fill_bad5a_20 (fun H locs w hP hD hS hO => ?_)
          rw [(nI_clamp (show i2 < 2 ^ 31 by omega))] at hO
          refine lv_iinc (v := (nI (i2 + 1))) (lv' := [(5, .int (nI (i2 + 1))), (3, .long x), (2, .int (nI t9)), (1, .int (nI f9)), (0, .ref (a 34))]) hx hb dJ7_fill_bad5a_21 hl (k := 0) rfl (nI_1 i2) (by decide) rfl (fun ls hl => ?_)
          refine lv_goto (tgt := 10) hx hb dJ7_fill_bad5a_24 (by decide) ?_
          have hO : OKW G h0 a F R Z B (updJ J2 34 (vp_updL (J2 34) i2 x)) T Pi w := hO.to rfl
          exact ih_i (i2 + 1) (updJ J2 34 (vp_updL (J2 34) i2 x)) _ _ _ _ (by omega) (by omega) (by omega) hP hD hS hO (lv_sub hl [0, 1, 2, 3, 4] rfl)
    have hO : OKW G h0 a F R Z B J T Pi w := hO.to rfl
    exact loop_i (t9 + 1) f9 J _ _ _ _ (by omega) (by omega) (by omega) hP hD hS hO (lv_sub hl [0, 4, 3, 2, 1] rfl)
  · skip
    refine lv_aload_n hx hb dJ7_fill_bad5a_0 rfl (lv_at hl 0 rfl) ?_
    refine c_len (n := 0) (t0 := 2) (v := 3008) hx hb hE hP hO 31 (sg_31 G h0 a _ _ _ _ _) rfl rfl dJ7_fill_bad5a_1 ?_
    refine lv_iload_n hx hb dJ7_fill_bad5a_2 rfl (lv_at hl 1 rfl) ?_
    refine lv_iload_n hx hb dJ7_fill_bad5a_3 rfl (lv_at hl 2 rfl) ?_
    refine pc_SN (G := G) (As := [.int (nI 3008), .int (nI f9), .int (nI t9)]) (rest := []) hx hb hml hown hq hE hX pX0_al hP hS hA hl.1 (s_range l G 3008 f9 t9 (by omega)) (gS pw_431 pw_432 pw_433 pw_426) hS_J7_rangeCheck_23922 rfl (Nat.le_of_ble_eq_true rfl) dJ7_fill_bad5a_4 ⟨Nat.le_of_ble_eq_true rfl, Nat.le_of_ble_eq_true rfl⟩ ⟨Nat.le_of_ble_eq_true rfl, Nat.le_of_ble_eq_true rfl⟩ (fun v9 u7 H locs hw8 hP hS => ?_)
    obtain rfl : v9 = none := hw8
    refine W.widen (k := 0) (n := 0) (Nat.le_of_ble_eq_true rfl) (Nat.le_of_ble_eq_true rfl) ?_
    refine W.eq (g2 := F0 m 7 ls []) rfl ?_
    refine lv_iload_n hx hb dJ7_fill_bad5a_7 rfl (lv_at hl 1 rfl) ?_
    refine lv_istore (lv' := [(5, .int (nI f9)), (0, .ref (a 35)), (1, .int (nI f9)), (2, .int (nI t9)), (3, .long x)]) hx hb dJ7_fill_bad5a_8 hl (by decide) rfl (fun ls hl => ?_)
    have loop_i : ∀ (n_i : Nat) (i2 : Nat) (J2 : Nat → Nat → Int64) (H : Heap) (locs : List Loc) (ls : Array Slot) (w : va_W), i2 ≤ t9 → t9 + 1 ≤ i2 + n_i → (f9 ≤ i2) → va_P G.1 pCl w H → va_D A w → va_S A s.heap H locs → OKW G h0 a F R Z B J2 T Pi w → lv_has ls 6 [(5, .int (nI i2)), (3, .long x), (2, .int (nI t9)), (1, .int (nI f9)), (0, .ref (a 35))] → W p l e (headSpec (Cond.code yJ7_fill_bad5a cJ7_fill_bad5a 6 none :: pw) ({ frames := 3, cells := 0, slots := 0, locals := 82 } : Room)).room s m ([.ref (a 35), .int (nI f9), .int (nI t9), .long x] : List Value).toArray below meth c H locs 0 0 (MQ below (pQ G A (fun (v : Option Value) (u : va_W × ((Nat → Nat → Int64))) => v = none ∧ (OKW G h0 a F R Z B u.2 T Pi u.1)) (fun u => u.1)) ([.ref (a 35), .int (nI f9), .int (nI t9), .long x] : List Value).toArray s ({ frames := 3, cells := 0, slots := 0, locals := 82 } : Room).cells ({ frames := 3, cells := 0, slots := 0, locals := 82 } : Room).slots A) (F0 m 10 ls []) := by
      intro n_i
      induction n_i with
      | zero => intro i2 J2 H locs ls w hk_i hn_i; omega
      | succ n_i ih_i =>
        intro i2 J2 H locs ls w hk_i hn_i hi2 hP hD hS hO hl
        refine lv_iload hx hb dJ7_fill_bad5a_10 (lv_at hl 0 rfl) ?_
        refine lv_iload_n hx hb dJ7_fill_bad5a_12 rfl (lv_at hl 2 rfl) ?_
        refine lv_icmp_ge (tgt := 27) hx hb dJ7_fill_bad5a_13 (by decide) (fun c10 => ?_) (fun c10 => ?_)
        · have n11 : t9 ≤ i2 := (nI_leI (a := t9) (b := i2) (by omega) (by omega)).mp c10
          have hO : OKW G h0 a F R Z B J2 T Pi w := hO.to rfl
          exact W.vret hx hb hr (fun t99 ht99 hW99 => ⟨⟨_, (w, J2), rfl, ⟨rfl, hO⟩, by rw [ht99]; exact hP, hD⟩, hS.F ht99⟩) hS.2.2 dJ7_fill_bad5a_27
        · have n12 : ¬ (t9 ≤ i2) := fun h9 => c10 ((nI_leI (a := t9) (b := i2) (by omega) (by omega)).mpr h9)
          refine lv_aload_n hx hb dJ7_fill_bad5a_16 rfl (lv_at hl 4 rfl) ?_
          refine lv_iload hx hb dJ7_fill_bad5a_17 (lv_at hl 0 rfl) ?_
          refine lv_lload_n hx hb dJ7_fill_bad5a_19 rfl (lv_at hl 1 rfl) ?_
          refine c_stl (f := (J2 35)) (n := 3008) (t0 := 2) hx hb hE hP hD hS hO 31 (sg_31 G h0 a _ _ _ _ _) rfl (vp_in_nI (by omega) (by decide)) (sj_35 G h0 a _ _ _ _ _ _) dJ7_fill_bad5a_20 (fun H locs w hP hD hS hO => ?_)
          rw [(nI_clamp (show i2 < 2 ^ 31 by omega))] at hO
          refine lv_iinc (v := (nI (i2 + 1))) (lv' := [(5, .int (nI (i2 + 1))), (3, .long x), (2, .int (nI t9)), (1, .int (nI f9)), (0, .ref (a 35))]) hx hb dJ7_fill_bad5a_21 hl (k := 0) rfl (nI_1 i2) (by decide) rfl (fun ls hl => ?_)
          refine lv_goto (tgt := 10) hx hb dJ7_fill_bad5a_24 (by decide) ?_
          have hO : OKW G h0 a F R Z B (updJ J2 35 (vp_updL (J2 35) i2 x)) T Pi w := hO.to rfl
          exact ih_i (i2 + 1) (updJ J2 35 (vp_updL (J2 35) i2 x)) _ _ _ _ (by omega) (by omega) (by omega) hP hD hS hO (lv_sub hl [0, 1, 2, 3, 4] rfl)
    have hO : OKW G h0 a F R Z B J T Pi w := hO.to rfl
    exact loop_i (t9 + 1) f9 J _ _ _ _ (by omega) (by omega) (by omega) hP hD hS hO (lv_sub hl [0, 4, 3, 2, 1] rfl)
theorem dX3_make_0 : decode cX3_make 0 = .ok (.iload_n 2, 1) := by decide +kernel
theorem dX3_make_1 : decode cX3_make 1 = .ok (.ifCond .le 17, 3) := by decide +kernel
theorem dX3_make_18 : decode cX3_make 18 = .ok (.lconst 0, 1) := by decide +kernel
theorem dX3_make_19 : decode cX3_make 19 = .ok (.lreturn, 1) := by decide +kernel
theorem dX3_make_4 : decode cX3_make 4 = .ok (.iload_n 2, 1) := by decide +kernel
theorem dX3_make_5 : decode cX3_make 5 = .ok (.aload_n 0, 1) := by decide +kernel
theorem dX3_make_6 : decode cX3_make 6 = .ok (.getfield 13, 3) := by decide +kernel
theorem dX3_make_9 : decode cX3_make 9 = .ok (.arraylength, 1) := by decide +kernel
theorem dX3_make_10 : decode cX3_make 10 = .ok (.aload_n 0, 1) := by decide +kernel
theorem dX3_make_11 : decode cX3_make 11 = .ok (.getfield 20, 3) := by decide +kernel
theorem dX3_make_14 : decode cX3_make 14 = .ok (.isub, 1) := by decide +kernel
theorem dX3_make_15 : decode cX3_make 15 = .ok (.if_icmp .le 5, 3) := by decide +kernel
theorem dX3_make_20 : decode cX3_make 20 = .ok (.aload_n 0, 1) := by decide +kernel
theorem dX3_make_21 : decode cX3_make 21 = .ok (.getfield 13, 3) := by decide +kernel
theorem dX3_make_24 : decode cX3_make 24 = .ok (.aload_n 0, 1) := by decide +kernel
theorem dX3_make_25 : decode cX3_make 25 = .ok (.getfield 20, 3) := by decide +kernel
theorem dX3_make_28 : decode cX3_make 28 = .ok (.aload_n 0, 1) := by decide +kernel
theorem dX3_make_29 : decode cX3_make 29 = .ok (.getfield 20, 3) := by decide +kernel
theorem dX3_make_32 : decode cX3_make 32 = .ok (.iload_n 2, 1) := by decide +kernel
theorem dX3_make_33 : decode cX3_make 33 = .ok (.iadd, 1) := by decide +kernel
theorem dX3_make_34 : decode cX3_make 34 = .ok (.lconst 0, 1) := by decide +kernel
theorem dX3_make_35 : decode cX3_make 35 = .ok (.invokestatic 35, 3) := by decide +kernel
theorem dX3_make_38 : decode cX3_make 38 = .ok (.aload_n 0, 1) := by decide +kernel
theorem dX3_make_39 : decode cX3_make 39 = .ok (.getfield 13, 3) := by decide +kernel
theorem dX3_make_42 : decode cX3_make 42 = .ok (.aload_n 0, 1) := by decide +kernel
theorem dX3_make_43 : decode cX3_make 43 = .ok (.getfield 20, 3) := by decide +kernel
theorem dX3_make_46 : decode cX3_make 46 = .ok (.iload_n 2, 1) := by decide +kernel
theorem dX3_make_47 : decode cX3_make 47 = .ok (.i2l, 1) := by decide +kernel
theorem dX3_make_48 : decode cX3_make 48 = .ok (.bipush 8, 2) := by decide +kernel
theorem dX3_make_50 : decode cX3_make 50 = .ok (.lshl, 1) := by decide +kernel
theorem dX3_make_51 : decode cX3_make 51 = .ok (.iload_n 1, 1) := by decide +kernel
theorem dX3_make_52 : decode cX3_make 52 = .ok (.i2l, 1) := by decide +kernel
theorem dX3_make_53 : decode cX3_make 53 = .ok (.lor, 1) := by decide +kernel
theorem dX3_make_54 : decode cX3_make 54 = .ok (.lastore, 1) := by decide +kernel
theorem dX3_make_55 : decode cX3_make 55 = .ok (.aload_n 0, 1) := by decide +kernel
theorem dX3_make_56 : decode cX3_make 56 = .ok (.dup, 1) := by decide +kernel
theorem dX3_make_57 : decode cX3_make 57 = .ok (.getfield 20, 3) := by decide +kernel
theorem dX3_make_60 : decode cX3_make 60 = .ok (.iload_n 2, 1) := by decide +kernel
theorem dX3_make_61 : decode cX3_make 61 = .ok (.iadd, 1) := by decide +kernel
theorem dX3_make_62 : decode cX3_make 62 = .ok (.putfield 20, 3) := by decide +kernel
theorem dX3_make_65 : decode cX3_make 65 = .ok (.ldc2_w 33, 3) := by decide +kernel
theorem dX3_make_68 : decode cX3_make 68 = .ok (.aload_n 0, 1) := by decide +kernel
theorem dX3_make_69 : decode cX3_make 69 = .ok (.getfield 20, 3) := by decide +kernel
theorem dX3_make_72 : decode cX3_make 72 = .ok (.iload_n 2, 1) := by decide +kernel
theorem dX3_make_73 : decode cX3_make 73 = .ok (.isub, 1) := by decide +kernel
theorem dX3_make_74 : decode cX3_make 74 = .ok (.i2l, 1) := by decide +kernel
theorem dX3_make_75 : decode cX3_make 75 = .ok (.lor, 1) := by decide +kernel
theorem dX3_make_76 : decode cX3_make 76 = .ok (.lreturn, 1) := by decide +kernel
theorem hS_J7_fill_bad5a : yJ7_fill_bad5a.cls ≠ "java/lang/invoke/MethodHandle" ∧ yJ7_fill_bad5a.cls ≠ "java/lang/invoke/VarHandle" ∧ (parseMethodDescriptor yJ7_fill_bad5a.desc).map (fun d => d.parameters.length) = some 4 := by decide +kernel
set_option maxHeartbeats 6000000 in
set_option maxRecDepth 100000 in
theorem K_make (l : Launch) (G : pT) (h0 : Nat) (a : Nat → Nat) (F : Nat → Int32) (R : Nat → Value) (Z : Int64) (B : Nat → Nat → Int32) (J : Nat → Nat → Int64) (T : Nat → Nat) (Pi : Nat → va_E → Prop) (w : va_W) (ty : Int32) (ce : Int32) (sp : Nat) (op : Nat) (ht : Nat) (hsp : (sp = 34 ∧ op = 35) ∨ (sp = 35 ∧ op = 34)) (hht : 8 ≤ ht ∧ ht ≤ 3008) (hO : OKW G h0 a (upd F 26 (nI ht)) (updR (updR R 7 (.ref (a sp))) 8 (.ref (a op))) Z B J T Pi w) : PM l G pX0 yX3_make cX3_make 3 (some .long) ({ frames := 4, cells := 0, slots := 0, locals := 107 }) [.ref (a 28), .int ty, .int ce] w (fun (v : Option Value) (u : va_W × (Nat × Int64 × (Nat → Nat → Int64))) => v = some (.long u.2.2.1) ∧ (8 ≤ u.2.1 ∧ u.2.1 ≤ 3008) ∧ (OKW G h0 a (upd F 26 (nI u.2.1)) (updR (updR R 7 (.ref (a sp))) 8 (.ref (a op))) Z B u.2.2.2 T Pi u.1)) (fun u => u.1) := by
  intro sz
  refine Met.ofW (cc := cX3_make) (maxL := 3) (ret := (some .long)) (by decide) rfl ?_
  intro p e s m args below meth c s₁ B9 hml hv
  obtain ⟨rfl, hsz, hP, hD0, hE, hX⟩ := hv
  have hx := B9.exec
  have hb := B9.bytes
  have hr := B9.returns
  have hts := atoms_spec (ws := Cond.code yX3_make cX3_make 3 (some .long) :: pw) B9.pre
  have hq : ∀ w ∈ pw, w.before _ s = true := fun w h => hts w (List.mem_cons_of_mem _ h)
  have hown : s.vm.findClass RX3 = some m.cls := findClass_of_methodNamed B9.named
  have hlocks := B9.notSynchronized
  subst hsz
  have hD := hD0.self (sz := s.heap.size)
  have hA : ∀ q : Nat, s.heap.size ≤ q → va_A w s.heap.size q := fun q h => Or.inr h
  generalize va_A w s.heap.size = A at hD hE hA ⊢
  have hS : va_S A s.heap s.heap [] := va_S.rf
  have hl := lv_entry ([.ref (a 28), .int ty, .int ce]) (n := 3) (Nat.le_of_ble_eq_true rfl)
  rw [lg_entry_eq]
  generalize (lg_sl ([.ref (a 28), .int ty, .int ce]) ++ List.replicate (3 - (lg_sl ([.ref (a 28), .int ty, .int ce])).length) Slot.unset).toArray = ls at hl ⊢
  have hl : lv_has ls 3 [(0, .ref (a 28)), (1, .int ty), (2, .int ce)] := hl
  rcases hsp with ⟨rfl, rfl⟩ | ⟨rfl, rfl⟩
  · skip
    refine lv_iload_n hx hb dX3_make_0 rfl (lv_at hl 2 rfl) ?_
    refine lv_if_le (tgt := 18) hx hb dX3_make_1 (by decide) (fun c1 => ?_) (fun c1 => ?_)
    · refine lv_lconst (v := 0) hx hb dX3_make_18 (by decide) ?_
      have hz2 : 8 ≤ ht ∧ ht ≤ 3008 := (by omega)
      have hO : OKW G h0 a (upd F 26 (nI ht)) (updR (updR R 7 (.ref (a 34))) 8 (.ref (a 35))) Z B J T Pi w := hO.to rfl
      exact W.lret (v := 0) hx hb hr (fun t99 ht99 hW99 => ⟨⟨_, (w, (ht, (0 : Int64), J)), rfl, ⟨rfl, hz2, hO⟩, by rw [ht99]; exact hP, hD⟩, hS.F ht99⟩) hS.2.2 dX3_make_19
    · obtain ⟨c9, ht_c9, hb_c9⟩ := nI_nn2 (gt_nn (n := 0) (by omega) c1)
      have cc3 := c1
      rw [ht_c9] at cc3
      have n4 : ¬ (c9 ≤ 0) := fun h9 => cc3 ((nI_leI (a := c9) (b := 0) (by omega) (by omega)).mpr h9)
      rw [ht_c9] at hl
      refine lv_iload_n hx hb dX3_make_4 rfl (lv_at hl 2 rfl) ?_
      refine lv_aload_n hx hb dX3_make_5 rfl (lv_at hl 0 rfl) ?_
      refine c_get (v := .ref (a 34)) (C := RX3) (Tc := TX3) (N := 5) (ci := 3) hx hb hq pin_wsX30 hown hE hP hO 29 (sg_29 G h0 a _ _ _ _ _) rfl 0 (by decide) (hq _ pw_415) (fun _ h9 => h9) rfl dX3_make_6 ?_
      refine c_len (n := 0) (t0 := 2) (v := 3008) hx hb hE hP hO 30 (sg_30 G h0 a _ _ _ _ _) rfl rfl dX3_make_9 ?_
      refine lv_aload_n hx hb dX3_make_10 rfl (lv_at hl 0 rfl) ?_
      refine c_get (v := .int (nI ht)) (C := RX3) (Tc := TX3) (N := 5) (ci := 3) hx hb hq pin_wsX30 hown hE hP hO 29 (sg_29 G h0 a _ _ _ _ _) rfl 2 (by decide) (hq _ pw_417) (fun _ h9 => h9) rfl dX3_make_11 ?_
      refine lv_isub hx hb dX3_make_14 ?_
      refine lv_topi (fun x5 e6 => ?_)
      obtain rfl : x5 = nI (3008 - ht) := e6.trans (nI_subN (a := ht) (b := 3008) (by omega))
      refine lv_icmp_le (tgt := 20) hx hb dX3_make_15 (by decide) (fun c7 => ?_) (fun c7 => ?_)
      · have n8 : c9 ≤ (3008 - ht) := (nI_leI (a := c9) (b := (3008 - ht)) (by omega) (by omega)).mp c7
        refine lv_aload_n hx hb dX3_make_20 rfl (lv_at hl 0 rfl) ?_
        refine c_get (v := .ref (a 34)) (C := RX3) (Tc := TX3) (N := 5) (ci := 3) hx hb hq pin_wsX30 hown hE hP hO 29 (sg_29 G h0 a _ _ _ _ _) rfl 0 (by decide) (hq _ pw_415) (fun _ h9 => h9) rfl dX3_make_21 ?_
        refine lv_aload_n hx hb dX3_make_24 rfl (lv_at hl 0 rfl) ?_
        refine c_get (v := .int (nI ht)) (C := RX3) (Tc := TX3) (N := 5) (ci := 3) hx hb hq pin_wsX30 hown hE hP hO 29 (sg_29 G h0 a _ _ _ _ _) rfl 2 (by decide) (hq _ pw_417) (fun _ h9 => h9) rfl dX3_make_25 ?_
        refine lv_aload_n hx hb dX3_make_28 rfl (lv_at hl 0 rfl) ?_
        refine c_get (v := .int (nI ht)) (C := RX3) (Tc := TX3) (N := 5) (ci := 3) hx hb hq pin_wsX30 hown hE hP hO 29 (sg_29 G h0 a _ _ _ _ _) rfl 2 (by decide) (hq _ pw_417) (fun _ h9 => h9) rfl dX3_make_29 ?_
        refine lv_iload_n hx hb dX3_make_32 rfl (lv_at hl 2 rfl) ?_
        refine lv_iadd hx hb dX3_make_33 ?_
        refine lv_topi (fun x9 e10 => ?_)
        obtain rfl : x9 = nI (ht + c9) := e10.trans (nI_add (ht) (c9))
        refine lv_lconst (v := 0) hx hb dX3_make_34 (by decide) ?_
        have hO : OKW G h0 a (upd F 26 (nI ht)) (updR (updR R 7 (.ref (a 34))) 8 (.ref (a 35))) Z B J T Pi w := hO.to rfl
        refine pc_S0 (G := G) (As := [.ref (a 34), .int (nI ht), .int (nI (ht + c9)), .long 0]) (rest := []) hx hb hml hown hq hE hX pX0_al hP hD hS hA hl.1 (K_fillL l G h0 a (upd F 26 (nI ht)) (updR (updR R 7 (.ref (a 34))) 8 (.ref (a 35))) Z B J T Pi w 34 35 ht (ht + c9) 0 (by omega) (by omega) hO) (gS pw_435 pw_436 pw_433 pw_430) hS_J7_fill_bad5a rfl (Nat.le_of_ble_eq_true rfl) dX3_make_35 ⟨Nat.le_of_ble_eq_true rfl, Nat.le_of_ble_eq_true rfl⟩ ⟨Nat.le_of_ble_eq_true rfl, Nat.le_of_ble_eq_true rfl⟩ (fun v13 u11 H locs hw12 hP hD hS => ?_)
        obtain ⟨w, J14⟩ := u11
        obtain ⟨hw12, hO⟩ := hw12
        obtain rfl : v13 = none := hw12
        have hO : OKW G h0 a (upd F 26 (nI ht)) (updR (updR R 7 (.ref (a 34))) 8 (.ref (a 35))) Z B J14 T Pi w := hO.to rfl
        refine W.widen (k := 0) (n := 0) (Nat.le_of_ble_eq_true rfl) (Nat.le_of_ble_eq_true rfl) ?_
        refine W.eq (g2 := F0 m 38 ls []) rfl ?_
        refine lv_aload_n hx hb dX3_make_38 rfl (lv_at hl 0 rfl) ?_
        refine c_get (v := .ref (a 34)) (C := RX3) (Tc := TX3) (N := 5) (ci := 3) hx hb hq pin_wsX30 hown hE hP hO 29 (sg_29 G h0 a _ _ _ _ _) rfl 0 (by decide) (hq _ pw_415) (fun _ h9 => h9) rfl dX3_make_39 ?_
        refine lv_aload_n hx hb dX3_make_42 rfl (lv_at hl 0 rfl) ?_
        refine c_get (v := .int (nI ht)) (C := RX3) (Tc := TX3) (N := 5) (ci := 3) hx hb hq pin_wsX30 hown hE hP hO 29 (sg_29 G h0 a _ _ _ _ _) rfl 2 (by decide) (hq _ pw_417) (fun _ h9 => h9) rfl dX3_make_43 ?_
        refine lv_iload_n hx hb dX3_make_46 rfl (lv_at hl 2 rfl) ?_
        refine lv_i2l hx hb dX3_make_47 rfl ?_
        refine lv_topl (fun x15 e16 => ?_)
        refine lv_bipush (v := 8) hx hb dX3_make_48 (by decide) ?_
        refine lv_lshl hx hb dX3_make_50 rfl ?_
        refine lv_topl (fun x17 e18 => ?_)
        refine lv_iload_n hx hb dX3_make_51 rfl (lv_at hl 1 rfl) ?_
        refine lv_i2l hx hb dX3_make_52 rfl ?_
        refine lv_topl (fun x19 e20 => ?_)
        refine lv_lor hx hb dX3_make_53 ?_
        refine lv_topl (fun x21 e22 => ?_)
        refine c_stl (f := (J14 34)) (n := 3008) (t0 := 2) hx hb hE hP hD hS hO 30 (sg_30 G h0 a _ _ _ _ _) rfl (vp_in_nI (by omega) (by decide)) (sj_34 G h0 a _ _ _ _ _ _) dX3_make_54 (fun H locs w hP hD hS hO => ?_)
        rw [(nI_clamp (show ht < 2 ^ 31 by omega))] at hO
        refine lv_aload_n hx hb dX3_make_55 rfl (lv_at hl 0 rfl) ?_
        refine lv_dup hx hb dX3_make_56 rfl ?_
        refine c_get (v := .int (nI ht)) (C := RX3) (Tc := TX3) (N := 5) (ci := 3) hx hb hq pin_wsX30 hown hE hP hO 29 (sg_29 G h0 a _ _ _ _ _) rfl 2 (by decide) (hq _ pw_417) (fun _ h9 => h9) rfl dX3_make_57 ?_
        refine lv_iload_n hx hb dX3_make_60 rfl (lv_at hl 2 rfl) ?_
        refine lv_iadd hx hb dX3_make_61 ?_
        refine lv_topi (fun x23 e24 => ?_)
        obtain rfl : x23 = nI (ht + c9) := e24.trans (nI_add (ht) (c9))
        refine c_put (v := .int (nI (ht + c9))) (ty := .int) (C := RX3) (Tc := TX3) (N := 5) (ci := 3) hx hb hq pin_wsX30 tyX3 tyX3_ok nmX3 hown hE hP hD hS hO 29 (sg_29 G h0 a _ _ _ _ _) rfl 2 (by decide) (hq _ pw_417) (fun _ h9 => h9) rfl (by decide +kernel) rfl rfl (Nat.le_of_ble_eq_true rfl) (sf_26 G h0 a _ _ _ _ _ (nI (ht + c9))) dX3_make_62 (fun H locs w hP hD hS hO => ?_)
        refine lv_ldc2 (v := 4294967296) hx hb hown (hq _ pw_424) dX3_make_65 ?_
        refine lv_aload_n hx hb dX3_make_68 rfl (lv_at hl 0 rfl) ?_
        refine c_get (v := .int (nI (ht + c9))) (C := RX3) (Tc := TX3) (N := 5) (ci := 3) hx hb hq pin_wsX30 hown hE hP hO 29 (sg_29 G h0 a _ _ _ _ _) rfl 2 (by decide) (hq _ pw_417) (fun _ h9 => h9) rfl dX3_make_69 ?_
        refine lv_iload_n hx hb dX3_make_72 rfl (lv_at hl 2 rfl) ?_
        refine lv_isub hx hb dX3_make_73 ?_
        refine lv_topi (fun x25 e26 => ?_)
        obtain rfl : x25 = nI ((ht + c9) - c9) := e26.trans (nI_subN (a := c9) (b := (ht + c9)) (by omega))
        refine lv_i2l hx hb dX3_make_74 rfl ?_
        refine lv_topl (fun x27 e28 => ?_)
        refine lv_lor hx hb dX3_make_75 ?_
        refine lv_topl (fun x29 e30 => ?_)
        have hz31 : 8 ≤ (ht + c9) ∧ (ht + c9) ≤ 3008 := (by omega)
        have hO : OKW G h0 a (upd F 26 (nI (ht + c9))) (updR (updR R 7 (.ref (a 34))) 8 (.ref (a 35))) Z B (updJ J14 34 (vp_updL (J14 34) ht x21)) T Pi w := hO.to rfl
        exact W.lret (v := x29) hx hb hr (fun t99 ht99 hW99 => ⟨⟨_, (w, ((ht + c9), x29, (updJ J14 34 (vp_updL (J14 34) ht x21)))), rfl, ⟨rfl, hz31, hO⟩, by rw [ht99]; exact hP, hD⟩, hS.F ht99⟩) hS.2.2 dX3_make_76
      · have n32 : ¬ (c9 ≤ (3008 - ht)) := fun h9 => c7 ((nI_leI (a := c9) (b := (3008 - ht)) (by omega) (by omega)).mpr h9)
        refine lv_lconst (v := 0) hx hb dX3_make_18 (by decide) ?_
        have hz33 : 8 ≤ ht ∧ ht ≤ 3008 := (by omega)
        have hO : OKW G h0 a (upd F 26 (nI ht)) (updR (updR R 7 (.ref (a 34))) 8 (.ref (a 35))) Z B J T Pi w := hO.to rfl
        exact W.lret (v := 0) hx hb hr (fun t99 ht99 hW99 => ⟨⟨_, (w, (ht, (0 : Int64), J)), rfl, ⟨rfl, hz33, hO⟩, by rw [ht99]; exact hP, hD⟩, hS.F ht99⟩) hS.2.2 dX3_make_19
  · skip
    refine lv_iload_n hx hb dX3_make_0 rfl (lv_at hl 2 rfl) ?_
    refine lv_if_le (tgt := 18) hx hb dX3_make_1 (by decide) (fun c34 => ?_) (fun c34 => ?_)
    · refine lv_lconst (v := 0) hx hb dX3_make_18 (by decide) ?_
      have hz35 : 8 ≤ ht ∧ ht ≤ 3008 := (by omega)
      have hO : OKW G h0 a (upd F 26 (nI ht)) (updR (updR R 7 (.ref (a 35))) 8 (.ref (a 34))) Z B J T Pi w := hO.to rfl
      exact W.lret (v := 0) hx hb hr (fun t99 ht99 hW99 => ⟨⟨_, (w, (ht, (0 : Int64), J)), rfl, ⟨rfl, hz35, hO⟩, by rw [ht99]; exact hP, hD⟩, hS.F ht99⟩) hS.2.2 dX3_make_19
    · obtain ⟨c9, ht_c9, hb_c9⟩ := nI_nn2 (gt_nn (n := 0) (by omega) c34)
      have cc36 := c34
      rw [ht_c9] at cc36
      have n37 : ¬ (c9 ≤ 0) := fun h9 => cc36 ((nI_leI (a := c9) (b := 0) (by omega) (by omega)).mpr h9)
      rw [ht_c9] at hl
      refine lv_iload_n hx hb dX3_make_4 rfl (lv_at hl 2 rfl) ?_
      refine lv_aload_n hx hb dX3_make_5 rfl (lv_at hl 0 rfl) ?_
      refine c_get (v := .ref (a 35)) (C := RX3) (Tc := TX3) (N := 5) (ci := 3) hx hb hq pin_wsX30 hown hE hP hO 29 (sg_29 G h0 a _ _ _ _ _) rfl 0 (by decide) (hq _ pw_415) (fun _ h9 => h9) rfl dX3_make_6 ?_
      refine c_len (n := 0) (t0 := 2) (v := 3008) hx hb hE hP hO 31 (sg_31 G h0 a _ _ _ _ _) rfl rfl dX3_make_9 ?_
      refine lv_aload_n hx hb dX3_make_10 rfl (lv_at hl 0 rfl) ?_
      refine c_get (v := .int (nI ht)) (C := RX3) (Tc := TX3) (N := 5) (ci := 3) hx hb hq pin_wsX30 hown hE hP hO 29 (sg_29 G h0 a _ _ _ _ _) rfl 2 (by decide) (hq _ pw_417) (fun _ h9 => h9) rfl dX3_make_11 ?_
      refine lv_isub hx hb dX3_make_14 ?_
      refine lv_topi (fun x38 e39 => ?_)
      obtain rfl : x38 = nI (3008 - ht) := e39.trans (nI_subN (a := ht) (b := 3008) (by omega))
      refine lv_icmp_le (tgt := 20) hx hb dX3_make_15 (by decide) (fun c40 => ?_) (fun c40 => ?_)
      · have n41 : c9 ≤ (3008 - ht) := (nI_leI (a := c9) (b := (3008 - ht)) (by omega) (by omega)).mp c40
        refine lv_aload_n hx hb dX3_make_20 rfl (lv_at hl 0 rfl) ?_
        refine c_get (v := .ref (a 35)) (C := RX3) (Tc := TX3) (N := 5) (ci := 3) hx hb hq pin_wsX30 hown hE hP hO 29 (sg_29 G h0 a _ _ _ _ _) rfl 0 (by decide) (hq _ pw_415) (fun _ h9 => h9) rfl dX3_make_21 ?_
        refine lv_aload_n hx hb dX3_make_24 rfl (lv_at hl 0 rfl) ?_
        refine c_get (v := .int (nI ht)) (C := RX3) (Tc := TX3) (N := 5) (ci := 3) hx hb hq pin_wsX30 hown hE hP hO 29 (sg_29 G h0 a _ _ _ _ _) rfl 2 (by decide) (hq _ pw_417) (fun _ h9 => h9) rfl dX3_make_25 ?_
        refine lv_aload_n hx hb dX3_make_28 rfl (lv_at hl 0 rfl) ?_
        refine c_get (v := .int (nI ht)) (C := RX3) (Tc := TX3) (N := 5) (ci := 3) hx hb hq pin_wsX30 hown hE hP hO 29 (sg_29 G h0 a _ _ _ _ _) rfl 2 (by decide) (hq _ pw_417) (fun _ h9 => h9) rfl dX3_make_29 ?_
        refine lv_iload_n hx hb dX3_make_32 rfl (lv_at hl 2 rfl) ?_
        refine lv_iadd hx hb dX3_make_33 ?_
        refine lv_topi (fun x42 e43 => ?_)
        obtain rfl : x42 = nI (ht + c9) := e43.trans (nI_add (ht) (c9))
        refine lv_lconst (v := 0) hx hb dX3_make_34 (by decide) ?_
        have hO : OKW G h0 a (upd F 26 (nI ht)) (updR (updR R 7 (.ref (a 35))) 8 (.ref (a 34))) Z B J T Pi w := hO.to rfl
        refine pc_S0 (G := G) (As := [.ref (a 35), .int (nI ht), .int (nI (ht + c9)), .long 0]) (rest := []) hx hb hml hown hq hE hX pX0_al hP hD hS hA hl.1 (K_fillL l G h0 a (upd F 26 (nI ht)) (updR (updR R 7 (.ref (a 35))) 8 (.ref (a 34))) Z B J T Pi w 35 34 ht (ht + c9) 0 (by omega) (by omega) hO) (gS pw_435 pw_436 pw_433 pw_430) hS_J7_fill_bad5a rfl (Nat.le_of_ble_eq_true rfl) dX3_make_35 ⟨Nat.le_of_ble_eq_true rfl, Nat.le_of_ble_eq_true rfl⟩ ⟨Nat.le_of_ble_eq_true rfl, Nat.le_of_ble_eq_true rfl⟩ (fun v46 u44 H locs hw45 hP hD hS => ?_)
        obtain ⟨w, J47⟩ := u44
        obtain ⟨hw45, hO⟩ := hw45
        obtain rfl : v46 = none := hw45
        have hO : OKW G h0 a (upd F 26 (nI ht)) (updR (updR R 7 (.ref (a 35))) 8 (.ref (a 34))) Z B J47 T Pi w := hO.to rfl
        refine W.widen (k := 0) (n := 0) (Nat.le_of_ble_eq_true rfl) (Nat.le_of_ble_eq_true rfl) ?_
        refine W.eq (g2 := F0 m 38 ls []) rfl ?_
        refine lv_aload_n hx hb dX3_make_38 rfl (lv_at hl 0 rfl) ?_
        refine c_get (v := .ref (a 35)) (C := RX3) (Tc := TX3) (N := 5) (ci := 3) hx hb hq pin_wsX30 hown hE hP hO 29 (sg_29 G h0 a _ _ _ _ _) rfl 0 (by decide) (hq _ pw_415) (fun _ h9 => h9) rfl dX3_make_39 ?_
        refine lv_aload_n hx hb dX3_make_42 rfl (lv_at hl 0 rfl) ?_
        refine c_get (v := .int (nI ht)) (C := RX3) (Tc := TX3) (N := 5) (ci := 3) hx hb hq pin_wsX30 hown hE hP hO 29 (sg_29 G h0 a _ _ _ _ _) rfl 2 (by decide) (hq _ pw_417) (fun _ h9 => h9) rfl dX3_make_43 ?_
        refine lv_iload_n hx hb dX3_make_46 rfl (lv_at hl 2 rfl) ?_
        refine lv_i2l hx hb dX3_make_47 rfl ?_
        refine lv_topl (fun x48 e49 => ?_)
        refine lv_bipush (v := 8) hx hb dX3_make_48 (by decide) ?_
        refine lv_lshl hx hb dX3_make_50 rfl ?_
        refine lv_topl (fun x50 e51 => ?_)
        refine lv_iload_n hx hb dX3_make_51 rfl (lv_at hl 1 rfl) ?_
        refine lv_i2l hx hb dX3_make_52 rfl ?_
        refine lv_topl (fun x52 e53 => ?_)
        refine lv_lor hx hb dX3_make_53 ?_
        refine lv_topl (fun x54 e55 => ?_)
        refine c_stl (f := (J47 35)) (n := 3008) (t0 := 2) hx hb hE hP hD hS hO 31 (sg_31 G h0 a _ _ _ _ _) rfl (vp_in_nI (by omega) (by decide)) (sj_35 G h0 a _ _ _ _ _ _) dX3_make_54 (fun H locs w hP hD hS hO => ?_)
        rw [(nI_clamp (show ht < 2 ^ 31 by omega))] at hO
        refine lv_aload_n hx hb dX3_make_55 rfl (lv_at hl 0 rfl) ?_
        refine lv_dup hx hb dX3_make_56 rfl ?_
        refine c_get (v := .int (nI ht)) (C := RX3) (Tc := TX3) (N := 5) (ci := 3) hx hb hq pin_wsX30 hown hE hP hO 29 (sg_29 G h0 a _ _ _ _ _) rfl 2 (by decide) (hq _ pw_417) (fun _ h9 => h9) rfl dX3_make_57 ?_
        refine lv_iload_n hx hb dX3_make_60 rfl (lv_at hl 2 rfl) ?_
        refine lv_iadd hx hb dX3_make_61 ?_
        refine lv_topi (fun x56 e57 => ?_)
        obtain rfl : x56 = nI (ht + c9) := e57.trans (nI_add (ht) (c9))
        refine c_put (v := .int (nI (ht + c9))) (ty := .int) (C := RX3) (Tc := TX3) (N := 5) (ci := 3) hx hb hq pin_wsX30 tyX3 tyX3_ok nmX3 hown hE hP hD hS hO 29 (sg_29 G h0 a _ _ _ _ _) rfl 2 (by decide) (hq _ pw_417) (fun _ h9 => h9) rfl (by decide +kernel) rfl rfl (Nat.le_of_ble_eq_true rfl) (sf_26 G h0 a _ _ _ _ _ (nI (ht + c9))) dX3_make_62 (fun H locs w hP hD hS hO => ?_)
        refine lv_ldc2 (v := 4294967296) hx hb hown (hq _ pw_424) dX3_make_65 ?_
        refine lv_aload_n hx hb dX3_make_68 rfl (lv_at hl 0 rfl) ?_
        refine c_get (v := .int (nI (ht + c9))) (C := RX3) (Tc := TX3) (N := 5) (ci := 3) hx hb hq pin_wsX30 hown hE hP hO 29 (sg_29 G h0 a _ _ _ _ _) rfl 2 (by decide) (hq _ pw_417) (fun _ h9 => h9) rfl dX3_make_69 ?_
        refine lv_iload_n hx hb dX3_make_72 rfl (lv_at hl 2 rfl) ?_
        refine lv_isub hx hb dX3_make_73 ?_
        refine lv_topi (fun x58 e59 => ?_)
        obtain rfl : x58 = nI ((ht + c9) - c9) := e59.trans (nI_subN (a := c9) (b := (ht + c9)) (by omega))
        refine lv_i2l hx hb dX3_make_74 rfl ?_
        refine lv_topl (fun x60 e61 => ?_)
        refine lv_lor hx hb dX3_make_75 ?_
        refine lv_topl (fun x62 e63 => ?_)
        have hz64 : 8 ≤ (ht + c9) ∧ (ht + c9) ≤ 3008 := (by omega)
        have hO : OKW G h0 a (upd F 26 (nI (ht + c9))) (updR (updR R 7 (.ref (a 35))) 8 (.ref (a 34))) Z B (updJ J47 35 (vp_updL (J47 35) ht x54)) T Pi w := hO.to rfl
        exact W.lret (v := x62) hx hb hr (fun t99 ht99 hW99 => ⟨⟨_, (w, ((ht + c9), x62, (updJ J47 35 (vp_updL (J47 35) ht x54)))), rfl, ⟨rfl, hz64, hO⟩, by rw [ht99]; exact hP, hD⟩, hS.F ht99⟩) hS.2.2 dX3_make_76
      · have n65 : ¬ (c9 ≤ (3008 - ht)) := fun h9 => c40 ((nI_leI (a := c9) (b := (3008 - ht)) (by omega) (by omega)).mpr h9)
        refine lv_lconst (v := 0) hx hb dX3_make_18 (by decide) ?_
        have hz66 : 8 ≤ ht ∧ ht ≤ 3008 := (by omega)
        have hO : OKW G h0 a (upd F 26 (nI ht)) (updR (updR R 7 (.ref (a 35))) 8 (.ref (a 34))) Z B J T Pi w := hO.to rfl
        exact W.lret (v := 0) hx hb hr (fun t99 ht99 hW99 => ⟨⟨_, (w, (ht, (0 : Int64), J)), rfl, ⟨rfl, hz66, hO⟩, by rw [ht99]; exact hP, hD⟩, hS.F ht99⟩) hS.2.2 dX3_make_19
theorem dX3_headOf_0 : decode cX3_headOf 0 = .ok (.lload_n 1, 1) := by decide +kernel
theorem dX3_headOf_1 : decode cX3_headOf 1 = .ok (.l2i, 1) := by decide +kernel
theorem dX3_headOf_2 : decode cX3_headOf 2 = .ok (.istore_n 3, 1) := by decide +kernel
theorem dX3_headOf_3 : decode cX3_headOf 3 = .ok (.lload_n 1, 1) := by decide +kernel
theorem dX3_headOf_4 : decode cX3_headOf 4 = .ok (.invokestatic 41, 3) := by decide +kernel
theorem dX3_headOf_7 : decode cX3_headOf 7 = .ok (.ifCond .eq 24, 3) := by decide +kernel
theorem dX3_headOf_31 : decode cX3_headOf 31 = .ok (.lconst 0, 1) := by decide +kernel
theorem dX3_headOf_32 : decode cX3_headOf 32 = .ok (.lreturn, 1) := by decide +kernel
theorem dX3_headOf_10 : decode cX3_headOf 10 = .ok (.iload_n 3, 1) := by decide +kernel
theorem dX3_headOf_11 : decode cX3_headOf 11 = .ok (.ifCond .lt 20, 3) := by decide +kernel
theorem dX3_headOf_14 : decode cX3_headOf 14 = .ok (.iload_n 3, 1) := by decide +kernel
theorem dX3_headOf_15 : decode cX3_headOf 15 = .ok (.aload_n 0, 1) := by decide +kernel
theorem dX3_headOf_16 : decode cX3_headOf 16 = .ok (.getfield 20, 3) := by decide +kernel
theorem dX3_headOf_19 : decode cX3_headOf 19 = .ok (.if_icmp .ge 12, 3) := by decide +kernel
theorem dX3_headOf_22 : decode cX3_headOf 22 = .ok (.aload_n 0, 1) := by decide +kernel
theorem dX3_headOf_23 : decode cX3_headOf 23 = .ok (.getfield 13, 3) := by decide +kernel
theorem dX3_headOf_26 : decode cX3_headOf 26 = .ok (.iload_n 3, 1) := by decide +kernel
theorem dX3_headOf_27 : decode cX3_headOf 27 = .ok (.laload, 1) := by decide +kernel
theorem dX3_headOf_28 : decode cX3_headOf 28 = .ok (.goto 4, 3) := by decide +kernel
theorem hS_X3_isReference : yX3_isReference.cls ≠ "java/lang/invoke/MethodHandle" ∧ yX3_isReference.cls ≠ "java/lang/invoke/VarHandle" ∧ (parseMethodDescriptor yX3_isReference.desc).map (fun d => d.parameters.length) = some 1 := by decide +kernel
set_option maxHeartbeats 2000000 in
set_option maxRecDepth 100000 in
theorem K_headOf (l : Launch) (G : pT) (h0 : Nat) (a : Nat → Nat) (F : Nat → Int32) (R : Nat → Value) (Z : Int64) (B : Nat → Nat → Int32) (J : Nat → Nat → Int64) (T : Nat → Nat) (Pi : Nat → va_E → Prop) (w : va_W) (x : Int64) (sp : Nat) (op : Nat) (ht : Nat) (hsp : (sp = 34 ∧ op = 35) ∨ (sp = 35 ∧ op = 34)) (hht : 8 ≤ ht ∧ ht ≤ 3008) (hO : OKW G h0 a (upd F 26 (nI ht)) (updR (updR R 7 (.ref (a sp))) 8 (.ref (a op))) Z B J T Pi w) : PM l G pX0 yX3_headOf cX3_headOf 4 (some .long) ({ frames := 3, cells := 0, slots := 0, locals := 81 }) [.ref (a 28), .long x] w (fun (v : Option Value) (u : va_W × (Int64)) => v = some (.long u.2) ∧ (OKW G h0 a (upd F 26 (nI ht)) (updR (updR R 7 (.ref (a sp))) 8 (.ref (a op))) Z B J T Pi u.1)) (fun u => u.1) := by
  intro sz
  refine Met.ofW (cc := cX3_headOf) (maxL := 4) (ret := (some .long)) (by decide) rfl ?_
  intro p e s m args below meth c s₁ B9 hml hv
  obtain ⟨rfl, hsz, hP, hD0, hE, hX⟩ := hv
  have hx := B9.exec
  have hb := B9.bytes
  have hr := B9.returns
  have hts := atoms_spec (ws := Cond.code yX3_headOf cX3_headOf 4 (some .long) :: pw) B9.pre
  have hq : ∀ w ∈ pw, w.before _ s = true := fun w h => hts w (List.mem_cons_of_mem _ h)
  have hown : s.vm.findClass RX3 = some m.cls := findClass_of_methodNamed B9.named
  have hlocks := B9.notSynchronized
  subst hsz
  have hD := hD0.self (sz := s.heap.size)
  have hA : ∀ q : Nat, s.heap.size ≤ q → va_A w s.heap.size q := fun q h => Or.inr h
  generalize va_A w s.heap.size = A at hD hE hA ⊢
  have hS : va_S A s.heap s.heap [] := va_S.rf
  have hl := lv_entry ([.ref (a 28), .long x]) (n := 4) (Nat.le_of_ble_eq_true rfl)
  rw [lg_entry_eq]
  generalize (lg_sl ([.ref (a 28), .long x]) ++ List.replicate (4 - (lg_sl ([.ref (a 28), .long x])).length) Slot.unset).toArray = ls at hl ⊢
  have hl : lv_has ls 4 [(0, .ref (a 28)), (1, .long x)] := hl
  rcases hsp with ⟨rfl, rfl⟩ | ⟨rfl, rfl⟩
  · skip
    refine lv_lload_n hx hb dX3_headOf_0 rfl (lv_at hl 1 rfl) ?_
    refine lv_l2i hx hb dX3_headOf_1 rfl ?_
    refine lv_topi (fun x1 e2 => ?_)
    refine lv_istore_n (lv' := [(3, .int x1), (0, .ref (a 28)), (1, .long x)]) hx hb dX3_headOf_2 rfl hl (by decide) rfl (fun ls hl => ?_)
    refine lv_lload_n hx hb dX3_headOf_3 rfl (lv_at hl 2 rfl) ?_
    refine pc_SN (G := G) (As := [.long x]) (rest := []) hx hb hml hown hq hE hX pX0_al hP hS hA hl.1 (s_isRef l G x) (gS pw_438 pw_439 pw_440 pw_423) hS_X3_isReference rfl (Nat.le_of_ble_eq_true rfl) dX3_headOf_4 ⟨Nat.le_of_ble_eq_true rfl, Nat.le_of_ble_eq_true rfl⟩ ⟨Nat.le_of_ble_eq_true rfl, Nat.le_of_ble_eq_true rfl⟩ (fun v5 u3 H locs hw4 hP hS => ?_)
    obtain ⟨rfl, h7⟩ := hw4
    refine W.widen (k := 0) (n := 0) (Nat.le_of_ble_eq_true rfl) (Nat.le_of_ble_eq_true rfl) ?_
    refine W.eq (g2 := F0 m 7 ls [.int (nI u3)]) rfl ?_
    refine lv_if_eq (tgt := 31) hx hb dX3_headOf_7 (by decide) (fun c8 => ?_) (fun c8 => ?_)
    · have n9 : u3 = 0 := (nI_eq (a := u3) (b := 0) (by omega) (by omega)).mp c8
      refine lv_lconst (v := 0) hx hb dX3_headOf_31 (by decide) ?_
      have hO : OKW G h0 a (upd F 26 (nI ht)) (updR (updR R 7 (.ref (a 34))) 8 (.ref (a 35))) Z B J T Pi w := hO.to rfl
      exact W.lret (v := 0) hx hb hr (fun t99 ht99 hW99 => ⟨⟨_, (w, (0 : Int64)), rfl, ⟨rfl, hO⟩, by rw [ht99]; exact hP, hD⟩, hS.F ht99⟩) hS.2.2 dX3_headOf_32
    · have n10 : ¬ (u3 = 0) := fun h9 => c8 ((nI_eq (a := u3) (b := 0) (by omega) (by omega)).mpr h9)
      refine lv_iload_n hx hb dX3_headOf_10 rfl (lv_at hl 0 rfl) ?_
      refine lv_if_lt (tgt := 31) hx hb dX3_headOf_11 (by decide) (fun c11 => ?_) (fun c11 => ?_)
      · refine lv_lconst (v := 0) hx hb dX3_headOf_31 (by decide) ?_
        have hO : OKW G h0 a (upd F 26 (nI ht)) (updR (updR R 7 (.ref (a 34))) 8 (.ref (a 35))) Z B J T Pi w := hO.to rfl
        exact W.lret (v := 0) hx hb hr (fun t99 ht99 hW99 => ⟨⟨_, (w, (0 : Int64)), rfl, ⟨rfl, hO⟩, by rw [ht99]; exact hP, hD⟩, hS.F ht99⟩) hS.2.2 dX3_headOf_32
      · obtain ⟨a9, ht_a9, hb_a9⟩ := nI_nn2 ( c11)
        have cc12 := c11
        rw [ht_a9] at cc12
        have n13 : ¬ (a9 < 0) := fun h9 => cc12 ((nI_ltI (a := a9) (b := 0) (by omega) (by omega)).mpr h9)
        rw [ht_a9] at hl
        refine lv_iload_n hx hb dX3_headOf_14 rfl (lv_at hl 0 rfl) ?_
        refine lv_aload_n hx hb dX3_headOf_15 rfl (lv_at hl 1 rfl) ?_
        refine c_get (v := .int (nI ht)) (C := RX3) (Tc := TX3) (N := 5) (ci := 3) hx hb hq pin_wsX30 hown hE hP hO 29 (sg_29 G h0 a _ _ _ _ _) rfl 2 (by decide) (hq _ pw_417) (fun _ h9 => h9) rfl dX3_headOf_16 ?_
        refine lv_icmp_ge (tgt := 31) hx hb dX3_headOf_19 (by decide) (fun c14 => ?_) (fun c14 => ?_)
        · have n15 : ht ≤ a9 := (nI_leI (a := ht) (b := a9) (by omega) (by omega)).mp c14
          refine lv_lconst (v := 0) hx hb dX3_headOf_31 (by decide) ?_
          have hO : OKW G h0 a (upd F 26 (nI ht)) (updR (updR R 7 (.ref (a 34))) 8 (.ref (a 35))) Z B J T Pi w := hO.to rfl
          exact W.lret (v := 0) hx hb hr (fun t99 ht99 hW99 => ⟨⟨_, (w, (0 : Int64)), rfl, ⟨rfl, hO⟩, by rw [ht99]; exact hP, hD⟩, hS.F ht99⟩) hS.2.2 dX3_headOf_32
        · have n16 : ¬ (ht ≤ a9) := fun h9 => c14 ((nI_leI (a := ht) (b := a9) (by omega) (by omega)).mpr h9)
          refine lv_aload_n hx hb dX3_headOf_22 rfl (lv_at hl 1 rfl) ?_
          refine c_get (v := .ref (a 34)) (C := RX3) (Tc := TX3) (N := 5) (ci := 3) hx hb hq pin_wsX30 hown hE hP hO 29 (sg_29 G h0 a _ _ _ _ _) rfl 0 (by decide) (hq _ pw_415) (fun _ h9 => h9) rfl dX3_headOf_23 ?_
          refine lv_iload_n hx hb dX3_headOf_26 rfl (lv_at hl 0 rfl) ?_
          refine c_ldl (f := (J 34)) (n := 3008) (t0 := 2) hx hb hE hP hO 30 (sg_30 G h0 a _ _ _ _ _) rfl (vp_in_nI (by omega) (by decide)) dX3_headOf_27 ?_
          rw [(nI_clamp (show a9 < 2 ^ 31 by omega))]
          refine lv_topl (fun x17 e18 => ?_)
          refine lv_goto (tgt := 32) hx hb dX3_headOf_28 (by decide) ?_
          have hO : OKW G h0 a (upd F 26 (nI ht)) (updR (updR R 7 (.ref (a 34))) 8 (.ref (a 35))) Z B J T Pi w := hO.to rfl
          exact W.lret (v := x17) hx hb hr (fun t99 ht99 hW99 => ⟨⟨_, (w, x17), rfl, ⟨rfl, hO⟩, by rw [ht99]; exact hP, hD⟩, hS.F ht99⟩) hS.2.2 dX3_headOf_32
  · skip
    refine lv_lload_n hx hb dX3_headOf_0 rfl (lv_at hl 1 rfl) ?_
    refine lv_l2i hx hb dX3_headOf_1 rfl ?_
    refine lv_topi (fun x19 e20 => ?_)
    refine lv_istore_n (lv' := [(3, .int x19), (0, .ref (a 28)), (1, .long x)]) hx hb dX3_headOf_2 rfl hl (by decide) rfl (fun ls hl => ?_)
    refine lv_lload_n hx hb dX3_headOf_3 rfl (lv_at hl 2 rfl) ?_
    refine pc_SN (G := G) (As := [.long x]) (rest := []) hx hb hml hown hq hE hX pX0_al hP hS hA hl.1 (s_isRef l G x) (gS pw_438 pw_439 pw_440 pw_423) hS_X3_isReference rfl (Nat.le_of_ble_eq_true rfl) dX3_headOf_4 ⟨Nat.le_of_ble_eq_true rfl, Nat.le_of_ble_eq_true rfl⟩ ⟨Nat.le_of_ble_eq_true rfl, Nat.le_of_ble_eq_true rfl⟩ (fun v23 u21 H locs hw22 hP hS => ?_)
    obtain ⟨rfl, h25⟩ := hw22
    refine W.widen (k := 0) (n := 0) (Nat.le_of_ble_eq_true rfl) (Nat.le_of_ble_eq_true rfl) ?_
    refine W.eq (g2 := F0 m 7 ls [.int (nI u21)]) rfl ?_
    refine lv_if_eq (tgt := 31) hx hb dX3_headOf_7 (by decide) (fun c26 => ?_) (fun c26 => ?_)
    · have n27 : u21 = 0 := (nI_eq (a := u21) (b := 0) (by omega) (by omega)).mp c26
      refine lv_lconst (v := 0) hx hb dX3_headOf_31 (by decide) ?_
      have hO : OKW G h0 a (upd F 26 (nI ht)) (updR (updR R 7 (.ref (a 35))) 8 (.ref (a 34))) Z B J T Pi w := hO.to rfl
      exact W.lret (v := 0) hx hb hr (fun t99 ht99 hW99 => ⟨⟨_, (w, (0 : Int64)), rfl, ⟨rfl, hO⟩, by rw [ht99]; exact hP, hD⟩, hS.F ht99⟩) hS.2.2 dX3_headOf_32
    · have n28 : ¬ (u21 = 0) := fun h9 => c26 ((nI_eq (a := u21) (b := 0) (by omega) (by omega)).mpr h9)
      refine lv_iload_n hx hb dX3_headOf_10 rfl (lv_at hl 0 rfl) ?_
      refine lv_if_lt (tgt := 31) hx hb dX3_headOf_11 (by decide) (fun c29 => ?_) (fun c29 => ?_)
      · refine lv_lconst (v := 0) hx hb dX3_headOf_31 (by decide) ?_
        have hO : OKW G h0 a (upd F 26 (nI ht)) (updR (updR R 7 (.ref (a 35))) 8 (.ref (a 34))) Z B J T Pi w := hO.to rfl
        exact W.lret (v := 0) hx hb hr (fun t99 ht99 hW99 => ⟨⟨_, (w, (0 : Int64)), rfl, ⟨rfl, hO⟩, by rw [ht99]; exact hP, hD⟩, hS.F ht99⟩) hS.2.2 dX3_headOf_32
      · obtain ⟨a9, ht_a9, hb_a9⟩ := nI_nn2 ( c29)
        have cc30 := c29
        rw [ht_a9] at cc30
        have n31 : ¬ (a9 < 0) := fun h9 => cc30 ((nI_ltI (a := a9) (b := 0) (by omega) (by omega)).mpr h9)
        rw [ht_a9] at hl
        refine lv_iload_n hx hb dX3_headOf_14 rfl (lv_at hl 0 rfl) ?_
        refine lv_aload_n hx hb dX3_headOf_15 rfl (lv_at hl 1 rfl) ?_
        refine c_get (v := .int (nI ht)) (C := RX3) (Tc := TX3) (N := 5) (ci := 3) hx hb hq pin_wsX30 hown hE hP hO 29 (sg_29 G h0 a _ _ _ _ _) rfl 2 (by decide) (hq _ pw_417) (fun _ h9 => h9) rfl dX3_headOf_16 ?_
        refine lv_icmp_ge (tgt := 31) hx hb dX3_headOf_19 (by decide) (fun c32 => ?_) (fun c32 => ?_)
        · have n33 : ht ≤ a9 := (nI_leI (a := ht) (b := a9) (by omega) (by omega)).mp c32
          refine lv_lconst (v := 0) hx hb dX3_headOf_31 (by decide) ?_
          have hO : OKW G h0 a (upd F 26 (nI ht)) (updR (updR R 7 (.ref (a 35))) 8 (.ref (a 34))) Z B J T Pi w := hO.to rfl
          exact W.lret (v := 0) hx hb hr (fun t99 ht99 hW99 => ⟨⟨_, (w, (0 : Int64)), rfl, ⟨rfl, hO⟩, by rw [ht99]; exact hP, hD⟩, hS.F ht99⟩) hS.2.2 dX3_headOf_32
        · have n34 : ¬ (ht ≤ a9) := fun h9 => c32 ((nI_leI (a := ht) (b := a9) (by omega) (by omega)).mpr h9)
          refine lv_aload_n hx hb dX3_headOf_22 rfl (lv_at hl 1 rfl) ?_
          refine c_get (v := .ref (a 35)) (C := RX3) (Tc := TX3) (N := 5) (ci := 3) hx hb hq pin_wsX30 hown hE hP hO 29 (sg_29 G h0 a _ _ _ _ _) rfl 0 (by decide) (hq _ pw_415) (fun _ h9 => h9) rfl dX3_headOf_23 ?_
          refine lv_iload_n hx hb dX3_headOf_26 rfl (lv_at hl 0 rfl) ?_
          refine c_ldl (f := (J 35)) (n := 3008) (t0 := 2) hx hb hE hP hO 31 (sg_31 G h0 a _ _ _ _ _) rfl (vp_in_nI (by omega) (by decide)) dX3_headOf_27 ?_
          rw [(nI_clamp (show a9 < 2 ^ 31 by omega))]
          refine lv_topl (fun x35 e36 => ?_)
          refine lv_goto (tgt := 32) hx hb dX3_headOf_28 (by decide) ?_
          have hO : OKW G h0 a (upd F 26 (nI ht)) (updR (updR R 7 (.ref (a 35))) 8 (.ref (a 34))) Z B J T Pi w := hO.to rfl
          exact W.lret (v := x35) hx hb hr (fun t99 ht99 hW99 => ⟨⟨_, (w, x35), rfl, ⟨rfl, hO⟩, by rw [ht99]; exact hP, hD⟩, hS.F ht99⟩) hS.2.2 dX3_headOf_32
theorem dX3_typeOf_0 : decode cX3_typeOf 0 = .ok (.aload_n 0, 1) := by decide +kernel
theorem dX3_typeOf_1 : decode cX3_typeOf 1 = .ok (.lload_n 1, 1) := by decide +kernel
theorem dX3_typeOf_2 : decode cX3_typeOf 2 = .ok (.invokevirtual 45, 3) := by decide +kernel
theorem dX3_typeOf_5 : decode cX3_typeOf 5 = .ok (.lstore_n 3, 1) := by decide +kernel
theorem dX3_typeOf_6 : decode cX3_typeOf 6 = .ok (.lload_n 3, 1) := by decide +kernel
theorem dX3_typeOf_7 : decode cX3_typeOf 7 = .ok (.lconst 0, 1) := by decide +kernel
theorem dX3_typeOf_8 : decode cX3_typeOf 8 = .ok (.lcmp, 1) := by decide +kernel
theorem dX3_typeOf_9 : decode cX3_typeOf 9 = .ok (.ifCond .ne 8, 3) := by decide +kernel
theorem dX3_typeOf_17 : decode cX3_typeOf 17 = .ok (.lload_n 3, 1) := by decide +kernel
theorem dX3_typeOf_18 : decode cX3_typeOf 18 = .ok (.l2i, 1) := by decide +kernel
theorem dX3_typeOf_19 : decode cX3_typeOf 19 = .ok (.sipush 255, 3) := by decide +kernel
theorem dX3_typeOf_22 : decode cX3_typeOf 22 = .ok (.iand, 1) := by decide +kernel
theorem dX3_typeOf_23 : decode cX3_typeOf 23 = .ok (.ireturn, 1) := by decide +kernel
theorem dX3_typeOf_12 : decode cX3_typeOf 12 = .ok (.bipush 63, 2) := by decide +kernel
theorem dX3_typeOf_14 : decode cX3_typeOf 14 = .ok (.goto 9, 3) := by decide +kernel
theorem hV_X3_headOf : yX3_headOf.cls = RX3 ∧ yX3_headOf.cls ≠ "java/lang/invoke/MethodHandle" ∧ yX3_headOf.cls ≠ "java/lang/invoke/VarHandle" ∧ (parseMethodDescriptor yX3_headOf.desc).map (fun d => d.parameters.length) = some 1 := by decide +kernel
set_option maxHeartbeats 2000000 in
set_option maxRecDepth 100000 in
theorem K_typeOf (l : Launch) (G : pT) (h0 : Nat) (a : Nat → Nat) (F : Nat → Int32) (R : Nat → Value) (Z : Int64) (B : Nat → Nat → Int32) (J : Nat → Nat → Int64) (T : Nat → Nat) (Pi : Nat → va_E → Prop) (w : va_W) (x : Int64) (sp : Nat) (op : Nat) (ht : Nat) (hsp : (sp = 34 ∧ op = 35) ∨ (sp = 35 ∧ op = 34)) (hht : 8 ≤ ht ∧ ht ≤ 3008) (hO : OKW G h0 a (upd F 26 (nI ht)) (updR (updR R 7 (.ref (a sp))) 8 (.ref (a op))) Z B J T Pi w) : PM l G pX0 yX3_typeOf cX3_typeOf 5 (some .int) ({ frames := 4, cells := 0, slots := 0, locals := 104 }) [.ref (a 28), .long x] w (fun (v : Option Value) (u : va_W × (Int32)) => v = some (.int u.2) ∧ (OKW G h0 a (upd F 26 (nI ht)) (updR (updR R 7 (.ref (a sp))) 8 (.ref (a op))) Z B J T Pi u.1)) (fun u => u.1) := by
  intro sz
  refine Met.ofW (cc := cX3_typeOf) (maxL := 5) (ret := (some .int)) (by decide) rfl ?_
  intro p e s m args below meth c s₁ B9 hml hv
  obtain ⟨rfl, hsz, hP, hD0, hE, hX⟩ := hv
  have hx := B9.exec
  have hb := B9.bytes
  have hr := B9.returns
  have hts := atoms_spec (ws := Cond.code yX3_typeOf cX3_typeOf 5 (some .int) :: pw) B9.pre
  have hq : ∀ w ∈ pw, w.before _ s = true := fun w h => hts w (List.mem_cons_of_mem _ h)
  have hown : s.vm.findClass RX3 = some m.cls := findClass_of_methodNamed B9.named
  have hlocks := B9.notSynchronized
  subst hsz
  have hD := hD0.self (sz := s.heap.size)
  have hA : ∀ q : Nat, s.heap.size ≤ q → va_A w s.heap.size q := fun q h => Or.inr h
  generalize va_A w s.heap.size = A at hD hE hA ⊢
  have hS : va_S A s.heap s.heap [] := va_S.rf
  have hl := lv_entry ([.ref (a 28), .long x]) (n := 5) (Nat.le_of_ble_eq_true rfl)
  rw [lg_entry_eq]
  generalize (lg_sl ([.ref (a 28), .long x]) ++ List.replicate (5 - (lg_sl ([.ref (a 28), .long x])).length) Slot.unset).toArray = ls at hl ⊢
  have hl : lv_has ls 5 [(0, .ref (a 28)), (1, .long x)] := hl
  refine lv_aload_n hx hb dX3_typeOf_0 rfl (lv_at hl 0 rfl) ?_
  refine lv_lload_n hx hb dX3_typeOf_1 rfl (lv_at hl 1 rfl) ?_
  have hO : OKW G h0 a (upd (upd F 26 (nI ht)) 26 (nI ht)) (updR (updR (updR (updR R 7 (.ref (a sp))) 8 (.ref (a op))) 7 (.ref (a sp))) 8 (.ref (a op))) Z B J T Pi w := hO.to rfl
  obtain ⟨_, qr4, hqr5⟩ := hO.2.1 29 _ (sg_29 G h0 a _ _ _ _ _)
  refine pc_V0 (G := G) (As := [.long x]) (rest := []) hx hb hml hown hq hE hX pX0_al hP hD hS hA hl.1 (K_headOf l G h0 a (upd F 26 (nI ht)) (updR (updR R 7 (.ref (a sp))) 8 (.ref (a op))) Z B J T Pi w x sp op ht hsp (by omega) hO) (gV pw_442 pw_443 pw_444 pw_440 pw_437) hV_X3_headOf qr4 3 hqr5 rfl rfl rfl (Nat.le_of_ble_eq_true rfl) dX3_typeOf_2 ⟨Nat.le_of_ble_eq_true rfl, Nat.le_of_ble_eq_true rfl⟩ ⟨Nat.le_of_ble_eq_true rfl, Nat.le_of_ble_eq_true rfl⟩ (fun v3 u1 H locs hw2 hP hD hS => ?_)
  obtain ⟨w, r6⟩ := u1
  obtain ⟨hw2, hO⟩ := hw2
  obtain rfl : v3 = some (.long r6) := hw2
  have hO : OKW G h0 a (upd F 26 (nI ht)) (updR (updR R 7 (.ref (a sp))) 8 (.ref (a op))) Z B J T Pi w := hO.to rfl
  refine W.widen (k := 0) (n := 0) (Nat.le_of_ble_eq_true rfl) (Nat.le_of_ble_eq_true rfl) ?_
  refine W.eq (g2 := F0 m 5 ls [.long r6]) rfl ?_
  refine lv_lstore_n (lv' := [(3, .long r6), (0, .ref (a 28)), (1, .long x)]) hx hb dX3_typeOf_5 rfl hl (by decide) rfl (fun ls hl => ?_)
  refine lv_lload_n hx hb dX3_typeOf_6 rfl (lv_at hl 0 rfl) ?_
  refine lv_lconst (v := 0) hx hb dX3_typeOf_7 (by decide) ?_
  refine W.lcmp hx hb dX3_typeOf_8 ?_
  refine lv_topi (fun x7 e8 => ?_)
  refine lv_if_ne (tgt := 17) hx hb dX3_typeOf_9 (by decide) (fun c9 => ?_) (fun c9 => ?_)
  · refine lv_lload_n hx hb dX3_typeOf_17 rfl (lv_at hl 0 rfl) ?_
    refine lv_l2i hx hb dX3_typeOf_18 rfl ?_
    refine lv_topi (fun x10 e11 => ?_)
    refine lv_sipush (v := 255) hx hb dX3_typeOf_19 (by decide) ?_
    refine lv_iand hx hb dX3_typeOf_22 ?_
    obtain ⟨b12, hb13, eb14⟩ := and255 x10
    refine lv_topi (fun x15 e16 => ?_)
    obtain rfl : x15 = nI b12 := e16.trans eb14
    have hO : OKW G h0 a (upd F 26 (nI ht)) (updR (updR R 7 (.ref (a sp))) 8 (.ref (a op))) Z B J T Pi w := hO.to rfl
    exact W.iret (v := (nI b12)) hx hb hr (fun t99 ht99 hW99 => ⟨⟨_, (w, (nI b12)), rfl, ⟨rfl, hO⟩, by rw [ht99]; exact hP, hD⟩, hS.F ht99⟩) hS.2.2 dX3_typeOf_23
  · refine lv_bipush (v := 63) hx hb dX3_typeOf_12 (by decide) ?_
    refine lv_goto (tgt := 23) hx hb dX3_typeOf_14 (by decide) ?_
    have hO : OKW G h0 a (upd F 26 (nI ht)) (updR (updR R 7 (.ref (a sp))) 8 (.ref (a op))) Z B J T Pi w := hO.to rfl
    exact W.iret (v := 63) hx hb hr (fun t99 ht99 hW99 => ⟨⟨_, (w, (63 : Int32)), rfl, ⟨rfl, hO⟩, by rw [ht99]; exact hP, hD⟩, hS.F ht99⟩) hS.2.2 dX3_typeOf_23
theorem dX3_partsOf_0 : decode cX3_partsOf 0 = .ok (.aload_n 0, 1) := by decide +kernel
theorem dX3_partsOf_1 : decode cX3_partsOf 1 = .ok (.lload_n 1, 1) := by decide +kernel
theorem dX3_partsOf_2 : decode cX3_partsOf 2 = .ok (.invokevirtual 45, 3) := by decide +kernel
theorem dX3_partsOf_5 : decode cX3_partsOf 5 = .ok (.lstore_n 3, 1) := by decide +kernel
theorem dX3_partsOf_6 : decode cX3_partsOf 6 = .ok (.lload_n 3, 1) := by decide +kernel
theorem dX3_partsOf_7 : decode cX3_partsOf 7 = .ok (.bipush 8, 2) := by decide +kernel
theorem dX3_partsOf_9 : decode cX3_partsOf 9 = .ok (.lshr, 1) := by decide +kernel
theorem dX3_partsOf_10 : decode cX3_partsOf 10 = .ok (.l2i, 1) := by decide +kernel
theorem dX3_partsOf_11 : decode cX3_partsOf 11 = .ok (.istore 5, 2) := by decide +kernel
theorem dX3_partsOf_13 : decode cX3_partsOf 13 = .ok (.iconst 0, 1) := by decide +kernel
theorem dX3_partsOf_14 : decode cX3_partsOf 14 = .ok (.iload 5, 2) := by decide +kernel
theorem dX3_partsOf_16 : decode cX3_partsOf 16 = .ok (.lload_n 3, 1) := by decide +kernel
theorem dX3_partsOf_17 : decode cX3_partsOf 17 = .ok (.invokestatic 49, 3) := by decide +kernel
theorem dX3_partsOf_20 : decode cX3_partsOf 20 = .ok (.isub, 1) := by decide +kernel
theorem dX3_partsOf_21 : decode cX3_partsOf 21 = .ok (.invokestatic 53, 3) := by decide +kernel
theorem dX3_partsOf_24 : decode cX3_partsOf 24 = .ok (.ireturn, 1) := by decide +kernel
theorem hS_X3_aheadOf : yX3_aheadOf.cls ≠ "java/lang/invoke/MethodHandle" ∧ yX3_aheadOf.cls ≠ "java/lang/invoke/VarHandle" ∧ (parseMethodDescriptor yX3_aheadOf.desc).map (fun d => d.parameters.length) = some 1 := by decide +kernel
set_option maxHeartbeats 2000000 in
set_option maxRecDepth 100000 in
theorem K_partsOf (l : Launch) (G : pT) (h0 : Nat) (a : Nat → Nat) (F : Nat → Int32) (R : Nat → Value) (Z : Int64) (B : Nat → Nat → Int32) (J : Nat → Nat → Int64) (T : Nat → Nat) (Pi : Nat → va_E → Prop) (w : va_W) (x : Int64) (sp : Nat) (op : Nat) (ht : Nat) (hsp : (sp = 34 ∧ op = 35) ∨ (sp = 35 ∧ op = 34)) (hht : 8 ≤ ht ∧ ht ≤ 3008) (hO : OKW G h0 a (upd F 26 (nI ht)) (updR (updR R 7 (.ref (a sp))) 8 (.ref (a op))) Z B J T Pi w) : PM l G pX0 yX3_partsOf cX3_partsOf 6 (some .int) ({ frames := 4, cells := 0, slots := 0, locals := 104 }) [.ref (a 28), .long x] w (fun (v : Option Value) (u : va_W × (Int32)) => v = some (.int u.2) ∧ (OKW G h0 a (upd F 26 (nI ht)) (updR (updR R 7 (.ref (a sp))) 8 (.ref (a op))) Z B J T Pi u.1)) (fun u => u.1) := by
  intro sz
  refine Met.ofW (cc := cX3_partsOf) (maxL := 6) (ret := (some .int)) (by decide) rfl ?_
  intro p e s m args below meth c s₁ B9 hml hv
  obtain ⟨rfl, hsz, hP, hD0, hE, hX⟩ := hv
  have hx := B9.exec
  have hb := B9.bytes
  have hr := B9.returns
  have hts := atoms_spec (ws := Cond.code yX3_partsOf cX3_partsOf 6 (some .int) :: pw) B9.pre
  have hq : ∀ w ∈ pw, w.before _ s = true := fun w h => hts w (List.mem_cons_of_mem _ h)
  have hown : s.vm.findClass RX3 = some m.cls := findClass_of_methodNamed B9.named
  have hlocks := B9.notSynchronized
  subst hsz
  have hD := hD0.self (sz := s.heap.size)
  have hA : ∀ q : Nat, s.heap.size ≤ q → va_A w s.heap.size q := fun q h => Or.inr h
  generalize va_A w s.heap.size = A at hD hE hA ⊢
  have hS : va_S A s.heap s.heap [] := va_S.rf
  have hl := lv_entry ([.ref (a 28), .long x]) (n := 6) (Nat.le_of_ble_eq_true rfl)
  rw [lg_entry_eq]
  generalize (lg_sl ([.ref (a 28), .long x]) ++ List.replicate (6 - (lg_sl ([.ref (a 28), .long x])).length) Slot.unset).toArray = ls at hl ⊢
  have hl : lv_has ls 6 [(0, .ref (a 28)), (1, .long x)] := hl
  refine lv_aload_n hx hb dX3_partsOf_0 rfl (lv_at hl 0 rfl) ?_
  refine lv_lload_n hx hb dX3_partsOf_1 rfl (lv_at hl 1 rfl) ?_
  have hO : OKW G h0 a (upd (upd F 26 (nI ht)) 26 (nI ht)) (updR (updR (updR (updR R 7 (.ref (a sp))) 8 (.ref (a op))) 7 (.ref (a sp))) 8 (.ref (a op))) Z B J T Pi w := hO.to rfl
  obtain ⟨_, qr4, hqr5⟩ := hO.2.1 29 _ (sg_29 G h0 a _ _ _ _ _)
  refine pc_V0 (G := G) (As := [.long x]) (rest := []) hx hb hml hown hq hE hX pX0_al hP hD hS hA hl.1 (K_headOf l G h0 a (upd F 26 (nI ht)) (updR (updR R 7 (.ref (a sp))) 8 (.ref (a op))) Z B J T Pi w x sp op ht hsp (by omega) hO) (gV pw_442 pw_443 pw_444 pw_440 pw_437) hV_X3_headOf qr4 3 hqr5 rfl rfl rfl (Nat.le_of_ble_eq_true rfl) dX3_partsOf_2 ⟨Nat.le_of_ble_eq_true rfl, Nat.le_of_ble_eq_true rfl⟩ ⟨Nat.le_of_ble_eq_true rfl, Nat.le_of_ble_eq_true rfl⟩ (fun v3 u1 H locs hw2 hP hD hS => ?_)
  obtain ⟨w, r6⟩ := u1
  obtain ⟨hw2, hO⟩ := hw2
  obtain rfl : v3 = some (.long r6) := hw2
  have hO : OKW G h0 a (upd F 26 (nI ht)) (updR (updR R 7 (.ref (a sp))) 8 (.ref (a op))) Z B J T Pi w := hO.to rfl
  refine W.widen (k := 0) (n := 0) (Nat.le_of_ble_eq_true rfl) (Nat.le_of_ble_eq_true rfl) ?_
  refine W.eq (g2 := F0 m 5 ls [.long r6]) rfl ?_
  refine lv_lstore_n (lv' := [(3, .long r6), (0, .ref (a 28)), (1, .long x)]) hx hb dX3_partsOf_5 rfl hl (by decide) rfl (fun ls hl => ?_)
  refine lv_lload_n hx hb dX3_partsOf_6 rfl (lv_at hl 0 rfl) ?_
  refine lv_bipush (v := 8) hx hb dX3_partsOf_7 (by decide) ?_
  refine lv_lshr hx hb dX3_partsOf_9 rfl ?_
  refine lv_topl (fun x7 e8 => ?_)
  refine lv_l2i hx hb dX3_partsOf_10 rfl ?_
  refine lv_topi (fun x9 e10 => ?_)
  refine lv_istore (lv' := [(5, .int x9), (3, .long r6), (0, .ref (a 28)), (1, .long x)]) hx hb dX3_partsOf_11 hl (by decide) rfl (fun ls hl => ?_)
  refine lv_iconst (v := 0) hx hb dX3_partsOf_13 (by decide) ?_
  refine lv_iload hx hb dX3_partsOf_14 (lv_at hl 0 rfl) ?_
  refine lv_lload_n hx hb dX3_partsOf_16 rfl (lv_at hl 1 rfl) ?_
  refine pc_SN (G := G) (As := [.long r6]) (rest := [.int x9, .int 0]) hx hb hml hown hq hE hX pX0_al hP hS hA hl.1 (s_ahead l G r6) (gS pw_450 pw_451 pw_440 pw_445) hS_X3_aheadOf rfl (Nat.le_of_ble_eq_true rfl) dX3_partsOf_17 ⟨Nat.le_of_ble_eq_true rfl, Nat.le_of_ble_eq_true rfl⟩ ⟨Nat.le_of_ble_eq_true rfl, Nat.le_of_ble_eq_true rfl⟩ (fun v13 u11 H locs hw12 hP hS => ?_)
  obtain ⟨rfl, h15⟩ := hw12
  refine W.widen (k := 0) (n := 0) (Nat.le_of_ble_eq_true rfl) (Nat.le_of_ble_eq_true rfl) ?_
  refine W.eq (g2 := F0 m 20 ls [.int (nI u11), .int x9, .int 0]) rfl ?_
  refine lv_isub hx hb dX3_partsOf_20 ?_
  refine lv_topi (fun x16 e17 => ?_)
  refine va_mmax (own := RX3) hx hb (by rw [hml]; exact hl.1.symm) hown (hq _ pw_449) (hq _ pw_51) (hq _ pw_52) (hq _ pw_53) (Nat.le_of_ble_eq_true rfl) (Nat.le_of_ble_eq_true rfl) (Nat.le_of_ble_eq_true rfl) (Nat.le_of_ble_eq_true rfl) dX3_partsOf_21 ?_
  refine lv_topi (fun x18 e19 => ?_)
  have hO : OKW G h0 a (upd F 26 (nI ht)) (updR (updR R 7 (.ref (a sp))) 8 (.ref (a op))) Z B J T Pi w := hO.to rfl
  exact W.iret (v := x18) hx hb hr (fun t99 ht99 hW99 => ⟨⟨_, (w, x18), rfl, ⟨rfl, hO⟩, by rw [ht99]; exact hP, hD⟩, hS.F ht99⟩) hS.2.2 dX3_partsOf_24
theorem dX3_get_0 : decode cX3_get 0 = .ok (.lload_n 1, 1) := by decide +kernel
theorem dX3_get_1 : decode cX3_get 1 = .ok (.l2i, 1) := by decide +kernel
theorem dX3_get_2 : decode cX3_get 2 = .ok (.aload_n 0, 1) := by decide +kernel
theorem dX3_get_3 : decode cX3_get 3 = .ok (.lload_n 1, 1) := by decide +kernel
theorem dX3_get_4 : decode cX3_get 4 = .ok (.invokevirtual 45, 3) := by decide +kernel
theorem dX3_get_7 : decode cX3_get 7 = .ok (.invokestatic 49, 3) := by decide +kernel
theorem dX3_get_10 : decode cX3_get 10 = .ok (.iadd, 1) := by decide +kernel
theorem dX3_get_11 : decode cX3_get 11 = .ok (.iload_n 3, 1) := by decide +kernel
theorem dX3_get_12 : decode cX3_get 12 = .ok (.iadd, 1) := by decide +kernel
theorem dX3_get_13 : decode cX3_get 13 = .ok (.istore 4, 2) := by decide +kernel
theorem dX3_get_15 : decode cX3_get 15 = .ok (.iload_n 3, 1) := by decide +kernel
theorem dX3_get_16 : decode cX3_get 16 = .ok (.ifCond .lt 36, 3) := by decide +kernel
theorem dX3_get_52 : decode cX3_get 52 = .ok (.lconst 0, 1) := by decide +kernel
theorem dX3_get_53 : decode cX3_get 53 = .ok (.lreturn, 1) := by decide +kernel
theorem dX3_get_19 : decode cX3_get 19 = .ok (.iload_n 3, 1) := by decide +kernel
theorem dX3_get_20 : decode cX3_get 20 = .ok (.aload_n 0, 1) := by decide +kernel
theorem dX3_get_21 : decode cX3_get 21 = .ok (.lload_n 1, 1) := by decide +kernel
theorem dX3_get_22 : decode cX3_get 22 = .ok (.invokevirtual 60, 3) := by decide +kernel
theorem dX3_get_25 : decode cX3_get 25 = .ok (.if_icmp .ge 27, 3) := by decide +kernel
theorem dX3_get_28 : decode cX3_get 28 = .ok (.iload 4, 2) := by decide +kernel
theorem dX3_get_30 : decode cX3_get 30 = .ok (.ifCond .lt 22, 3) := by decide +kernel
theorem dX3_get_33 : decode cX3_get 33 = .ok (.iload 4, 2) := by decide +kernel
theorem dX3_get_35 : decode cX3_get 35 = .ok (.aload_n 0, 1) := by decide +kernel
theorem dX3_get_36 : decode cX3_get 36 = .ok (.getfield 20, 3) := by decide +kernel
theorem dX3_get_39 : decode cX3_get 39 = .ok (.if_icmp .ge 13, 3) := by decide +kernel
theorem dX3_get_42 : decode cX3_get 42 = .ok (.aload_n 0, 1) := by decide +kernel
theorem dX3_get_43 : decode cX3_get 43 = .ok (.getfield 13, 3) := by decide +kernel
theorem dX3_get_46 : decode cX3_get 46 = .ok (.iload 4, 2) := by decide +kernel
theorem dX3_get_48 : decode cX3_get 48 = .ok (.laload, 1) := by decide +kernel
theorem dX3_get_49 : decode cX3_get 49 = .ok (.goto 4, 3) := by decide +kernel
theorem hV_X3_partsOf : yX3_partsOf.cls = RX3 ∧ yX3_partsOf.cls ≠ "java/lang/invoke/MethodHandle" ∧ yX3_partsOf.cls ≠ "java/lang/invoke/VarHandle" ∧ (parseMethodDescriptor yX3_partsOf.desc).map (fun d => d.parameters.length) = some 1 := by decide +kernel
set_option maxHeartbeats 2000000 in
set_option maxRecDepth 100000 in
theorem K_get (l : Launch) (G : pT) (h0 : Nat) (a : Nat → Nat) (F : Nat → Int32) (R : Nat → Value) (Z : Int64) (B : Nat → Nat → Int32) (J : Nat → Nat → Int64) (T : Nat → Nat) (Pi : Nat → va_E → Prop) (w : va_W) (x : Int64) (i9 : Int32) (sp : Nat) (op : Nat) (ht : Nat) (hsp : (sp = 34 ∧ op = 35) ∨ (sp = 35 ∧ op = 34)) (hht : 8 ≤ ht ∧ ht ≤ 3008) (hO : OKW G h0 a (upd F 26 (nI ht)) (updR (updR R 7 (.ref (a sp))) 8 (.ref (a op))) Z B J T Pi w) : PM l G pX0 yX3_get cX3_get 5 (some .long) ({ frames := 5, cells := 0, slots := 0, locals := 129 }) [.ref (a 28), .long x, .int i9] w (fun (v : Option Value) (u : va_W × (Int64)) => v = some (.long u.2) ∧ (OKW G h0 a (upd F 26 (nI ht)) (updR (updR R 7 (.ref (a sp))) 8 (.ref (a op))) Z B J T Pi u.1)) (fun u => u.1) := by
  intro sz
  refine Met.ofW (cc := cX3_get) (maxL := 5) (ret := (some .long)) (by decide) rfl ?_
  intro p e s m args below meth c s₁ B9 hml hv
  obtain ⟨rfl, hsz, hP, hD0, hE, hX⟩ := hv
  have hx := B9.exec
  have hb := B9.bytes
  have hr := B9.returns
  have hts := atoms_spec (ws := Cond.code yX3_get cX3_get 5 (some .long) :: pw) B9.pre
  have hq : ∀ w ∈ pw, w.before _ s = true := fun w h => hts w (List.mem_cons_of_mem _ h)
  have hown : s.vm.findClass RX3 = some m.cls := findClass_of_methodNamed B9.named
  have hlocks := B9.notSynchronized
  subst hsz
  have hD := hD0.self (sz := s.heap.size)
  have hA : ∀ q : Nat, s.heap.size ≤ q → va_A w s.heap.size q := fun q h => Or.inr h
  generalize va_A w s.heap.size = A at hD hE hA ⊢
  have hS : va_S A s.heap s.heap [] := va_S.rf
  have hl := lv_entry ([.ref (a 28), .long x, .int i9]) (n := 5) (Nat.le_of_ble_eq_true rfl)
  rw [lg_entry_eq]
  generalize (lg_sl ([.ref (a 28), .long x, .int i9]) ++ List.replicate (5 - (lg_sl ([.ref (a 28), .long x, .int i9])).length) Slot.unset).toArray = ls at hl ⊢
  have hl : lv_has ls 5 [(0, .ref (a 28)), (1, .long x), (3, .int i9)] := hl
  rcases hsp with ⟨rfl, rfl⟩ | ⟨rfl, rfl⟩
  · skip
    refine lv_lload_n hx hb dX3_get_0 rfl (lv_at hl 1 rfl) ?_
    refine lv_l2i hx hb dX3_get_1 rfl ?_
    refine lv_topi (fun x1 e2 => ?_)
    refine lv_aload_n hx hb dX3_get_2 rfl (lv_at hl 0 rfl) ?_
    refine lv_lload_n hx hb dX3_get_3 rfl (lv_at hl 1 rfl) ?_
    have hO : OKW G h0 a (upd (upd F 26 (nI ht)) 26 (nI ht)) (updR (updR (updR (updR R 7 (.ref (a 34))) 8 (.ref (a 35))) 7 (.ref (a 34))) 8 (.ref (a 35))) Z B J T Pi w := hO.to rfl
    obtain ⟨_, qr6, hqr7⟩ := hO.2.1 29 _ (sg_29 G h0 a _ _ _ _ _)
    refine pc_V0 (G := G) (As := [.long x]) (rest := [.int x1]) hx hb hml hown hq hE hX pX0_al hP hD hS hA hl.1 (K_headOf l G h0 a (upd F 26 (nI ht)) (updR (updR R 7 (.ref (a 34))) 8 (.ref (a 35))) Z B J T Pi w x 34 35 ht (by omega) (by omega) hO) (gV pw_442 pw_443 pw_444 pw_440 pw_437) hV_X3_headOf qr6 3 hqr7 rfl rfl rfl (Nat.le_of_ble_eq_true rfl) dX3_get_4 ⟨Nat.le_of_ble_eq_true rfl, Nat.le_of_ble_eq_true rfl⟩ ⟨Nat.le_of_ble_eq_true rfl, Nat.le_of_ble_eq_true rfl⟩ (fun v5 u3 H locs hw4 hP hD hS => ?_)
    obtain ⟨w, r8⟩ := u3
    obtain ⟨hw4, hO⟩ := hw4
    obtain rfl : v5 = some (.long r8) := hw4
    have hO : OKW G h0 a (upd F 26 (nI ht)) (updR (updR R 7 (.ref (a 34))) 8 (.ref (a 35))) Z B J T Pi w := hO.to rfl
    refine W.widen (k := 0) (n := 0) (Nat.le_of_ble_eq_true rfl) (Nat.le_of_ble_eq_true rfl) ?_
    refine W.eq (g2 := F0 m 7 ls [.long r8, .int x1]) rfl ?_
    refine pc_SN (G := G) (As := [.long r8]) (rest := [.int x1]) hx hb hml hown hq hE hX pX0_al hP hS hA hl.1 (s_ahead l G r8) (gS pw_450 pw_451 pw_440 pw_445) hS_X3_aheadOf rfl (Nat.le_of_ble_eq_true rfl) dX3_get_7 ⟨Nat.le_of_ble_eq_true rfl, Nat.le_of_ble_eq_true rfl⟩ ⟨Nat.le_of_ble_eq_true rfl, Nat.le_of_ble_eq_true rfl⟩ (fun v11 u9 H locs hw10 hP hS => ?_)
    obtain ⟨rfl, h13⟩ := hw10
    refine W.widen (k := 0) (n := 0) (Nat.le_of_ble_eq_true rfl) (Nat.le_of_ble_eq_true rfl) ?_
    refine W.eq (g2 := F0 m 10 ls [.int (nI u9), .int x1]) rfl ?_
    refine lv_iadd hx hb dX3_get_10 ?_
    refine lv_topi (fun x14 e15 => ?_)
    refine lv_iload_n hx hb dX3_get_11 rfl (lv_at hl 2 rfl) ?_
    refine lv_iadd hx hb dX3_get_12 ?_
    refine lv_topi (fun x16 e17 => ?_)
    refine lv_istore (lv' := [(4, .int x16), (0, .ref (a 28)), (1, .long x), (3, .int i9)]) hx hb dX3_get_13 hl (by decide) rfl (fun ls hl => ?_)
    refine lv_iload_n hx hb dX3_get_15 rfl (lv_at hl 3 rfl) ?_
    refine lv_if_lt (tgt := 52) hx hb dX3_get_16 (by decide) (fun c18 => ?_) (fun c18 => ?_)
    · refine lv_lconst (v := 0) hx hb dX3_get_52 (by decide) ?_
      have hO : OKW G h0 a (upd F 26 (nI ht)) (updR (updR R 7 (.ref (a 34))) 8 (.ref (a 35))) Z B J T Pi w := hO.to rfl
      exact W.lret (v := 0) hx hb hr (fun t99 ht99 hW99 => ⟨⟨_, (w, (0 : Int64)), rfl, ⟨rfl, hO⟩, by rw [ht99]; exact hP, hD⟩, hS.F ht99⟩) hS.2.2 dX3_get_53
    · refine lv_iload_n hx hb dX3_get_19 rfl (lv_at hl 3 rfl) ?_
      refine lv_aload_n hx hb dX3_get_20 rfl (lv_at hl 1 rfl) ?_
      refine lv_lload_n hx hb dX3_get_21 rfl (lv_at hl 2 rfl) ?_
      have hO : OKW G h0 a (upd (upd F 26 (nI ht)) 26 (nI ht)) (updR (updR (updR (updR R 7 (.ref (a 34))) 8 (.ref (a 35))) 7 (.ref (a 34))) 8 (.ref (a 35))) Z B J T Pi w := hO.to rfl
      obtain ⟨_, qr22, hqr23⟩ := hO.2.1 29 _ (sg_29 G h0 a _ _ _ _ _)
      refine pc_V0 (G := G) (As := [.long x]) (rest := [.int i9]) hx hb hml hown hq hE hX pX0_al hP hD hS hA hl.1 (K_partsOf l G h0 a (upd F 26 (nI ht)) (updR (updR R 7 (.ref (a 34))) 8 (.ref (a 35))) Z B J T Pi w x 34 35 ht (by omega) (by omega) hO) (gV pw_453 pw_454 pw_455 pw_440 pw_448) hV_X3_partsOf qr22 3 hqr23 rfl rfl rfl (Nat.le_of_ble_eq_true rfl) dX3_get_22 ⟨Nat.le_of_ble_eq_true rfl, Nat.le_of_ble_eq_true rfl⟩ ⟨Nat.le_of_ble_eq_true rfl, Nat.le_of_ble_eq_true rfl⟩ (fun v21 u19 H locs hw20 hP hD hS => ?_)
      obtain ⟨w, r24⟩ := u19
      obtain ⟨hw20, hO⟩ := hw20
      obtain rfl : v21 = some (.int r24) := hw20
      have hO : OKW G h0 a (upd F 26 (nI ht)) (updR (updR R 7 (.ref (a 34))) 8 (.ref (a 35))) Z B J T Pi w := hO.to rfl
      refine W.widen (k := 0) (n := 0) (Nat.le_of_ble_eq_true rfl) (Nat.le_of_ble_eq_true rfl) ?_
      refine W.eq (g2 := F0 m 25 ls [.int r24, .int i9]) rfl ?_
      refine lv_icmp_ge (tgt := 52) hx hb dX3_get_25 (by decide) (fun c25 => ?_) (fun c25 => ?_)
      · refine lv_lconst (v := 0) hx hb dX3_get_52 (by decide) ?_
        have hO : OKW G h0 a (upd F 26 (nI ht)) (updR (updR R 7 (.ref (a 34))) 8 (.ref (a 35))) Z B J T Pi w := hO.to rfl
        exact W.lret (v := 0) hx hb hr (fun t99 ht99 hW99 => ⟨⟨_, (w, (0 : Int64)), rfl, ⟨rfl, hO⟩, by rw [ht99]; exact hP, hD⟩, hS.F ht99⟩) hS.2.2 dX3_get_53
      · refine lv_iload hx hb dX3_get_28 (lv_at hl 0 rfl) ?_
        refine lv_if_lt (tgt := 52) hx hb dX3_get_30 (by decide) (fun c26 => ?_) (fun c26 => ?_)
        · refine lv_lconst (v := 0) hx hb dX3_get_52 (by decide) ?_
          have hO : OKW G h0 a (upd F 26 (nI ht)) (updR (updR R 7 (.ref (a 34))) 8 (.ref (a 35))) Z B J T Pi w := hO.to rfl
          exact W.lret (v := 0) hx hb hr (fun t99 ht99 hW99 => ⟨⟨_, (w, (0 : Int64)), rfl, ⟨rfl, hO⟩, by rw [ht99]; exact hP, hD⟩, hS.F ht99⟩) hS.2.2 dX3_get_53
        · obtain ⟨a9, ht_a9, hb_a9⟩ := nI_nn2 ( c26)
          have cc27 := c26
          rw [ht_a9] at cc27
          have n28 : ¬ (a9 < 0) := fun h9 => cc27 ((nI_ltI (a := a9) (b := 0) (by omega) (by omega)).mpr h9)
          rw [ht_a9] at hl
          refine lv_iload hx hb dX3_get_33 (lv_at hl 0 rfl) ?_
          refine lv_aload_n hx hb dX3_get_35 rfl (lv_at hl 1 rfl) ?_
          refine c_get (v := .int (nI ht)) (C := RX3) (Tc := TX3) (N := 5) (ci := 3) hx hb hq pin_wsX30 hown hE hP hO 29 (sg_29 G h0 a _ _ _ _ _) rfl 2 (by decide) (hq _ pw_417) (fun _ h9 => h9) rfl dX3_get_36 ?_
          refine lv_icmp_ge (tgt := 52) hx hb dX3_get_39 (by decide) (fun c29 => ?_) (fun c29 => ?_)
          · have n30 : ht ≤ a9 := (nI_leI (a := ht) (b := a9) (by omega) (by omega)).mp c29
            refine lv_lconst (v := 0) hx hb dX3_get_52 (by decide) ?_
            have hO : OKW G h0 a (upd F 26 (nI ht)) (updR (updR R 7 (.ref (a 34))) 8 (.ref (a 35))) Z B J T Pi w := hO.to rfl
            exact W.lret (v := 0) hx hb hr (fun t99 ht99 hW99 => ⟨⟨_, (w, (0 : Int64)), rfl, ⟨rfl, hO⟩, by rw [ht99]; exact hP, hD⟩, hS.F ht99⟩) hS.2.2 dX3_get_53
          · have n31 : ¬ (ht ≤ a9) := fun h9 => c29 ((nI_leI (a := ht) (b := a9) (by omega) (by omega)).mpr h9)
            refine lv_aload_n hx hb dX3_get_42 rfl (lv_at hl 1 rfl) ?_
            refine c_get (v := .ref (a 34)) (C := RX3) (Tc := TX3) (N := 5) (ci := 3) hx hb hq pin_wsX30 hown hE hP hO 29 (sg_29 G h0 a _ _ _ _ _) rfl 0 (by decide) (hq _ pw_415) (fun _ h9 => h9) rfl dX3_get_43 ?_
            refine lv_iload hx hb dX3_get_46 (lv_at hl 0 rfl) ?_
            refine c_ldl (f := (J 34)) (n := 3008) (t0 := 2) hx hb hE hP hO 30 (sg_30 G h0 a _ _ _ _ _) rfl (vp_in_nI (by omega) (by decide)) dX3_get_48 ?_
            rw [(nI_clamp (show a9 < 2 ^ 31 by omega))]
            refine lv_topl (fun x32 e33 => ?_)
            refine lv_goto (tgt := 53) hx hb dX3_get_49 (by decide) ?_
            have hO : OKW G h0 a (upd F 26 (nI ht)) (updR (updR R 7 (.ref (a 34))) 8 (.ref (a 35))) Z B J T Pi w := hO.to rfl
            exact W.lret (v := x32) hx hb hr (fun t99 ht99 hW99 => ⟨⟨_, (w, x32), rfl, ⟨rfl, hO⟩, by rw [ht99]; exact hP, hD⟩, hS.F ht99⟩) hS.2.2 dX3_get_53
  · skip
    refine lv_lload_n hx hb dX3_get_0 rfl (lv_at hl 1 rfl) ?_
    refine lv_l2i hx hb dX3_get_1 rfl ?_
    refine lv_topi (fun x34 e35 => ?_)
    refine lv_aload_n hx hb dX3_get_2 rfl (lv_at hl 0 rfl) ?_
    refine lv_lload_n hx hb dX3_get_3 rfl (lv_at hl 1 rfl) ?_
    have hO : OKW G h0 a (upd (upd F 26 (nI ht)) 26 (nI ht)) (updR (updR (updR (updR R 7 (.ref (a 35))) 8 (.ref (a 34))) 7 (.ref (a 35))) 8 (.ref (a 34))) Z B J T Pi w := hO.to rfl
    obtain ⟨_, qr39, hqr40⟩ := hO.2.1 29 _ (sg_29 G h0 a _ _ _ _ _)
    refine pc_V0 (G := G) (As := [.long x]) (rest := [.int x34]) hx hb hml hown hq hE hX pX0_al hP hD hS hA hl.1 (K_headOf l G h0 a (upd F 26 (nI ht)) (updR (updR R 7 (.ref (a 35))) 8 (.ref (a 34))) Z B J T Pi w x 35 34 ht (by omega) (by omega) hO) (gV pw_442 pw_443 pw_444 pw_440 pw_437) hV_X3_headOf qr39 3 hqr40 rfl rfl rfl (Nat.le_of_ble_eq_true rfl) dX3_get_4 ⟨Nat.le_of_ble_eq_true rfl, Nat.le_of_ble_eq_true rfl⟩ ⟨Nat.le_of_ble_eq_true rfl, Nat.le_of_ble_eq_true rfl⟩ (fun v38 u36 H locs hw37 hP hD hS => ?_)
    obtain ⟨w, r41⟩ := u36
    obtain ⟨hw37, hO⟩ := hw37
    obtain rfl : v38 = some (.long r41) := hw37
    have hO : OKW G h0 a (upd F 26 (nI ht)) (updR (updR R 7 (.ref (a 35))) 8 (.ref (a 34))) Z B J T Pi w := hO.to rfl
    refine W.widen (k := 0) (n := 0) (Nat.le_of_ble_eq_true rfl) (Nat.le_of_ble_eq_true rfl) ?_
    refine W.eq (g2 := F0 m 7 ls [.long r41, .int x34]) rfl ?_
    refine pc_SN (G := G) (As := [.long r41]) (rest := [.int x34]) hx hb hml hown hq hE hX pX0_al hP hS hA hl.1 (s_ahead l G r41) (gS pw_450 pw_451 pw_440 pw_445) hS_X3_aheadOf rfl (Nat.le_of_ble_eq_true rfl) dX3_get_7 ⟨Nat.le_of_ble_eq_true rfl, Nat.le_of_ble_eq_true rfl⟩ ⟨Nat.le_of_ble_eq_true rfl, Nat.le_of_ble_eq_true rfl⟩ (fun v44 u42 H locs hw43 hP hS => ?_)
    obtain ⟨rfl, h46⟩ := hw43
    refine W.widen (k := 0) (n := 0) (Nat.le_of_ble_eq_true rfl) (Nat.le_of_ble_eq_true rfl) ?_
    refine W.eq (g2 := F0 m 10 ls [.int (nI u42), .int x34]) rfl ?_
    refine lv_iadd hx hb dX3_get_10 ?_
    refine lv_topi (fun x47 e48 => ?_)
    refine lv_iload_n hx hb dX3_get_11 rfl (lv_at hl 2 rfl) ?_
    refine lv_iadd hx hb dX3_get_12 ?_
    refine lv_topi (fun x49 e50 => ?_)
    refine lv_istore (lv' := [(4, .int x49), (0, .ref (a 28)), (1, .long x), (3, .int i9)]) hx hb dX3_get_13 hl (by decide) rfl (fun ls hl => ?_)
    refine lv_iload_n hx hb dX3_get_15 rfl (lv_at hl 3 rfl) ?_
    refine lv_if_lt (tgt := 52) hx hb dX3_get_16 (by decide) (fun c51 => ?_) (fun c51 => ?_)
    · refine lv_lconst (v := 0) hx hb dX3_get_52 (by decide) ?_
      have hO : OKW G h0 a (upd F 26 (nI ht)) (updR (updR R 7 (.ref (a 35))) 8 (.ref (a 34))) Z B J T Pi w := hO.to rfl
      exact W.lret (v := 0) hx hb hr (fun t99 ht99 hW99 => ⟨⟨_, (w, (0 : Int64)), rfl, ⟨rfl, hO⟩, by rw [ht99]; exact hP, hD⟩, hS.F ht99⟩) hS.2.2 dX3_get_53
    · refine lv_iload_n hx hb dX3_get_19 rfl (lv_at hl 3 rfl) ?_
      refine lv_aload_n hx hb dX3_get_20 rfl (lv_at hl 1 rfl) ?_
      refine lv_lload_n hx hb dX3_get_21 rfl (lv_at hl 2 rfl) ?_
      have hO : OKW G h0 a (upd (upd F 26 (nI ht)) 26 (nI ht)) (updR (updR (updR (updR R 7 (.ref (a 35))) 8 (.ref (a 34))) 7 (.ref (a 35))) 8 (.ref (a 34))) Z B J T Pi w := hO.to rfl
      obtain ⟨_, qr55, hqr56⟩ := hO.2.1 29 _ (sg_29 G h0 a _ _ _ _ _)
      refine pc_V0 (G := G) (As := [.long x]) (rest := [.int i9]) hx hb hml hown hq hE hX pX0_al hP hD hS hA hl.1 (K_partsOf l G h0 a (upd F 26 (nI ht)) (updR (updR R 7 (.ref (a 35))) 8 (.ref (a 34))) Z B J T Pi w x 35 34 ht (by omega) (by omega) hO) (gV pw_453 pw_454 pw_455 pw_440 pw_448) hV_X3_partsOf qr55 3 hqr56 rfl rfl rfl (Nat.le_of_ble_eq_true rfl) dX3_get_22 ⟨Nat.le_of_ble_eq_true rfl, Nat.le_of_ble_eq_true rfl⟩ ⟨Nat.le_of_ble_eq_true rfl, Nat.le_of_ble_eq_true rfl⟩ (fun v54 u52 H locs hw53 hP hD hS => ?_)
      obtain ⟨w, r57⟩ := u52
      obtain ⟨hw53, hO⟩ := hw53
      obtain rfl : v54 = some (.int r57) := hw53
      have hO : OKW G h0 a (upd F 26 (nI ht)) (updR (updR R 7 (.ref (a 35))) 8 (.ref (a 34))) Z B J T Pi w := hO.to rfl
      refine W.widen (k := 0) (n := 0) (Nat.le_of_ble_eq_true rfl) (Nat.le_of_ble_eq_true rfl) ?_
      refine W.eq (g2 := F0 m 25 ls [.int r57, .int i9]) rfl ?_
      refine lv_icmp_ge (tgt := 52) hx hb dX3_get_25 (by decide) (fun c58 => ?_) (fun c58 => ?_)
      · refine lv_lconst (v := 0) hx hb dX3_get_52 (by decide) ?_
        have hO : OKW G h0 a (upd F 26 (nI ht)) (updR (updR R 7 (.ref (a 35))) 8 (.ref (a 34))) Z B J T Pi w := hO.to rfl
        exact W.lret (v := 0) hx hb hr (fun t99 ht99 hW99 => ⟨⟨_, (w, (0 : Int64)), rfl, ⟨rfl, hO⟩, by rw [ht99]; exact hP, hD⟩, hS.F ht99⟩) hS.2.2 dX3_get_53
      · refine lv_iload hx hb dX3_get_28 (lv_at hl 0 rfl) ?_
        refine lv_if_lt (tgt := 52) hx hb dX3_get_30 (by decide) (fun c59 => ?_) (fun c59 => ?_)
        · refine lv_lconst (v := 0) hx hb dX3_get_52 (by decide) ?_
          have hO : OKW G h0 a (upd F 26 (nI ht)) (updR (updR R 7 (.ref (a 35))) 8 (.ref (a 34))) Z B J T Pi w := hO.to rfl
          exact W.lret (v := 0) hx hb hr (fun t99 ht99 hW99 => ⟨⟨_, (w, (0 : Int64)), rfl, ⟨rfl, hO⟩, by rw [ht99]; exact hP, hD⟩, hS.F ht99⟩) hS.2.2 dX3_get_53
        · obtain ⟨a9, ht_a9, hb_a9⟩ := nI_nn2 ( c59)
          have cc60 := c59
          rw [ht_a9] at cc60
          have n61 : ¬ (a9 < 0) := fun h9 => cc60 ((nI_ltI (a := a9) (b := 0) (by omega) (by omega)).mpr h9)
          rw [ht_a9] at hl
          refine lv_iload hx hb dX3_get_33 (lv_at hl 0 rfl) ?_
          refine lv_aload_n hx hb dX3_get_35 rfl (lv_at hl 1 rfl) ?_
          refine c_get (v := .int (nI ht)) (C := RX3) (Tc := TX3) (N := 5) (ci := 3) hx hb hq pin_wsX30 hown hE hP hO 29 (sg_29 G h0 a _ _ _ _ _) rfl 2 (by decide) (hq _ pw_417) (fun _ h9 => h9) rfl dX3_get_36 ?_
          refine lv_icmp_ge (tgt := 52) hx hb dX3_get_39 (by decide) (fun c62 => ?_) (fun c62 => ?_)
          · have n63 : ht ≤ a9 := (nI_leI (a := ht) (b := a9) (by omega) (by omega)).mp c62
            refine lv_lconst (v := 0) hx hb dX3_get_52 (by decide) ?_
            have hO : OKW G h0 a (upd F 26 (nI ht)) (updR (updR R 7 (.ref (a 35))) 8 (.ref (a 34))) Z B J T Pi w := hO.to rfl
            exact W.lret (v := 0) hx hb hr (fun t99 ht99 hW99 => ⟨⟨_, (w, (0 : Int64)), rfl, ⟨rfl, hO⟩, by rw [ht99]; exact hP, hD⟩, hS.F ht99⟩) hS.2.2 dX3_get_53
          · have n64 : ¬ (ht ≤ a9) := fun h9 => c62 ((nI_leI (a := ht) (b := a9) (by omega) (by omega)).mpr h9)
            refine lv_aload_n hx hb dX3_get_42 rfl (lv_at hl 1 rfl) ?_
            refine c_get (v := .ref (a 35)) (C := RX3) (Tc := TX3) (N := 5) (ci := 3) hx hb hq pin_wsX30 hown hE hP hO 29 (sg_29 G h0 a _ _ _ _ _) rfl 0 (by decide) (hq _ pw_415) (fun _ h9 => h9) rfl dX3_get_43 ?_
            refine lv_iload hx hb dX3_get_46 (lv_at hl 0 rfl) ?_
            refine c_ldl (f := (J 35)) (n := 3008) (t0 := 2) hx hb hE hP hO 31 (sg_31 G h0 a _ _ _ _ _) rfl (vp_in_nI (by omega) (by decide)) dX3_get_48 ?_
            rw [(nI_clamp (show a9 < 2 ^ 31 by omega))]
            refine lv_topl (fun x65 e66 => ?_)
            refine lv_goto (tgt := 53) hx hb dX3_get_49 (by decide) ?_
            have hO : OKW G h0 a (upd F 26 (nI ht)) (updR (updR R 7 (.ref (a 35))) 8 (.ref (a 34))) Z B J T Pi w := hO.to rfl
            exact W.lret (v := x65) hx hb hr (fun t99 ht99 hW99 => ⟨⟨_, (w, x65), rfl, ⟨rfl, hO⟩, by rw [ht99]; exact hP, hD⟩, hS.F ht99⟩) hS.2.2 dX3_get_53
theorem dX3_put_0 : decode cX3_put 0 = .ok (.lload_n 1, 1) := by decide +kernel
theorem dX3_put_1 : decode cX3_put 1 = .ok (.l2i, 1) := by decide +kernel
theorem dX3_put_2 : decode cX3_put 2 = .ok (.aload_n 0, 1) := by decide +kernel
theorem dX3_put_3 : decode cX3_put 3 = .ok (.lload_n 1, 1) := by decide +kernel
theorem dX3_put_4 : decode cX3_put 4 = .ok (.invokevirtual 45, 3) := by decide +kernel
theorem dX3_put_7 : decode cX3_put 7 = .ok (.invokestatic 49, 3) := by decide +kernel
theorem dX3_put_10 : decode cX3_put 10 = .ok (.iadd, 1) := by decide +kernel
theorem dX3_put_11 : decode cX3_put 11 = .ok (.iload_n 3, 1) := by decide +kernel
theorem dX3_put_12 : decode cX3_put 12 = .ok (.iadd, 1) := by decide +kernel
theorem dX3_put_13 : decode cX3_put 13 = .ok (.istore 6, 2) := by decide +kernel
theorem dX3_put_15 : decode cX3_put 15 = .ok (.iload_n 3, 1) := by decide +kernel
theorem dX3_put_16 : decode cX3_put 16 = .ok (.ifCond .lt 35, 3) := by decide +kernel
theorem dX3_put_51 : decode cX3_put 51 = .ok (.return_, 1) := by decide +kernel
theorem dX3_put_19 : decode cX3_put 19 = .ok (.iload_n 3, 1) := by decide +kernel
theorem dX3_put_20 : decode cX3_put 20 = .ok (.aload_n 0, 1) := by decide +kernel
theorem dX3_put_21 : decode cX3_put 21 = .ok (.lload_n 1, 1) := by decide +kernel
theorem dX3_put_22 : decode cX3_put 22 = .ok (.invokevirtual 60, 3) := by decide +kernel
theorem dX3_put_25 : decode cX3_put 25 = .ok (.if_icmp .ge 26, 3) := by decide +kernel
theorem dX3_put_28 : decode cX3_put 28 = .ok (.iload 6, 2) := by decide +kernel
theorem dX3_put_30 : decode cX3_put 30 = .ok (.ifCond .lt 21, 3) := by decide +kernel
theorem dX3_put_33 : decode cX3_put 33 = .ok (.iload 6, 2) := by decide +kernel
theorem dX3_put_35 : decode cX3_put 35 = .ok (.aload_n 0, 1) := by decide +kernel
theorem dX3_put_36 : decode cX3_put 36 = .ok (.getfield 20, 3) := by decide +kernel
theorem dX3_put_39 : decode cX3_put 39 = .ok (.if_icmp .ge 12, 3) := by decide +kernel
theorem dX3_put_42 : decode cX3_put 42 = .ok (.aload_n 0, 1) := by decide +kernel
theorem dX3_put_43 : decode cX3_put 43 = .ok (.getfield 13, 3) := by decide +kernel
theorem dX3_put_46 : decode cX3_put 46 = .ok (.iload 6, 2) := by decide +kernel
theorem dX3_put_48 : decode cX3_put 48 = .ok (.lload 4, 2) := by decide +kernel
theorem dX3_put_50 : decode cX3_put 50 = .ok (.lastore, 1) := by decide +kernel
set_option maxHeartbeats 2000000 in
set_option maxRecDepth 100000 in
theorem K_put (l : Launch) (G : pT) (h0 : Nat) (a : Nat → Nat) (F : Nat → Int32) (R : Nat → Value) (Z : Int64) (B : Nat → Nat → Int32) (J : Nat → Nat → Int64) (T : Nat → Nat) (Pi : Nat → va_E → Prop) (w : va_W) (x : Int64) (y : Int64) (i9 : Int32) (sp : Nat) (op : Nat) (ht : Nat) (hsp : (sp = 34 ∧ op = 35) ∨ (sp = 35 ∧ op = 34)) (hht : 8 ≤ ht ∧ ht ≤ 3008) (hO : OKW G h0 a (upd F 26 (nI ht)) (updR (updR R 7 (.ref (a sp))) 8 (.ref (a op))) Z B J T Pi w) : PM l G pX0 yX3_put cX3_put 7 none ({ frames := 5, cells := 0, slots := 0, locals := 129 }) [.ref (a 28), .long x, .int i9, .long y] w (fun (v : Option Value) (u : va_W × ((Nat → Nat → Int64))) => v = none ∧ (OKW G h0 a (upd F 26 (nI ht)) (updR (updR R 7 (.ref (a sp))) 8 (.ref (a op))) Z B u.2 T Pi u.1)) (fun u => u.1) := by
  intro sz
  refine Met.ofW (cc := cX3_put) (maxL := 7) (ret := none) (by decide) rfl ?_
  intro p e s m args below meth c s₁ B9 hml hv
  obtain ⟨rfl, hsz, hP, hD0, hE, hX⟩ := hv
  have hx := B9.exec
  have hb := B9.bytes
  have hr := B9.returns
  have hts := atoms_spec (ws := Cond.code yX3_put cX3_put 7 none :: pw) B9.pre
  have hq : ∀ w ∈ pw, w.before _ s = true := fun w h => hts w (List.mem_cons_of_mem _ h)
  have hown : s.vm.findClass RX3 = some m.cls := findClass_of_methodNamed B9.named
  have hlocks := B9.notSynchronized
  subst hsz
  have hD := hD0.self (sz := s.heap.size)
  have hA : ∀ q : Nat, s.heap.size ≤ q → va_A w s.heap.size q := fun q h => Or.inr h
  generalize va_A w s.heap.size = A at hD hE hA ⊢
  have hS : va_S A s.heap s.heap [] := va_S.rf
  have hl := lv_entry ([.ref (a 28), .long x, .int i9, .long y]) (n := 7) (Nat.le_of_ble_eq_true rfl)
  rw [lg_entry_eq]
  generalize (lg_sl ([.ref (a 28), .long x, .int i9, .long y]) ++ List.replicate (7 - (lg_sl ([.ref (a 28), .long x, .int i9, .long y])).length) Slot.unset).toArray = ls at hl ⊢
  have hl : lv_has ls 7 [(0, .ref (a 28)), (1, .long x), (3, .int i9), (4, .long y)] := hl
  rcases hsp with ⟨rfl, rfl⟩ | ⟨rfl, rfl⟩
  · skip
    refine lv_lload_n hx hb dX3_put_0 rfl (lv_at hl 1 rfl) ?_
    refine lv_l2i hx hb dX3_put_1 rfl ?_
    refine lv_topi (fun x1 e2 => ?_)
    refine lv_aload_n hx hb dX3_put_2 rfl (lv_at hl 0 rfl) ?_
    refine lv_lload_n hx hb dX3_put_3 rfl (lv_at hl 1 rfl) ?_
    have hO : OKW G h0 a (upd (upd F 26 (nI ht)) 26 (nI ht)) (updR (updR (updR (updR R 7 (.ref (a 34))) 8 (.ref (a 35))) 7 (.ref (a 34))) 8 (.ref (a 35))) Z B J T Pi w := hO.to rfl
    obtain ⟨_, qr6, hqr7⟩ := hO.2.1 29 _ (sg_29 G h0 a _ _ _ _ _)
    refine pc_V0 (G := G) (As := [.long x]) (rest := [.int x1]) hx hb hml hown hq hE hX pX0_al hP hD hS hA hl.1 (K_headOf l G h0 a (upd F 26 (nI ht)) (updR (updR R 7 (.ref (a 34))) 8 (.ref (a 35))) Z B J T Pi w x 34 35 ht (by omega) (by omega) hO) (gV pw_442 pw_443 pw_444 pw_440 pw_437) hV_X3_headOf qr6 3 hqr7 rfl rfl rfl (Nat.le_of_ble_eq_true rfl) dX3_put_4 ⟨Nat.le_of_ble_eq_true rfl, Nat.le_of_ble_eq_true rfl⟩ ⟨Nat.le_of_ble_eq_true rfl, Nat.le_of_ble_eq_true rfl⟩ (fun v5 u3 H locs hw4 hP hD hS => ?_)
    obtain ⟨w, r8⟩ := u3
    obtain ⟨hw4, hO⟩ := hw4
    obtain rfl : v5 = some (.long r8) := hw4
    have hO : OKW G h0 a (upd F 26 (nI ht)) (updR (updR R 7 (.ref (a 34))) 8 (.ref (a 35))) Z B J T Pi w := hO.to rfl
    refine W.widen (k := 0) (n := 0) (Nat.le_of_ble_eq_true rfl) (Nat.le_of_ble_eq_true rfl) ?_
    refine W.eq (g2 := F0 m 7 ls [.long r8, .int x1]) rfl ?_
    refine pc_SN (G := G) (As := [.long r8]) (rest := [.int x1]) hx hb hml hown hq hE hX pX0_al hP hS hA hl.1 (s_ahead l G r8) (gS pw_450 pw_451 pw_440 pw_445) hS_X3_aheadOf rfl (Nat.le_of_ble_eq_true rfl) dX3_put_7 ⟨Nat.le_of_ble_eq_true rfl, Nat.le_of_ble_eq_true rfl⟩ ⟨Nat.le_of_ble_eq_true rfl, Nat.le_of_ble_eq_true rfl⟩ (fun v11 u9 H locs hw10 hP hS => ?_)
    obtain ⟨rfl, h13⟩ := hw10
    refine W.widen (k := 0) (n := 0) (Nat.le_of_ble_eq_true rfl) (Nat.le_of_ble_eq_true rfl) ?_
    refine W.eq (g2 := F0 m 10 ls [.int (nI u9), .int x1]) rfl ?_
    refine lv_iadd hx hb dX3_put_10 ?_
    refine lv_topi (fun x14 e15 => ?_)
    refine lv_iload_n hx hb dX3_put_11 rfl (lv_at hl 2 rfl) ?_
    refine lv_iadd hx hb dX3_put_12 ?_
    refine lv_topi (fun x16 e17 => ?_)
    refine lv_istore (lv' := [(6, .int x16), (0, .ref (a 28)), (1, .long x), (3, .int i9), (4, .long y)]) hx hb dX3_put_13 hl (by decide) rfl (fun ls hl => ?_)
    refine lv_iload_n hx hb dX3_put_15 rfl (lv_at hl 3 rfl) ?_
    refine lv_if_lt (tgt := 51) hx hb dX3_put_16 (by decide) (fun c18 => ?_) (fun c18 => ?_)
    · have hO : OKW G h0 a (upd F 26 (nI ht)) (updR (updR R 7 (.ref (a 34))) 8 (.ref (a 35))) Z B J T Pi w := hO.to rfl
      exact W.vret hx hb hr (fun t99 ht99 hW99 => ⟨⟨_, (w, J), rfl, ⟨rfl, hO⟩, by rw [ht99]; exact hP, hD⟩, hS.F ht99⟩) hS.2.2 dX3_put_51
    · refine lv_iload_n hx hb dX3_put_19 rfl (lv_at hl 3 rfl) ?_
      refine lv_aload_n hx hb dX3_put_20 rfl (lv_at hl 1 rfl) ?_
      refine lv_lload_n hx hb dX3_put_21 rfl (lv_at hl 2 rfl) ?_
      have hO : OKW G h0 a (upd (upd F 26 (nI ht)) 26 (nI ht)) (updR (updR (updR (updR R 7 (.ref (a 34))) 8 (.ref (a 35))) 7 (.ref (a 34))) 8 (.ref (a 35))) Z B J T Pi w := hO.to rfl
      obtain ⟨_, qr22, hqr23⟩ := hO.2.1 29 _ (sg_29 G h0 a _ _ _ _ _)
      refine pc_V0 (G := G) (As := [.long x]) (rest := [.int i9]) hx hb hml hown hq hE hX pX0_al hP hD hS hA hl.1 (K_partsOf l G h0 a (upd F 26 (nI ht)) (updR (updR R 7 (.ref (a 34))) 8 (.ref (a 35))) Z B J T Pi w x 34 35 ht (by omega) (by omega) hO) (gV pw_453 pw_454 pw_455 pw_440 pw_448) hV_X3_partsOf qr22 3 hqr23 rfl rfl rfl (Nat.le_of_ble_eq_true rfl) dX3_put_22 ⟨Nat.le_of_ble_eq_true rfl, Nat.le_of_ble_eq_true rfl⟩ ⟨Nat.le_of_ble_eq_true rfl, Nat.le_of_ble_eq_true rfl⟩ (fun v21 u19 H locs hw20 hP hD hS => ?_)
      obtain ⟨w, r24⟩ := u19
      obtain ⟨hw20, hO⟩ := hw20
      obtain rfl : v21 = some (.int r24) := hw20
      have hO : OKW G h0 a (upd F 26 (nI ht)) (updR (updR R 7 (.ref (a 34))) 8 (.ref (a 35))) Z B J T Pi w := hO.to rfl
      refine W.widen (k := 0) (n := 0) (Nat.le_of_ble_eq_true rfl) (Nat.le_of_ble_eq_true rfl) ?_
      refine W.eq (g2 := F0 m 25 ls [.int r24, .int i9]) rfl ?_
      refine lv_icmp_ge (tgt := 51) hx hb dX3_put_25 (by decide) (fun c25 => ?_) (fun c25 => ?_)
      · have hO : OKW G h0 a (upd F 26 (nI ht)) (updR (updR R 7 (.ref (a 34))) 8 (.ref (a 35))) Z B J T Pi w := hO.to rfl
        exact W.vret hx hb hr (fun t99 ht99 hW99 => ⟨⟨_, (w, J), rfl, ⟨rfl, hO⟩, by rw [ht99]; exact hP, hD⟩, hS.F ht99⟩) hS.2.2 dX3_put_51
      · refine lv_iload hx hb dX3_put_28 (lv_at hl 0 rfl) ?_
        refine lv_if_lt (tgt := 51) hx hb dX3_put_30 (by decide) (fun c26 => ?_) (fun c26 => ?_)
        · have hO : OKW G h0 a (upd F 26 (nI ht)) (updR (updR R 7 (.ref (a 34))) 8 (.ref (a 35))) Z B J T Pi w := hO.to rfl
          exact W.vret hx hb hr (fun t99 ht99 hW99 => ⟨⟨_, (w, J), rfl, ⟨rfl, hO⟩, by rw [ht99]; exact hP, hD⟩, hS.F ht99⟩) hS.2.2 dX3_put_51
        · obtain ⟨a9, ht_a9, hb_a9⟩ := nI_nn2 ( c26)
          have cc27 := c26
          rw [ht_a9] at cc27
          have n28 : ¬ (a9 < 0) := fun h9 => cc27 ((nI_ltI (a := a9) (b := 0) (by omega) (by omega)).mpr h9)
          rw [ht_a9] at hl
          refine lv_iload hx hb dX3_put_33 (lv_at hl 0 rfl) ?_
          refine lv_aload_n hx hb dX3_put_35 rfl (lv_at hl 1 rfl) ?_
          refine c_get (v := .int (nI ht)) (C := RX3) (Tc := TX3) (N := 5) (ci := 3) hx hb hq pin_wsX30 hown hE hP hO 29 (sg_29 G h0 a _ _ _ _ _) rfl 2 (by decide) (hq _ pw_417) (fun _ h9 => h9) rfl dX3_put_36 ?_
          refine lv_icmp_ge (tgt := 51) hx hb dX3_put_39 (by decide) (fun c29 => ?_) (fun c29 => ?_)
          · have n30 : ht ≤ a9 := (nI_leI (a := ht) (b := a9) (by omega) (by omega)).mp c29
            have hO : OKW G h0 a (upd F 26 (nI ht)) (updR (updR R 7 (.ref (a 34))) 8 (.ref (a 35))) Z B J T Pi w := hO.to rfl
            exact W.vret hx hb hr (fun t99 ht99 hW99 => ⟨⟨_, (w, J), rfl, ⟨rfl, hO⟩, by rw [ht99]; exact hP, hD⟩, hS.F ht99⟩) hS.2.2 dX3_put_51
          · have n31 : ¬ (ht ≤ a9) := fun h9 => c29 ((nI_leI (a := ht) (b := a9) (by omega) (by omega)).mpr h9)
            refine lv_aload_n hx hb dX3_put_42 rfl (lv_at hl 1 rfl) ?_
            refine c_get (v := .ref (a 34)) (C := RX3) (Tc := TX3) (N := 5) (ci := 3) hx hb hq pin_wsX30 hown hE hP hO 29 (sg_29 G h0 a _ _ _ _ _) rfl 0 (by decide) (hq _ pw_415) (fun _ h9 => h9) rfl dX3_put_43 ?_
            refine lv_iload hx hb dX3_put_46 (lv_at hl 0 rfl) ?_
            refine lv_lload hx hb dX3_put_48 (lv_at hl 4 rfl) ?_
            refine c_stl (f := (J 34)) (n := 3008) (t0 := 2) hx hb hE hP hD hS hO 30 (sg_30 G h0 a _ _ _ _ _) rfl (vp_in_nI (by omega) (by decide)) (sj_34 G h0 a _ _ _ _ _ _) dX3_put_50 (fun H locs w hP hD hS hO => ?_)
            rw [(nI_clamp (show a9 < 2 ^ 31 by omega))] at hO
            have hO : OKW G h0 a (upd F 26 (nI ht)) (updR (updR R 7 (.ref (a 34))) 8 (.ref (a 35))) Z B (updJ J 34 (vp_updL (J 34) a9 y)) T Pi w := hO.to rfl
            exact W.vret hx hb hr (fun t99 ht99 hW99 => ⟨⟨_, (w, (updJ J 34 (vp_updL (J 34) a9 y))), rfl, ⟨rfl, hO⟩, by rw [ht99]; exact hP, hD⟩, hS.F ht99⟩) hS.2.2 dX3_put_51
  · skip
    refine lv_lload_n hx hb dX3_put_0 rfl (lv_at hl 1 rfl) ?_
    refine lv_l2i hx hb dX3_put_1 rfl ?_
    refine lv_topi (fun x32 e33 => ?_)
    refine lv_aload_n hx hb dX3_put_2 rfl (lv_at hl 0 rfl) ?_
    refine lv_lload_n hx hb dX3_put_3 rfl (lv_at hl 1 rfl) ?_
    have hO : OKW G h0 a (upd (upd F 26 (nI ht)) 26 (nI ht)) (updR (updR (updR (updR R 7 (.ref (a 35))) 8 (.ref (a 34))) 7 (.ref (a 35))) 8 (.ref (a 34))) Z B J T Pi w := hO.to rfl
    obtain ⟨_, qr37, hqr38⟩ := hO.2.1 29 _ (sg_29 G h0 a _ _ _ _ _)
    refine pc_V0 (G := G) (As := [.long x]) (rest := [.int x32]) hx hb hml hown hq hE hX pX0_al hP hD hS hA hl.1 (K_headOf l G h0 a (upd F 26 (nI ht)) (updR (updR R 7 (.ref (a 35))) 8 (.ref (a 34))) Z B J T Pi w x 35 34 ht (by omega) (by omega) hO) (gV pw_442 pw_443 pw_444 pw_440 pw_437) hV_X3_headOf qr37 3 hqr38 rfl rfl rfl (Nat.le_of_ble_eq_true rfl) dX3_put_4 ⟨Nat.le_of_ble_eq_true rfl, Nat.le_of_ble_eq_true rfl⟩ ⟨Nat.le_of_ble_eq_true rfl, Nat.le_of_ble_eq_true rfl⟩ (fun v36 u34 H locs hw35 hP hD hS => ?_)
    obtain ⟨w, r39⟩ := u34
    obtain ⟨hw35, hO⟩ := hw35
    obtain rfl : v36 = some (.long r39) := hw35
    have hO : OKW G h0 a (upd F 26 (nI ht)) (updR (updR R 7 (.ref (a 35))) 8 (.ref (a 34))) Z B J T Pi w := hO.to rfl
    refine W.widen (k := 0) (n := 0) (Nat.le_of_ble_eq_true rfl) (Nat.le_of_ble_eq_true rfl) ?_
    refine W.eq (g2 := F0 m 7 ls [.long r39, .int x32]) rfl ?_
    refine pc_SN (G := G) (As := [.long r39]) (rest := [.int x32]) hx hb hml hown hq hE hX pX0_al hP hS hA hl.1 (s_ahead l G r39) (gS pw_450 pw_451 pw_440 pw_445) hS_X3_aheadOf rfl (Nat.le_of_ble_eq_true rfl) dX3_put_7 ⟨Nat.le_of_ble_eq_true rfl, Nat.le_of_ble_eq_true rfl⟩ ⟨Nat.le_of_ble_eq_true rfl, Nat.le_of_ble_eq_true rfl⟩ (fun v42 u40 H locs hw41 hP hS => ?_)
    obtain ⟨rfl, h44⟩ := hw41
    refine W.widen (k := 0) (n := 0) (Nat.le_of_ble_eq_true rfl) (Nat.le_of_ble_eq_true rfl) ?_
    refine W.eq (g2 := F0 m 10 ls [.int (nI u40), .int x32]) rfl ?_
    refine lv_iadd hx hb dX3_put_10 ?_
    refine lv_topi (fun x45 e46 => ?_)
    refine lv_iload_n hx hb dX3_put_11 rfl (lv_at hl 2 rfl) ?_
    refine lv_iadd hx hb dX3_put_12 ?_
    refine lv_topi (fun x47 e48 => ?_)
    refine lv_istore (lv' := [(6, .int x47), (0, .ref (a 28)), (1, .long x), (3, .int i9), (4, .long y)]) hx hb dX3_put_13 hl (by decide) rfl (fun ls hl => ?_)
    refine lv_iload_n hx hb dX3_put_15 rfl (lv_at hl 3 rfl) ?_
    refine lv_if_lt (tgt := 51) hx hb dX3_put_16 (by decide) (fun c49 => ?_) (fun c49 => ?_)
    · have hO : OKW G h0 a (upd F 26 (nI ht)) (updR (updR R 7 (.ref (a 35))) 8 (.ref (a 34))) Z B J T Pi w := hO.to rfl
      exact W.vret hx hb hr (fun t99 ht99 hW99 => ⟨⟨_, (w, J), rfl, ⟨rfl, hO⟩, by rw [ht99]; exact hP, hD⟩, hS.F ht99⟩) hS.2.2 dX3_put_51
    · refine lv_iload_n hx hb dX3_put_19 rfl (lv_at hl 3 rfl) ?_
      refine lv_aload_n hx hb dX3_put_20 rfl (lv_at hl 1 rfl) ?_
      refine lv_lload_n hx hb dX3_put_21 rfl (lv_at hl 2 rfl) ?_
      have hO : OKW G h0 a (upd (upd F 26 (nI ht)) 26 (nI ht)) (updR (updR (updR (updR R 7 (.ref (a 35))) 8 (.ref (a 34))) 7 (.ref (a 35))) 8 (.ref (a 34))) Z B J T Pi w := hO.to rfl
      obtain ⟨_, qr53, hqr54⟩ := hO.2.1 29 _ (sg_29 G h0 a _ _ _ _ _)
      refine pc_V0 (G := G) (As := [.long x]) (rest := [.int i9]) hx hb hml hown hq hE hX pX0_al hP hD hS hA hl.1 (K_partsOf l G h0 a (upd F 26 (nI ht)) (updR (updR R 7 (.ref (a 35))) 8 (.ref (a 34))) Z B J T Pi w x 35 34 ht (by omega) (by omega) hO) (gV pw_453 pw_454 pw_455 pw_440 pw_448) hV_X3_partsOf qr53 3 hqr54 rfl rfl rfl (Nat.le_of_ble_eq_true rfl) dX3_put_22 ⟨Nat.le_of_ble_eq_true rfl, Nat.le_of_ble_eq_true rfl⟩ ⟨Nat.le_of_ble_eq_true rfl, Nat.le_of_ble_eq_true rfl⟩ (fun v52 u50 H locs hw51 hP hD hS => ?_)
      obtain ⟨w, r55⟩ := u50
      obtain ⟨hw51, hO⟩ := hw51
      obtain rfl : v52 = some (.int r55) := hw51
      have hO : OKW G h0 a (upd F 26 (nI ht)) (updR (updR R 7 (.ref (a 35))) 8 (.ref (a 34))) Z B J T Pi w := hO.to rfl
      refine W.widen (k := 0) (n := 0) (Nat.le_of_ble_eq_true rfl) (Nat.le_of_ble_eq_true rfl) ?_
      refine W.eq (g2 := F0 m 25 ls [.int r55, .int i9]) rfl ?_
      refine lv_icmp_ge (tgt := 51) hx hb dX3_put_25 (by decide) (fun c56 => ?_) (fun c56 => ?_)
      · have hO : OKW G h0 a (upd F 26 (nI ht)) (updR (updR R 7 (.ref (a 35))) 8 (.ref (a 34))) Z B J T Pi w := hO.to rfl
        exact W.vret hx hb hr (fun t99 ht99 hW99 => ⟨⟨_, (w, J), rfl, ⟨rfl, hO⟩, by rw [ht99]; exact hP, hD⟩, hS.F ht99⟩) hS.2.2 dX3_put_51
      · refine lv_iload hx hb dX3_put_28 (lv_at hl 0 rfl) ?_
        refine lv_if_lt (tgt := 51) hx hb dX3_put_30 (by decide) (fun c57 => ?_) (fun c57 => ?_)
        · have hO : OKW G h0 a (upd F 26 (nI ht)) (updR (updR R 7 (.ref (a 35))) 8 (.ref (a 34))) Z B J T Pi w := hO.to rfl
          exact W.vret hx hb hr (fun t99 ht99 hW99 => ⟨⟨_, (w, J), rfl, ⟨rfl, hO⟩, by rw [ht99]; exact hP, hD⟩, hS.F ht99⟩) hS.2.2 dX3_put_51
        · obtain ⟨a9, ht_a9, hb_a9⟩ := nI_nn2 ( c57)
          have cc58 := c57
          rw [ht_a9] at cc58
          have n59 : ¬ (a9 < 0) := fun h9 => cc58 ((nI_ltI (a := a9) (b := 0) (by omega) (by omega)).mpr h9)
          rw [ht_a9] at hl
          refine lv_iload hx hb dX3_put_33 (lv_at hl 0 rfl) ?_
          refine lv_aload_n hx hb dX3_put_35 rfl (lv_at hl 1 rfl) ?_
          refine c_get (v := .int (nI ht)) (C := RX3) (Tc := TX3) (N := 5) (ci := 3) hx hb hq pin_wsX30 hown hE hP hO 29 (sg_29 G h0 a _ _ _ _ _) rfl 2 (by decide) (hq _ pw_417) (fun _ h9 => h9) rfl dX3_put_36 ?_
          refine lv_icmp_ge (tgt := 51) hx hb dX3_put_39 (by decide) (fun c60 => ?_) (fun c60 => ?_)
          · have n61 : ht ≤ a9 := (nI_leI (a := ht) (b := a9) (by omega) (by omega)).mp c60
            have hO : OKW G h0 a (upd F 26 (nI ht)) (updR (updR R 7 (.ref (a 35))) 8 (.ref (a 34))) Z B J T Pi w := hO.to rfl
            exact W.vret hx hb hr (fun t99 ht99 hW99 => ⟨⟨_, (w, J), rfl, ⟨rfl, hO⟩, by rw [ht99]; exact hP, hD⟩, hS.F ht99⟩) hS.2.2 dX3_put_51
          · have n62 : ¬ (ht ≤ a9) := fun h9 => c60 ((nI_leI (a := ht) (b := a9) (by omega) (by omega)).mpr h9)
            refine lv_aload_n hx hb dX3_put_42 rfl (lv_at hl 1 rfl) ?_
            refine c_get (v := .ref (a 35)) (C := RX3) (Tc := TX3) (N := 5) (ci := 3) hx hb hq pin_wsX30 hown hE hP hO 29 (sg_29 G h0 a _ _ _ _ _) rfl 0 (by decide) (hq _ pw_415) (fun _ h9 => h9) rfl dX3_put_43 ?_
            refine lv_iload hx hb dX3_put_46 (lv_at hl 0 rfl) ?_
            refine lv_lload hx hb dX3_put_48 (lv_at hl 4 rfl) ?_
            refine c_stl (f := (J 35)) (n := 3008) (t0 := 2) hx hb hE hP hD hS hO 31 (sg_31 G h0 a _ _ _ _ _) rfl (vp_in_nI (by omega) (by decide)) (sj_35 G h0 a _ _ _ _ _ _) dX3_put_50 (fun H locs w hP hD hS hO => ?_)
            rw [(nI_clamp (show a9 < 2 ^ 31 by omega))] at hO
            have hO : OKW G h0 a (upd F 26 (nI ht)) (updR (updR R 7 (.ref (a 35))) 8 (.ref (a 34))) Z B (updJ J 35 (vp_updL (J 35) a9 y)) T Pi w := hO.to rfl
            exact W.vret hx hb hr (fun t99 ht99 hW99 => ⟨⟨_, (w, (updJ J 35 (vp_updL (J 35) a9 y))), rfl, ⟨rfl, hO⟩, by rw [ht99]; exact hP, hD⟩, hS.F ht99⟩) hS.2.2 dX3_put_51
theorem dX3_beginCollecting_0 : decode cX3_beginCollecting 0 = .ok (.aload_n 0, 1) := by decide +kernel
theorem dX3_beginCollecting_1 : decode cX3_beginCollecting 1 = .ok (.bipush 8, 2) := by decide +kernel
theorem dX3_beginCollecting_3 : decode cX3_beginCollecting 3 = .ok (.putfield 63, 3) := by decide +kernel
theorem dX3_beginCollecting_6 : decode cX3_beginCollecting 6 = .ok (.return_, 1) := by decide +kernel
set_option maxHeartbeats 2000000 in
set_option maxRecDepth 100000 in
theorem K_beginCollecting (l : Launch) (G : pT) (h0 : Nat) (a : Nat → Nat) (F : Nat → Int32) (R : Nat → Value) (Z : Int64) (B : Nat → Nat → Int32) (J : Nat → Nat → Int64) (T : Nat → Nat) (Pi : Nat → va_E → Prop) (w : va_W) (hO : OKW G h0 a F R Z B J T Pi w) : PM l G pX0 yX3_beginCollecting cX3_beginCollecting 1 none ({ frames := 2, cells := 0, slots := 0, locals := 60 }) [.ref (a 28)] w (fun (v : Option Value) (u : va_W × (Unit)) => v = none ∧ (OKW G h0 a (upd F 27 8) R Z B J T Pi u.1)) (fun u => u.1) := by
  intro sz
  refine Met.ofW (cc := cX3_beginCollecting) (maxL := 1) (ret := none) (by decide) rfl ?_
  intro p e s m args below meth c s₁ B9 hml hv
  obtain ⟨rfl, hsz, hP, hD0, hE, hX⟩ := hv
  have hx := B9.exec
  have hb := B9.bytes
  have hr := B9.returns
  have hts := atoms_spec (ws := Cond.code yX3_beginCollecting cX3_beginCollecting 1 none :: pw) B9.pre
  have hq : ∀ w ∈ pw, w.before _ s = true := fun w h => hts w (List.mem_cons_of_mem _ h)
  have hown : s.vm.findClass RX3 = some m.cls := findClass_of_methodNamed B9.named
  have hlocks := B9.notSynchronized
  subst hsz
  have hD := hD0.self (sz := s.heap.size)
  have hA : ∀ q : Nat, s.heap.size ≤ q → va_A w s.heap.size q := fun q h => Or.inr h
  generalize va_A w s.heap.size = A at hD hE hA ⊢
  have hS : va_S A s.heap s.heap [] := va_S.rf
  have hl := lv_entry ([.ref (a 28)]) (n := 1) (Nat.le_of_ble_eq_true rfl)
  rw [lg_entry_eq]
  generalize (lg_sl ([.ref (a 28)]) ++ List.replicate (1 - (lg_sl ([.ref (a 28)])).length) Slot.unset).toArray = ls at hl ⊢
  have hl : lv_has ls 1 [(0, .ref (a 28))] := hl
  refine lv_aload_n hx hb dX3_beginCollecting_0 rfl (lv_at hl 0 rfl) ?_
  refine lv_bipush (v := 8) hx hb dX3_beginCollecting_1 (by decide) ?_
  refine c_put (v := .int 8) (ty := .int) (C := RX3) (Tc := TX3) (N := 5) (ci := 3) hx hb hq pin_wsX30 tyX3 tyX3_ok nmX3 hown hE hP hD hS hO 29 (sg_29 G h0 a _ _ _ _ _) rfl 3 (by decide) (hq _ pw_458) (fun _ h9 => h9) rfl (by decide +kernel) rfl rfl (Nat.le_of_ble_eq_true rfl) (sf_27 G h0 a _ _ _ _ _ 8) dX3_beginCollecting_3 (fun H locs w hP hD hS hO => ?_)
  have hO : OKW G h0 a (upd F 27 8) R Z B J T Pi w := hO.to rfl
  exact W.vret hx hb hr (fun t99 ht99 hW99 => ⟨⟨_, (w, ()), rfl, ⟨rfl, hO⟩, by rw [ht99]; exact hP, hD⟩, hS.F ht99⟩) hS.2.2 dX3_beginCollecting_6
theorem dX3_moved_0 : decode cX3_moved 0 = .ok (.lload_n 1, 1) := by decide +kernel
theorem dX3_moved_1 : decode cX3_moved 1 = .ok (.l2i, 1) := by decide +kernel
theorem dX3_moved_2 : decode cX3_moved 2 = .ok (.istore_n 3, 1) := by decide +kernel
theorem dX3_moved_3 : decode cX3_moved 3 = .ok (.lload_n 1, 1) := by decide +kernel
theorem dX3_moved_4 : decode cX3_moved 4 = .ok (.ldc2_w 33, 3) := by decide +kernel
theorem dX3_moved_7 : decode cX3_moved 7 = .ok (.land, 1) := by decide +kernel
theorem dX3_moved_8 : decode cX3_moved 8 = .ok (.lconst 0, 1) := by decide +kernel
theorem dX3_moved_9 : decode cX3_moved 9 = .ok (.lcmp, 1) := by decide +kernel
theorem dX3_moved_10 : decode cX3_moved 10 = .ok (.ifCond .eq 17, 3) := by decide +kernel
theorem dX3_moved_27 : decode cX3_moved 27 = .ok (.lload_n 1, 1) := by decide +kernel
theorem dX3_moved_28 : decode cX3_moved 28 = .ok (.lreturn, 1) := by decide +kernel
theorem dX3_moved_13 : decode cX3_moved 13 = .ok (.iload_n 3, 1) := by decide +kernel
theorem dX3_moved_14 : decode cX3_moved 14 = .ok (.bipush 8, 2) := by decide +kernel
theorem dX3_moved_16 : decode cX3_moved 16 = .ok (.if_icmp .lt 11, 3) := by decide +kernel
theorem dX3_moved_19 : decode cX3_moved 19 = .ok (.iload_n 3, 1) := by decide +kernel
theorem dX3_moved_20 : decode cX3_moved 20 = .ok (.aload_n 0, 1) := by decide +kernel
theorem dX3_moved_21 : decode cX3_moved 21 = .ok (.getfield 20, 3) := by decide +kernel
theorem dX3_moved_24 : decode cX3_moved 24 = .ok (.if_icmp .lt 5, 3) := by decide +kernel
theorem dX3_moved_29 : decode cX3_moved 29 = .ok (.aload_n 0, 1) := by decide +kernel
theorem dX3_moved_30 : decode cX3_moved 30 = .ok (.getfield 13, 3) := by decide +kernel
theorem dX3_moved_33 : decode cX3_moved 33 = .ok (.iload_n 3, 1) := by decide +kernel
theorem dX3_moved_34 : decode cX3_moved 34 = .ok (.laload, 1) := by decide +kernel
theorem dX3_moved_35 : decode cX3_moved 35 = .ok (.lconst 0, 1) := by decide +kernel
theorem dX3_moved_36 : decode cX3_moved 36 = .ok (.lcmp, 1) := by decide +kernel
theorem dX3_moved_37 : decode cX3_moved 37 = .ok (.ifCond .ge 15, 3) := by decide +kernel
theorem dX3_moved_52 : decode cX3_moved 52 = .ok (.aload_n 0, 1) := by decide +kernel
theorem dX3_moved_53 : decode cX3_moved 53 = .ok (.getfield 13, 3) := by decide +kernel
theorem dX3_moved_56 : decode cX3_moved 56 = .ok (.iload_n 3, 1) := by decide +kernel
theorem dX3_moved_57 : decode cX3_moved 57 = .ok (.laload, 1) := by decide +kernel
theorem dX3_moved_58 : decode cX3_moved 58 = .ok (.bipush 8, 2) := by decide +kernel
theorem dX3_moved_60 : decode cX3_moved 60 = .ok (.lshr, 1) := by decide +kernel
theorem dX3_moved_61 : decode cX3_moved 61 = .ok (.l2i, 1) := by decide +kernel
theorem dX3_moved_62 : decode cX3_moved 62 = .ok (.istore 4, 2) := by decide +kernel
theorem dX3_moved_64 : decode cX3_moved 64 = .ok (.iload 4, 2) := by decide +kernel
theorem dX3_moved_66 : decode cX3_moved 66 = .ok (.ifCond .le 29, 3) := by decide +kernel
theorem dX3_moved_95 : decode cX3_moved 95 = .ok (.lconst 0, 1) := by decide +kernel
theorem dX3_moved_96 : decode cX3_moved 96 = .ok (.lreturn, 1) := by decide +kernel
theorem dX3_moved_69 : decode cX3_moved 69 = .ok (.iload 4, 2) := by decide +kernel
theorem dX3_moved_71 : decode cX3_moved 71 = .ok (.aload_n 0, 1) := by decide +kernel
theorem dX3_moved_72 : decode cX3_moved 72 = .ok (.getfield 20, 3) := by decide +kernel
theorem dX3_moved_75 : decode cX3_moved 75 = .ok (.iload_n 3, 1) := by decide +kernel
theorem dX3_moved_76 : decode cX3_moved 76 = .ok (.isub, 1) := by decide +kernel
theorem dX3_moved_77 : decode cX3_moved 77 = .ok (.if_icmp .gt 18, 3) := by decide +kernel
theorem dX3_moved_80 : decode cX3_moved 80 = .ok (.iload 4, 2) := by decide +kernel
theorem dX3_moved_82 : decode cX3_moved 82 = .ok (.aload_n 0, 1) := by decide +kernel
theorem dX3_moved_83 : decode cX3_moved 83 = .ok (.getfield 17, 3) := by decide +kernel
theorem dX3_moved_86 : decode cX3_moved 86 = .ok (.arraylength, 1) := by decide +kernel
theorem dX3_moved_87 : decode cX3_moved 87 = .ok (.aload_n 0, 1) := by decide +kernel
theorem dX3_moved_88 : decode cX3_moved 88 = .ok (.getfield 63, 3) := by decide +kernel
theorem dX3_moved_91 : decode cX3_moved 91 = .ok (.isub, 1) := by decide +kernel
theorem dX3_moved_92 : decode cX3_moved 92 = .ok (.if_icmp .le 5, 3) := by decide +kernel
theorem dX3_moved_97 : decode cX3_moved 97 = .ok (.aload_n 0, 1) := by decide +kernel
theorem dX3_moved_98 : decode cX3_moved 98 = .ok (.getfield 13, 3) := by decide +kernel
theorem dX3_moved_101 : decode cX3_moved 101 = .ok (.iload_n 3, 1) := by decide +kernel
theorem dX3_moved_102 : decode cX3_moved 102 = .ok (.aload_n 0, 1) := by decide +kernel
theorem dX3_moved_103 : decode cX3_moved 103 = .ok (.getfield 17, 3) := by decide +kernel
theorem dX3_moved_106 : decode cX3_moved 106 = .ok (.aload_n 0, 1) := by decide +kernel
theorem dX3_moved_107 : decode cX3_moved 107 = .ok (.getfield 63, 3) := by decide +kernel
theorem dX3_moved_110 : decode cX3_moved 110 = .ok (.iload 4, 2) := by decide +kernel
theorem dX3_moved_112 : decode cX3_moved 112 = .ok (.invokestatic 66, 3) := by decide +kernel
theorem dX3_moved_115 : decode cX3_moved 115 = .ok (.aload_n 0, 1) := by decide +kernel
theorem dX3_moved_116 : decode cX3_moved 116 = .ok (.getfield 13, 3) := by decide +kernel
theorem dX3_moved_119 : decode cX3_moved 119 = .ok (.iload_n 3, 1) := by decide +kernel
theorem dX3_moved_120 : decode cX3_moved 120 = .ok (.aload_n 0, 1) := by decide +kernel
theorem dX3_moved_121 : decode cX3_moved 121 = .ok (.getfield 63, 3) := by decide +kernel
theorem dX3_moved_124 : decode cX3_moved 124 = .ok (.ineg, 1) := by decide +kernel
theorem dX3_moved_125 : decode cX3_moved 125 = .ok (.i2l, 1) := by decide +kernel
theorem dX3_moved_126 : decode cX3_moved 126 = .ok (.lastore, 1) := by decide +kernel
theorem dX3_moved_127 : decode cX3_moved 127 = .ok (.aload_n 0, 1) := by decide +kernel
theorem dX3_moved_128 : decode cX3_moved 128 = .ok (.dup, 1) := by decide +kernel
theorem dX3_moved_129 : decode cX3_moved 129 = .ok (.getfield 63, 3) := by decide +kernel
theorem dX3_moved_132 : decode cX3_moved 132 = .ok (.iload 4, 2) := by decide +kernel
theorem dX3_moved_134 : decode cX3_moved 134 = .ok (.iadd, 1) := by decide +kernel
theorem dX3_moved_135 : decode cX3_moved 135 = .ok (.putfield 63, 3) := by decide +kernel
theorem dX3_moved_138 : decode cX3_moved 138 = .ok (.ldc2_w 33, 3) := by decide +kernel
theorem dX3_moved_141 : decode cX3_moved 141 = .ok (.aload_n 0, 1) := by decide +kernel
theorem dX3_moved_142 : decode cX3_moved 142 = .ok (.getfield 63, 3) := by decide +kernel
theorem dX3_moved_145 : decode cX3_moved 145 = .ok (.iload 4, 2) := by decide +kernel
theorem dX3_moved_147 : decode cX3_moved 147 = .ok (.isub, 1) := by decide +kernel
theorem dX3_moved_148 : decode cX3_moved 148 = .ok (.i2l, 1) := by decide +kernel
theorem dX3_moved_149 : decode cX3_moved 149 = .ok (.lor, 1) := by decide +kernel
theorem dX3_moved_150 : decode cX3_moved 150 = .ok (.lreturn, 1) := by decide +kernel
theorem dX3_moved_40 : decode cX3_moved 40 = .ok (.ldc2_w 33, 3) := by decide +kernel
theorem dX3_moved_43 : decode cX3_moved 43 = .ok (.aload_n 0, 1) := by decide +kernel
theorem dX3_moved_44 : decode cX3_moved 44 = .ok (.getfield 13, 3) := by decide +kernel
theorem dX3_moved_47 : decode cX3_moved 47 = .ok (.iload_n 3, 1) := by decide +kernel
theorem dX3_moved_48 : decode cX3_moved 48 = .ok (.laload, 1) := by decide +kernel
theorem dX3_moved_49 : decode cX3_moved 49 = .ok (.lneg, 1) := by decide +kernel
theorem dX3_moved_50 : decode cX3_moved 50 = .ok (.lor, 1) := by decide +kernel
theorem dX3_moved_51 : decode cX3_moved 51 = .ok (.lreturn, 1) := by decide +kernel
set_option maxHeartbeats 8000000 in
set_option maxRecDepth 100000 in
theorem K_moved (l : Launch) (G : pT) (h0 : Nat) (a : Nat → Nat) (F : Nat → Int32) (R : Nat → Value) (Z : Int64) (B : Nat → Nat → Int32) (J : Nat → Nat → Int64) (T : Nat → Nat) (Pi : Nat → va_E → Prop) (w : va_W) (x : Int64) (sp : Nat) (op : Nat) (ht : Nat) (ot : Nat) (hsp : (sp = 34 ∧ op = 35) ∨ (sp = 35 ∧ op = 34)) (hht : 8 ≤ ht ∧ ht ≤ 3008) (hot : 8 ≤ ot ∧ ot ≤ 3008) (hO : OKW G h0 a (upd (upd F 26 (nI ht)) 27 (nI ot)) (updR (updR R 7 (.ref (a sp))) 8 (.ref (a op))) Z B J T Pi w) : PM l G pX0 yX3_moved cX3_moved 5 (some .long) ({ frames := 2, cells := 0, slots := 0, locals := 60 }) [.ref (a 28), .long x] w (fun (v : Option Value) (u : va_W × (Nat × Int64 × (Nat → Nat → Int64))) => v = some (.long u.2.2.1) ∧ (8 ≤ u.2.1 ∧ u.2.1 ≤ 3008) ∧ (OKW G h0 a (upd (upd F 26 (nI ht)) 27 (nI u.2.1)) (updR (updR R 7 (.ref (a sp))) 8 (.ref (a op))) Z B u.2.2.2 T Pi u.1)) (fun u => u.1) := by
  intro sz
  refine Met.ofW (cc := cX3_moved) (maxL := 5) (ret := (some .long)) (by decide) rfl ?_
  intro p e s m args below meth c s₁ B9 hml hv
  obtain ⟨rfl, hsz, hP, hD0, hE, hX⟩ := hv
  have hx := B9.exec
  have hb := B9.bytes
  have hr := B9.returns
  have hts := atoms_spec (ws := Cond.code yX3_moved cX3_moved 5 (some .long) :: pw) B9.pre
  have hq : ∀ w ∈ pw, w.before _ s = true := fun w h => hts w (List.mem_cons_of_mem _ h)
  have hown : s.vm.findClass RX3 = some m.cls := findClass_of_methodNamed B9.named
  have hlocks := B9.notSynchronized
  subst hsz
  have hD := hD0.self (sz := s.heap.size)
  have hA : ∀ q : Nat, s.heap.size ≤ q → va_A w s.heap.size q := fun q h => Or.inr h
  generalize va_A w s.heap.size = A at hD hE hA ⊢
  have hS : va_S A s.heap s.heap [] := va_S.rf
  have hl := lv_entry ([.ref (a 28), .long x]) (n := 5) (Nat.le_of_ble_eq_true rfl)
  rw [lg_entry_eq]
  generalize (lg_sl ([.ref (a 28), .long x]) ++ List.replicate (5 - (lg_sl ([.ref (a 28), .long x])).length) Slot.unset).toArray = ls at hl ⊢
  have hl : lv_has ls 5 [(0, .ref (a 28)), (1, .long x)] := hl
  rcases hsp with ⟨rfl, rfl⟩ | ⟨rfl, rfl⟩
  · skip
    refine lv_lload_n hx hb dX3_moved_0 rfl (lv_at hl 1 rfl) ?_
    refine lv_l2i hx hb dX3_moved_1 rfl ?_
    refine lv_topi (fun x1 e2 => ?_)
    refine lv_istore_n (lv' := [(3, .int x1), (0, .ref (a 28)), (1, .long x)]) hx hb dX3_moved_2 rfl hl (by decide) rfl (fun ls hl => ?_)
    refine lv_lload_n hx hb dX3_moved_3 rfl (lv_at hl 2 rfl) ?_
    refine lv_ldc2 (v := 4294967296) hx hb hown (hq _ pw_424) dX3_moved_4 ?_
    refine lv_land hx hb dX3_moved_7 ?_
    refine lv_topl (fun x3 e4 => ?_)
    refine lv_lconst (v := 0) hx hb dX3_moved_8 (by decide) ?_
    refine W.lcmp hx hb dX3_moved_9 ?_
    refine lv_topi (fun x5 e6 => ?_)
    refine lv_if_eq (tgt := 27) hx hb dX3_moved_10 (by decide) (fun c7 => ?_) (fun c7 => ?_)
    · refine lv_lload_n hx hb dX3_moved_27 rfl (lv_at hl 2 rfl) ?_
      have hz8 : 8 ≤ ot ∧ ot ≤ 3008 := (by omega)
      have hO : OKW G h0 a (upd (upd F 26 (nI ht)) 27 (nI ot)) (updR (updR R 7 (.ref (a 34))) 8 (.ref (a 35))) Z B J T Pi w := hO.to rfl
      exact W.lret (v := x) hx hb hr (fun t99 ht99 hW99 => ⟨⟨_, (w, (ot, x, J)), rfl, ⟨rfl, hz8, hO⟩, by rw [ht99]; exact hP, hD⟩, hS.F ht99⟩) hS.2.2 dX3_moved_28
    · refine lv_iload_n hx hb dX3_moved_13 rfl (lv_at hl 0 rfl) ?_
      refine lv_bipush (v := 8) hx hb dX3_moved_14 (by decide) ?_
      refine lv_icmp_lt (tgt := 27) hx hb dX3_moved_16 (by decide) (fun c9 => ?_) (fun c9 => ?_)
      · refine lv_lload_n hx hb dX3_moved_27 rfl (lv_at hl 2 rfl) ?_
        have hz10 : 8 ≤ ot ∧ ot ≤ 3008 := (by omega)
        have hO : OKW G h0 a (upd (upd F 26 (nI ht)) 27 (nI ot)) (updR (updR R 7 (.ref (a 34))) 8 (.ref (a 35))) Z B J T Pi w := hO.to rfl
        exact W.lret (v := x) hx hb hr (fun t99 ht99 hW99 => ⟨⟨_, (w, (ot, x, J)), rfl, ⟨rfl, hz10, hO⟩, by rw [ht99]; exact hP, hD⟩, hS.F ht99⟩) hS.2.2 dX3_moved_28
      · obtain ⟨f9, ht_f9, hb_f9⟩ := nI_nn2 (lt8_nn c9)
        have cc11 := c9
        rw [ht_f9] at cc11
        have n12 : ¬ (f9 < 8) := fun h9 => cc11 ((nI_ltI (a := f9) (b := 8) (by omega) (by omega)).mpr h9)
        rw [ht_f9] at hl
        refine lv_iload_n hx hb dX3_moved_19 rfl (lv_at hl 0 rfl) ?_
        refine lv_aload_n hx hb dX3_moved_20 rfl (lv_at hl 1 rfl) ?_
        refine c_get (v := .int (nI ht)) (C := RX3) (Tc := TX3) (N := 5) (ci := 3) hx hb hq pin_wsX30 hown hE hP hO 29 (sg_29 G h0 a _ _ _ _ _) rfl 2 (by decide) (hq _ pw_417) (fun _ h9 => h9) rfl dX3_moved_21 ?_
        refine lv_icmp_lt (tgt := 29) hx hb dX3_moved_24 (by decide) (fun c13 => ?_) (fun c13 => ?_)
        · have n14 : f9 < ht := (nI_ltI (a := f9) (b := ht) (by omega) (by omega)).mp c13
          refine lv_aload_n hx hb dX3_moved_29 rfl (lv_at hl 1 rfl) ?_
          refine c_get (v := .ref (a 34)) (C := RX3) (Tc := TX3) (N := 5) (ci := 3) hx hb hq pin_wsX30 hown hE hP hO 29 (sg_29 G h0 a _ _ _ _ _) rfl 0 (by decide) (hq _ pw_415) (fun _ h9 => h9) rfl dX3_moved_30 ?_
          refine lv_iload_n hx hb dX3_moved_33 rfl (lv_at hl 0 rfl) ?_
          refine c_ldl (f := (J 34)) (n := 3008) (t0 := 2) hx hb hE hP hO 30 (sg_30 G h0 a _ _ _ _ _) rfl (vp_in_nI (by omega) (by decide)) dX3_moved_34 ?_
          rw [(nI_clamp (show f9 < 2 ^ 31 by omega))]
          refine lv_topl (fun x15 e16 => ?_)
          refine lv_lconst (v := 0) hx hb dX3_moved_35 (by decide) ?_
          refine W.lcmp hx hb dX3_moved_36 ?_
          refine lv_topi (fun x17 e18 => ?_)
          refine lv_if_ge (tgt := 52) hx hb dX3_moved_37 (by decide) (fun c19 => ?_) (fun c19 => ?_)
          · refine lv_aload_n hx hb dX3_moved_52 rfl (lv_at hl 1 rfl) ?_
            refine c_get (v := .ref (a 34)) (C := RX3) (Tc := TX3) (N := 5) (ci := 3) hx hb hq pin_wsX30 hown hE hP hO 29 (sg_29 G h0 a _ _ _ _ _) rfl 0 (by decide) (hq _ pw_415) (fun _ h9 => h9) rfl dX3_moved_53 ?_
            refine lv_iload_n hx hb dX3_moved_56 rfl (lv_at hl 0 rfl) ?_
            refine c_ldl (f := (J 34)) (n := 3008) (t0 := 2) hx hb hE hP hO 30 (sg_30 G h0 a _ _ _ _ _) rfl (vp_in_nI (by omega) (by decide)) dX3_moved_57 ?_
            rw [(nI_clamp (show f9 < 2 ^ 31 by omega))]
            refine lv_topl (fun x20 e21 => ?_)
            refine lv_bipush (v := 8) hx hb dX3_moved_58 (by decide) ?_
            refine lv_lshr hx hb dX3_moved_60 rfl ?_
            refine lv_topl (fun x22 e23 => ?_)
            refine lv_l2i hx hb dX3_moved_61 rfl ?_
            refine lv_topi (fun x24 e25 => ?_)
            refine lv_istore (lv' := [(4, .int x24), (3, .int (nI f9)), (0, .ref (a 28)), (1, .long x)]) hx hb dX3_moved_62 hl (by decide) rfl (fun ls hl => ?_)
            refine lv_iload hx hb dX3_moved_64 (lv_at hl 0 rfl) ?_
            refine lv_if_le (tgt := 95) hx hb dX3_moved_66 (by decide) (fun c26 => ?_) (fun c26 => ?_)
            · refine lv_lconst (v := 0) hx hb dX3_moved_95 (by decide) ?_
              have hz27 : 8 ≤ ot ∧ ot ≤ 3008 := (by omega)
              have hO : OKW G h0 a (upd (upd F 26 (nI ht)) 27 (nI ot)) (updR (updR R 7 (.ref (a 34))) 8 (.ref (a 35))) Z B J T Pi w := hO.to rfl
              exact W.lret (v := 0) hx hb hr (fun t99 ht99 hW99 => ⟨⟨_, (w, (ot, (0 : Int64), J)), rfl, ⟨rfl, hz27, hO⟩, by rw [ht99]; exact hP, hD⟩, hS.F ht99⟩) hS.2.2 dX3_moved_96
            · obtain ⟨c9, ht_c9, hb_c9⟩ := nI_nn2 (gt_nn (n := 0) (by omega) c26)
              have cc28 := c26
              rw [ht_c9] at cc28
              have n29 : ¬ (c9 ≤ 0) := fun h9 => cc28 ((nI_leI (a := c9) (b := 0) (by omega) (by omega)).mpr h9)
              rw [ht_c9] at hl
              refine lv_iload hx hb dX3_moved_69 (lv_at hl 0 rfl) ?_
              refine lv_aload_n hx hb dX3_moved_71 rfl (lv_at hl 2 rfl) ?_
              refine c_get (v := .int (nI ht)) (C := RX3) (Tc := TX3) (N := 5) (ci := 3) hx hb hq pin_wsX30 hown hE hP hO 29 (sg_29 G h0 a _ _ _ _ _) rfl 2 (by decide) (hq _ pw_417) (fun _ h9 => h9) rfl dX3_moved_72 ?_
              refine lv_iload_n hx hb dX3_moved_75 rfl (lv_at hl 1 rfl) ?_
              refine lv_isub hx hb dX3_moved_76 ?_
              refine lv_topi (fun x30 e31 => ?_)
              obtain rfl : x30 = nI (ht - f9) := e31.trans (nI_subN (a := f9) (b := ht) (by omega))
              refine lv_icmp_gt (tgt := 95) hx hb dX3_moved_77 (by decide) (fun c32 => ?_) (fun c32 => ?_)
              · have n33 : (ht - f9) < c9 := (nI_ltI (a := (ht - f9)) (b := c9) (by omega) (by omega)).mp c32
                refine lv_lconst (v := 0) hx hb dX3_moved_95 (by decide) ?_
                have hz34 : 8 ≤ ot ∧ ot ≤ 3008 := (by omega)
                have hO : OKW G h0 a (upd (upd F 26 (nI ht)) 27 (nI ot)) (updR (updR R 7 (.ref (a 34))) 8 (.ref (a 35))) Z B J T Pi w := hO.to rfl
                exact W.lret (v := 0) hx hb hr (fun t99 ht99 hW99 => ⟨⟨_, (w, (ot, (0 : Int64), J)), rfl, ⟨rfl, hz34, hO⟩, by rw [ht99]; exact hP, hD⟩, hS.F ht99⟩) hS.2.2 dX3_moved_96
              · have n35 : ¬ ((ht - f9) < c9) := fun h9 => c32 ((nI_ltI (a := (ht - f9)) (b := c9) (by omega) (by omega)).mpr h9)
                refine lv_iload hx hb dX3_moved_80 (lv_at hl 0 rfl) ?_
                refine lv_aload_n hx hb dX3_moved_82 rfl (lv_at hl 2 rfl) ?_
                refine c_get (v := .ref (a 35)) (C := RX3) (Tc := TX3) (N := 5) (ci := 3) hx hb hq pin_wsX30 hown hE hP hO 29 (sg_29 G h0 a _ _ _ _ _) rfl 1 (by decide) (hq _ pw_416) (fun _ h9 => h9) rfl dX3_moved_83 ?_
                refine c_len (n := 0) (t0 := 2) (v := 3008) hx hb hE hP hO 31 (sg_31 G h0 a _ _ _ _ _) rfl rfl dX3_moved_86 ?_
                refine lv_aload_n hx hb dX3_moved_87 rfl (lv_at hl 2 rfl) ?_
                refine c_get (v := .int (nI ot)) (C := RX3) (Tc := TX3) (N := 5) (ci := 3) hx hb hq pin_wsX30 hown hE hP hO 29 (sg_29 G h0 a _ _ _ _ _) rfl 3 (by decide) (hq _ pw_458) (fun _ h9 => h9) rfl dX3_moved_88 ?_
                refine lv_isub hx hb dX3_moved_91 ?_
                refine lv_topi (fun x36 e37 => ?_)
                obtain rfl : x36 = nI (3008 - ot) := e37.trans (nI_subN (a := ot) (b := 3008) (by omega))
                refine lv_icmp_le (tgt := 97) hx hb dX3_moved_92 (by decide) (fun c38 => ?_) (fun c38 => ?_)
                · have n39 : c9 ≤ (3008 - ot) := (nI_leI (a := c9) (b := (3008 - ot)) (by omega) (by omega)).mp c38
                  refine lv_aload_n hx hb dX3_moved_97 rfl (lv_at hl 2 rfl) ?_
                  refine c_get (v := .ref (a 34)) (C := RX3) (Tc := TX3) (N := 5) (ci := 3) hx hb hq pin_wsX30 hown hE hP hO 29 (sg_29 G h0 a _ _ _ _ _) rfl 0 (by decide) (hq _ pw_415) (fun _ h9 => h9) rfl dX3_moved_98 ?_
                  refine lv_iload_n hx hb dX3_moved_101 rfl (lv_at hl 1 rfl) ?_
                  refine lv_aload_n hx hb dX3_moved_102 rfl (lv_at hl 2 rfl) ?_
                  refine c_get (v := .ref (a 35)) (C := RX3) (Tc := TX3) (N := 5) (ci := 3) hx hb hq pin_wsX30 hown hE hP hO 29 (sg_29 G h0 a _ _ _ _ _) rfl 1 (by decide) (hq _ pw_416) (fun _ h9 => h9) rfl dX3_moved_103 ?_
                  refine lv_aload_n hx hb dX3_moved_106 rfl (lv_at hl 2 rfl) ?_
                  refine c_get (v := .int (nI ot)) (C := RX3) (Tc := TX3) (N := 5) (ci := 3) hx hb hq pin_wsX30 hown hE hP hO 29 (sg_29 G h0 a _ _ _ _ _) rfl 3 (by decide) (hq _ pw_458) (fun _ h9 => h9) rfl dX3_moved_107 ?_
                  refine lv_iload hx hb dX3_moved_110 (lv_at hl 0 rfl) ?_
                  refine c_copyl (own := RX3) hx hb (by rw [hml]; exact hl.1.symm) hown (hq _ pw_460) (hq _ pw_461) (hq _ pw_462) (hq _ pw_463) hE hP hD hS hO 30 31 (sg_30 G h0 a _ _ _ _ _) (sg_31 G h0 a _ _ _ _ _) (nI_pos (by omega)) (nI_pos (by omega)) (nI_pos (by omega)) (by rw [nI_clamp (show f9 < 2 ^ 31 by omega), nI_clamp (show c9 < 2 ^ 31 by omega)]; omega) (by rw [nI_clamp (show ot < 2 ^ 31 by omega), nI_clamp (show c9 < 2 ^ 31 by omega)]; omega) (Nat.le_of_ble_eq_true rfl) (by decide) (sj_35 G h0 a _ _ _ _ _ _) dX3_moved_112 (fun H locs w hP hD hS hO => ?_)
                  generalize va_cpy _ _ _ _ _ = jn40 at hO
                  have hO : OKW G h0 a (upd (upd F 26 (nI ht)) 27 (nI ot)) (updR (updR R 7 (.ref (a 34))) 8 (.ref (a 35))) Z B (updJ J 35 jn40) T Pi w := hO.to rfl
                  refine lv_aload_n hx hb dX3_moved_115 rfl (lv_at hl 2 rfl) ?_
                  refine c_get (v := .ref (a 34)) (C := RX3) (Tc := TX3) (N := 5) (ci := 3) hx hb hq pin_wsX30 hown hE hP hO 29 (sg_29 G h0 a _ _ _ _ _) rfl 0 (by decide) (hq _ pw_415) (fun _ h9 => h9) rfl dX3_moved_116 ?_
                  refine lv_iload_n hx hb dX3_moved_119 rfl (lv_at hl 1 rfl) ?_
                  refine lv_aload_n hx hb dX3_moved_120 rfl (lv_at hl 2 rfl) ?_
                  refine c_get (v := .int (nI ot)) (C := RX3) (Tc := TX3) (N := 5) (ci := 3) hx hb hq pin_wsX30 hown hE hP hO 29 (sg_29 G h0 a _ _ _ _ _) rfl 3 (by decide) (hq _ pw_458) (fun _ h9 => h9) rfl dX3_moved_121 ?_
                  refine lv_ineg hx hb dX3_moved_124 ?_
                  refine lv_topi (fun x41 e42 => ?_)
                  refine lv_i2l hx hb dX3_moved_125 rfl ?_
                  refine lv_topl (fun x43 e44 => ?_)
                  refine c_stl (f := (J 34)) (n := 3008) (t0 := 2) hx hb hE hP hD hS hO 30 (sg_30 G h0 a _ _ _ _ _) rfl (vp_in_nI (by omega) (by decide)) (sj_34 G h0 a _ _ _ _ _ _) dX3_moved_126 (fun H locs w hP hD hS hO => ?_)
                  rw [(nI_clamp (show f9 < 2 ^ 31 by omega))] at hO
                  refine lv_aload_n hx hb dX3_moved_127 rfl (lv_at hl 2 rfl) ?_
                  refine lv_dup hx hb dX3_moved_128 rfl ?_
                  refine c_get (v := .int (nI ot)) (C := RX3) (Tc := TX3) (N := 5) (ci := 3) hx hb hq pin_wsX30 hown hE hP hO 29 (sg_29 G h0 a _ _ _ _ _) rfl 3 (by decide) (hq _ pw_458) (fun _ h9 => h9) rfl dX3_moved_129 ?_
                  refine lv_iload hx hb dX3_moved_132 (lv_at hl 0 rfl) ?_
                  refine lv_iadd hx hb dX3_moved_134 ?_
                  refine lv_topi (fun x45 e46 => ?_)
                  obtain rfl : x45 = nI (ot + c9) := e46.trans (nI_add (ot) (c9))
                  refine c_put (v := .int (nI (ot + c9))) (ty := .int) (C := RX3) (Tc := TX3) (N := 5) (ci := 3) hx hb hq pin_wsX30 tyX3 tyX3_ok nmX3 hown hE hP hD hS hO 29 (sg_29 G h0 a _ _ _ _ _) rfl 3 (by decide) (hq _ pw_458) (fun _ h9 => h9) rfl (by decide +kernel) rfl rfl (Nat.le_of_ble_eq_true rfl) (sf_27 G h0 a _ _ _ _ _ (nI (ot + c9))) dX3_moved_135 (fun H locs w hP hD hS hO => ?_)
                  refine lv_ldc2 (v := 4294967296) hx hb hown (hq _ pw_424) dX3_moved_138 ?_
                  refine lv_aload_n hx hb dX3_moved_141 rfl (lv_at hl 2 rfl) ?_
                  refine c_get (v := .int (nI (ot + c9))) (C := RX3) (Tc := TX3) (N := 5) (ci := 3) hx hb hq pin_wsX30 hown hE hP hO 29 (sg_29 G h0 a _ _ _ _ _) rfl 3 (by decide) (hq _ pw_458) (fun _ h9 => h9) rfl dX3_moved_142 ?_
                  refine lv_iload hx hb dX3_moved_145 (lv_at hl 0 rfl) ?_
                  refine lv_isub hx hb dX3_moved_147 ?_
                  refine lv_topi (fun x47 e48 => ?_)
                  obtain rfl : x47 = nI ((ot + c9) - c9) := e48.trans (nI_subN (a := c9) (b := (ot + c9)) (by omega))
                  refine lv_i2l hx hb dX3_moved_148 rfl ?_
                  refine lv_topl (fun x49 e50 => ?_)
                  refine lv_lor hx hb dX3_moved_149 ?_
                  refine lv_topl (fun x51 e52 => ?_)
                  have hz53 : 8 ≤ (ot + c9) ∧ (ot + c9) ≤ 3008 := (by omega)
                  have hO : OKW G h0 a (upd (upd F 26 (nI ht)) 27 (nI (ot + c9))) (updR (updR R 7 (.ref (a 34))) 8 (.ref (a 35))) Z B (updJ (updJ J 34 (vp_updL (J 34) f9 x43)) 35 jn40) T Pi w := hO.to rfl
                  exact W.lret (v := x51) hx hb hr (fun t99 ht99 hW99 => ⟨⟨_, (w, ((ot + c9), x51, (updJ (updJ J 34 (vp_updL (J 34) f9 x43)) 35 jn40))), rfl, ⟨rfl, hz53, hO⟩, by rw [ht99]; exact hP, hD⟩, hS.F ht99⟩) hS.2.2 dX3_moved_150
                · have n54 : ¬ (c9 ≤ (3008 - ot)) := fun h9 => c38 ((nI_leI (a := c9) (b := (3008 - ot)) (by omega) (by omega)).mpr h9)
                  refine lv_lconst (v := 0) hx hb dX3_moved_95 (by decide) ?_
                  have hz55 : 8 ≤ ot ∧ ot ≤ 3008 := (by omega)
                  have hO : OKW G h0 a (upd (upd F 26 (nI ht)) 27 (nI ot)) (updR (updR R 7 (.ref (a 34))) 8 (.ref (a 35))) Z B J T Pi w := hO.to rfl
                  exact W.lret (v := 0) hx hb hr (fun t99 ht99 hW99 => ⟨⟨_, (w, (ot, (0 : Int64), J)), rfl, ⟨rfl, hz55, hO⟩, by rw [ht99]; exact hP, hD⟩, hS.F ht99⟩) hS.2.2 dX3_moved_96
          · refine lv_ldc2 (v := 4294967296) hx hb hown (hq _ pw_424) dX3_moved_40 ?_
            refine lv_aload_n hx hb dX3_moved_43 rfl (lv_at hl 1 rfl) ?_
            refine c_get (v := .ref (a 34)) (C := RX3) (Tc := TX3) (N := 5) (ci := 3) hx hb hq pin_wsX30 hown hE hP hO 29 (sg_29 G h0 a _ _ _ _ _) rfl 0 (by decide) (hq _ pw_415) (fun _ h9 => h9) rfl dX3_moved_44 ?_
            refine lv_iload_n hx hb dX3_moved_47 rfl (lv_at hl 0 rfl) ?_
            refine c_ldl (f := (J 34)) (n := 3008) (t0 := 2) hx hb hE hP hO 30 (sg_30 G h0 a _ _ _ _ _) rfl (vp_in_nI (by omega) (by decide)) dX3_moved_48 ?_
            rw [(nI_clamp (show f9 < 2 ^ 31 by omega))]
            refine lv_topl (fun x56 e57 => ?_)
            refine lv_lneg hx hb dX3_moved_49 ?_
            refine lv_topl (fun x58 e59 => ?_)
            refine lv_lor hx hb dX3_moved_50 ?_
            refine lv_topl (fun x60 e61 => ?_)
            have hz62 : 8 ≤ ot ∧ ot ≤ 3008 := (by omega)
            have hO : OKW G h0 a (upd (upd F 26 (nI ht)) 27 (nI ot)) (updR (updR R 7 (.ref (a 34))) 8 (.ref (a 35))) Z B J T Pi w := hO.to rfl
            exact W.lret (v := x60) hx hb hr (fun t99 ht99 hW99 => ⟨⟨_, (w, (ot, x60, J)), rfl, ⟨rfl, hz62, hO⟩, by rw [ht99]; exact hP, hD⟩, hS.F ht99⟩) hS.2.2 dX3_moved_51
        · have n63 : ¬ (f9 < ht) := fun h9 => c13 ((nI_ltI (a := f9) (b := ht) (by omega) (by omega)).mpr h9)
          refine lv_lload_n hx hb dX3_moved_27 rfl (lv_at hl 2 rfl) ?_
          have hz64 : 8 ≤ ot ∧ ot ≤ 3008 := (by omega)
          have hO : OKW G h0 a (upd (upd F 26 (nI ht)) 27 (nI ot)) (updR (updR R 7 (.ref (a 34))) 8 (.ref (a 35))) Z B J T Pi w := hO.to rfl
          exact W.lret (v := x) hx hb hr (fun t99 ht99 hW99 => ⟨⟨_, (w, (ot, x, J)), rfl, ⟨rfl, hz64, hO⟩, by rw [ht99]; exact hP, hD⟩, hS.F ht99⟩) hS.2.2 dX3_moved_28
  · skip
    refine lv_lload_n hx hb dX3_moved_0 rfl (lv_at hl 1 rfl) ?_
    refine lv_l2i hx hb dX3_moved_1 rfl ?_
    refine lv_topi (fun x65 e66 => ?_)
    refine lv_istore_n (lv' := [(3, .int x65), (0, .ref (a 28)), (1, .long x)]) hx hb dX3_moved_2 rfl hl (by decide) rfl (fun ls hl => ?_)
    refine lv_lload_n hx hb dX3_moved_3 rfl (lv_at hl 2 rfl) ?_
    refine lv_ldc2 (v := 4294967296) hx hb hown (hq _ pw_424) dX3_moved_4 ?_
    refine lv_land hx hb dX3_moved_7 ?_
    refine lv_topl (fun x67 e68 => ?_)
    refine lv_lconst (v := 0) hx hb dX3_moved_8 (by decide) ?_
    refine W.lcmp hx hb dX3_moved_9 ?_
    refine lv_topi (fun x69 e70 => ?_)
    refine lv_if_eq (tgt := 27) hx hb dX3_moved_10 (by decide) (fun c71 => ?_) (fun c71 => ?_)
    · refine lv_lload_n hx hb dX3_moved_27 rfl (lv_at hl 2 rfl) ?_
      have hz72 : 8 ≤ ot ∧ ot ≤ 3008 := (by omega)
      have hO : OKW G h0 a (upd (upd F 26 (nI ht)) 27 (nI ot)) (updR (updR R 7 (.ref (a 35))) 8 (.ref (a 34))) Z B J T Pi w := hO.to rfl
      exact W.lret (v := x) hx hb hr (fun t99 ht99 hW99 => ⟨⟨_, (w, (ot, x, J)), rfl, ⟨rfl, hz72, hO⟩, by rw [ht99]; exact hP, hD⟩, hS.F ht99⟩) hS.2.2 dX3_moved_28
    · refine lv_iload_n hx hb dX3_moved_13 rfl (lv_at hl 0 rfl) ?_
      refine lv_bipush (v := 8) hx hb dX3_moved_14 (by decide) ?_
      refine lv_icmp_lt (tgt := 27) hx hb dX3_moved_16 (by decide) (fun c73 => ?_) (fun c73 => ?_)
      · refine lv_lload_n hx hb dX3_moved_27 rfl (lv_at hl 2 rfl) ?_
        have hz74 : 8 ≤ ot ∧ ot ≤ 3008 := (by omega)
        have hO : OKW G h0 a (upd (upd F 26 (nI ht)) 27 (nI ot)) (updR (updR R 7 (.ref (a 35))) 8 (.ref (a 34))) Z B J T Pi w := hO.to rfl
        exact W.lret (v := x) hx hb hr (fun t99 ht99 hW99 => ⟨⟨_, (w, (ot, x, J)), rfl, ⟨rfl, hz74, hO⟩, by rw [ht99]; exact hP, hD⟩, hS.F ht99⟩) hS.2.2 dX3_moved_28
      · obtain ⟨f9, ht_f9, hb_f9⟩ := nI_nn2 (lt8_nn c73)
        have cc75 := c73
        rw [ht_f9] at cc75
        have n76 : ¬ (f9 < 8) := fun h9 => cc75 ((nI_ltI (a := f9) (b := 8) (by omega) (by omega)).mpr h9)
        rw [ht_f9] at hl
        refine lv_iload_n hx hb dX3_moved_19 rfl (lv_at hl 0 rfl) ?_
        refine lv_aload_n hx hb dX3_moved_20 rfl (lv_at hl 1 rfl) ?_
        refine c_get (v := .int (nI ht)) (C := RX3) (Tc := TX3) (N := 5) (ci := 3) hx hb hq pin_wsX30 hown hE hP hO 29 (sg_29 G h0 a _ _ _ _ _) rfl 2 (by decide) (hq _ pw_417) (fun _ h9 => h9) rfl dX3_moved_21 ?_
        refine lv_icmp_lt (tgt := 29) hx hb dX3_moved_24 (by decide) (fun c77 => ?_) (fun c77 => ?_)
        · have n78 : f9 < ht := (nI_ltI (a := f9) (b := ht) (by omega) (by omega)).mp c77
          refine lv_aload_n hx hb dX3_moved_29 rfl (lv_at hl 1 rfl) ?_
          refine c_get (v := .ref (a 35)) (C := RX3) (Tc := TX3) (N := 5) (ci := 3) hx hb hq pin_wsX30 hown hE hP hO 29 (sg_29 G h0 a _ _ _ _ _) rfl 0 (by decide) (hq _ pw_415) (fun _ h9 => h9) rfl dX3_moved_30 ?_
          refine lv_iload_n hx hb dX3_moved_33 rfl (lv_at hl 0 rfl) ?_
          refine c_ldl (f := (J 35)) (n := 3008) (t0 := 2) hx hb hE hP hO 31 (sg_31 G h0 a _ _ _ _ _) rfl (vp_in_nI (by omega) (by decide)) dX3_moved_34 ?_
          rw [(nI_clamp (show f9 < 2 ^ 31 by omega))]
          refine lv_topl (fun x79 e80 => ?_)
          refine lv_lconst (v := 0) hx hb dX3_moved_35 (by decide) ?_
          refine W.lcmp hx hb dX3_moved_36 ?_
          refine lv_topi (fun x81 e82 => ?_)
          refine lv_if_ge (tgt := 52) hx hb dX3_moved_37 (by decide) (fun c83 => ?_) (fun c83 => ?_)
          · refine lv_aload_n hx hb dX3_moved_52 rfl (lv_at hl 1 rfl) ?_
            refine c_get (v := .ref (a 35)) (C := RX3) (Tc := TX3) (N := 5) (ci := 3) hx hb hq pin_wsX30 hown hE hP hO 29 (sg_29 G h0 a _ _ _ _ _) rfl 0 (by decide) (hq _ pw_415) (fun _ h9 => h9) rfl dX3_moved_53 ?_
            refine lv_iload_n hx hb dX3_moved_56 rfl (lv_at hl 0 rfl) ?_
            refine c_ldl (f := (J 35)) (n := 3008) (t0 := 2) hx hb hE hP hO 31 (sg_31 G h0 a _ _ _ _ _) rfl (vp_in_nI (by omega) (by decide)) dX3_moved_57 ?_
            rw [(nI_clamp (show f9 < 2 ^ 31 by omega))]
            refine lv_topl (fun x84 e85 => ?_)
            refine lv_bipush (v := 8) hx hb dX3_moved_58 (by decide) ?_
            refine lv_lshr hx hb dX3_moved_60 rfl ?_
            refine lv_topl (fun x86 e87 => ?_)
            refine lv_l2i hx hb dX3_moved_61 rfl ?_
            refine lv_topi (fun x88 e89 => ?_)
            refine lv_istore (lv' := [(4, .int x88), (3, .int (nI f9)), (0, .ref (a 28)), (1, .long x)]) hx hb dX3_moved_62 hl (by decide) rfl (fun ls hl => ?_)
            refine lv_iload hx hb dX3_moved_64 (lv_at hl 0 rfl) ?_
            refine lv_if_le (tgt := 95) hx hb dX3_moved_66 (by decide) (fun c90 => ?_) (fun c90 => ?_)
            · refine lv_lconst (v := 0) hx hb dX3_moved_95 (by decide) ?_
              have hz91 : 8 ≤ ot ∧ ot ≤ 3008 := (by omega)
              have hO : OKW G h0 a (upd (upd F 26 (nI ht)) 27 (nI ot)) (updR (updR R 7 (.ref (a 35))) 8 (.ref (a 34))) Z B J T Pi w := hO.to rfl
              exact W.lret (v := 0) hx hb hr (fun t99 ht99 hW99 => ⟨⟨_, (w, (ot, (0 : Int64), J)), rfl, ⟨rfl, hz91, hO⟩, by rw [ht99]; exact hP, hD⟩, hS.F ht99⟩) hS.2.2 dX3_moved_96
            · obtain ⟨c9, ht_c9, hb_c9⟩ := nI_nn2 (gt_nn (n := 0) (by omega) c90)
              have cc92 := c90
              rw [ht_c9] at cc92
              have n93 : ¬ (c9 ≤ 0) := fun h9 => cc92 ((nI_leI (a := c9) (b := 0) (by omega) (by omega)).mpr h9)
              rw [ht_c9] at hl
              refine lv_iload hx hb dX3_moved_69 (lv_at hl 0 rfl) ?_
              refine lv_aload_n hx hb dX3_moved_71 rfl (lv_at hl 2 rfl) ?_
              refine c_get (v := .int (nI ht)) (C := RX3) (Tc := TX3) (N := 5) (ci := 3) hx hb hq pin_wsX30 hown hE hP hO 29 (sg_29 G h0 a _ _ _ _ _) rfl 2 (by decide) (hq _ pw_417) (fun _ h9 => h9) rfl dX3_moved_72 ?_
              refine lv_iload_n hx hb dX3_moved_75 rfl (lv_at hl 1 rfl) ?_
              refine lv_isub hx hb dX3_moved_76 ?_
              refine lv_topi (fun x94 e95 => ?_)
              obtain rfl : x94 = nI (ht - f9) := e95.trans (nI_subN (a := f9) (b := ht) (by omega))
              refine lv_icmp_gt (tgt := 95) hx hb dX3_moved_77 (by decide) (fun c96 => ?_) (fun c96 => ?_)
              · have n97 : (ht - f9) < c9 := (nI_ltI (a := (ht - f9)) (b := c9) (by omega) (by omega)).mp c96
                refine lv_lconst (v := 0) hx hb dX3_moved_95 (by decide) ?_
                have hz98 : 8 ≤ ot ∧ ot ≤ 3008 := (by omega)
                have hO : OKW G h0 a (upd (upd F 26 (nI ht)) 27 (nI ot)) (updR (updR R 7 (.ref (a 35))) 8 (.ref (a 34))) Z B J T Pi w := hO.to rfl
                exact W.lret (v := 0) hx hb hr (fun t99 ht99 hW99 => ⟨⟨_, (w, (ot, (0 : Int64), J)), rfl, ⟨rfl, hz98, hO⟩, by rw [ht99]; exact hP, hD⟩, hS.F ht99⟩) hS.2.2 dX3_moved_96
              · have n99 : ¬ ((ht - f9) < c9) := fun h9 => c96 ((nI_ltI (a := (ht - f9)) (b := c9) (by omega) (by omega)).mpr h9)
                refine lv_iload hx hb dX3_moved_80 (lv_at hl 0 rfl) ?_
                refine lv_aload_n hx hb dX3_moved_82 rfl (lv_at hl 2 rfl) ?_
                refine c_get (v := .ref (a 34)) (C := RX3) (Tc := TX3) (N := 5) (ci := 3) hx hb hq pin_wsX30 hown hE hP hO 29 (sg_29 G h0 a _ _ _ _ _) rfl 1 (by decide) (hq _ pw_416) (fun _ h9 => h9) rfl dX3_moved_83 ?_
                refine c_len (n := 0) (t0 := 2) (v := 3008) hx hb hE hP hO 30 (sg_30 G h0 a _ _ _ _ _) rfl rfl dX3_moved_86 ?_
                refine lv_aload_n hx hb dX3_moved_87 rfl (lv_at hl 2 rfl) ?_
                refine c_get (v := .int (nI ot)) (C := RX3) (Tc := TX3) (N := 5) (ci := 3) hx hb hq pin_wsX30 hown hE hP hO 29 (sg_29 G h0 a _ _ _ _ _) rfl 3 (by decide) (hq _ pw_458) (fun _ h9 => h9) rfl dX3_moved_88 ?_
                refine lv_isub hx hb dX3_moved_91 ?_
                refine lv_topi (fun x100 e101 => ?_)
                obtain rfl : x100 = nI (3008 - ot) := e101.trans (nI_subN (a := ot) (b := 3008) (by omega))
                refine lv_icmp_le (tgt := 97) hx hb dX3_moved_92 (by decide) (fun c102 => ?_) (fun c102 => ?_)
                · have n103 : c9 ≤ (3008 - ot) := (nI_leI (a := c9) (b := (3008 - ot)) (by omega) (by omega)).mp c102
                  refine lv_aload_n hx hb dX3_moved_97 rfl (lv_at hl 2 rfl) ?_
                  refine c_get (v := .ref (a 35)) (C := RX3) (Tc := TX3) (N := 5) (ci := 3) hx hb hq pin_wsX30 hown hE hP hO 29 (sg_29 G h0 a _ _ _ _ _) rfl 0 (by decide) (hq _ pw_415) (fun _ h9 => h9) rfl dX3_moved_98 ?_
                  refine lv_iload_n hx hb dX3_moved_101 rfl (lv_at hl 1 rfl) ?_
                  refine lv_aload_n hx hb dX3_moved_102 rfl (lv_at hl 2 rfl) ?_
                  refine c_get (v := .ref (a 34)) (C := RX3) (Tc := TX3) (N := 5) (ci := 3) hx hb hq pin_wsX30 hown hE hP hO 29 (sg_29 G h0 a _ _ _ _ _) rfl 1 (by decide) (hq _ pw_416) (fun _ h9 => h9) rfl dX3_moved_103 ?_
                  refine lv_aload_n hx hb dX3_moved_106 rfl (lv_at hl 2 rfl) ?_
                  refine c_get (v := .int (nI ot)) (C := RX3) (Tc := TX3) (N := 5) (ci := 3) hx hb hq pin_wsX30 hown hE hP hO 29 (sg_29 G h0 a _ _ _ _ _) rfl 3 (by decide) (hq _ pw_458) (fun _ h9 => h9) rfl dX3_moved_107 ?_
                  refine lv_iload hx hb dX3_moved_110 (lv_at hl 0 rfl) ?_
                  refine c_copyl (own := RX3) hx hb (by rw [hml]; exact hl.1.symm) hown (hq _ pw_460) (hq _ pw_461) (hq _ pw_462) (hq _ pw_463) hE hP hD hS hO 31 30 (sg_31 G h0 a _ _ _ _ _) (sg_30 G h0 a _ _ _ _ _) (nI_pos (by omega)) (nI_pos (by omega)) (nI_pos (by omega)) (by rw [nI_clamp (show f9 < 2 ^ 31 by omega), nI_clamp (show c9 < 2 ^ 31 by omega)]; omega) (by rw [nI_clamp (show ot < 2 ^ 31 by omega), nI_clamp (show c9 < 2 ^ 31 by omega)]; omega) (Nat.le_of_ble_eq_true rfl) (by decide) (sj_34 G h0 a _ _ _ _ _ _) dX3_moved_112 (fun H locs w hP hD hS hO => ?_)
                  generalize va_cpy _ _ _ _ _ = jn104 at hO
                  have hO : OKW G h0 a (upd (upd F 26 (nI ht)) 27 (nI ot)) (updR (updR R 7 (.ref (a 35))) 8 (.ref (a 34))) Z B (updJ J 34 jn104) T Pi w := hO.to rfl
                  refine lv_aload_n hx hb dX3_moved_115 rfl (lv_at hl 2 rfl) ?_
                  refine c_get (v := .ref (a 35)) (C := RX3) (Tc := TX3) (N := 5) (ci := 3) hx hb hq pin_wsX30 hown hE hP hO 29 (sg_29 G h0 a _ _ _ _ _) rfl 0 (by decide) (hq _ pw_415) (fun _ h9 => h9) rfl dX3_moved_116 ?_
                  refine lv_iload_n hx hb dX3_moved_119 rfl (lv_at hl 1 rfl) ?_
                  refine lv_aload_n hx hb dX3_moved_120 rfl (lv_at hl 2 rfl) ?_
                  refine c_get (v := .int (nI ot)) (C := RX3) (Tc := TX3) (N := 5) (ci := 3) hx hb hq pin_wsX30 hown hE hP hO 29 (sg_29 G h0 a _ _ _ _ _) rfl 3 (by decide) (hq _ pw_458) (fun _ h9 => h9) rfl dX3_moved_121 ?_
                  refine lv_ineg hx hb dX3_moved_124 ?_
                  refine lv_topi (fun x105 e106 => ?_)
                  refine lv_i2l hx hb dX3_moved_125 rfl ?_
                  refine lv_topl (fun x107 e108 => ?_)
                  refine c_stl (f := (J 35)) (n := 3008) (t0 := 2) hx hb hE hP hD hS hO 31 (sg_31 G h0 a _ _ _ _ _) rfl (vp_in_nI (by omega) (by decide)) (sj_35 G h0 a _ _ _ _ _ _) dX3_moved_126 (fun H locs w hP hD hS hO => ?_)
                  rw [(nI_clamp (show f9 < 2 ^ 31 by omega))] at hO
                  refine lv_aload_n hx hb dX3_moved_127 rfl (lv_at hl 2 rfl) ?_
                  refine lv_dup hx hb dX3_moved_128 rfl ?_
                  refine c_get (v := .int (nI ot)) (C := RX3) (Tc := TX3) (N := 5) (ci := 3) hx hb hq pin_wsX30 hown hE hP hO 29 (sg_29 G h0 a _ _ _ _ _) rfl 3 (by decide) (hq _ pw_458) (fun _ h9 => h9) rfl dX3_moved_129 ?_
                  refine lv_iload hx hb dX3_moved_132 (lv_at hl 0 rfl) ?_
                  refine lv_iadd hx hb dX3_moved_134 ?_
                  refine lv_topi (fun x109 e110 => ?_)
                  obtain rfl : x109 = nI (ot + c9) := e110.trans (nI_add (ot) (c9))
                  refine c_put (v := .int (nI (ot + c9))) (ty := .int) (C := RX3) (Tc := TX3) (N := 5) (ci := 3) hx hb hq pin_wsX30 tyX3 tyX3_ok nmX3 hown hE hP hD hS hO 29 (sg_29 G h0 a _ _ _ _ _) rfl 3 (by decide) (hq _ pw_458) (fun _ h9 => h9) rfl (by decide +kernel) rfl rfl (Nat.le_of_ble_eq_true rfl) (sf_27 G h0 a _ _ _ _ _ (nI (ot + c9))) dX3_moved_135 (fun H locs w hP hD hS hO => ?_)
                  refine lv_ldc2 (v := 4294967296) hx hb hown (hq _ pw_424) dX3_moved_138 ?_
                  refine lv_aload_n hx hb dX3_moved_141 rfl (lv_at hl 2 rfl) ?_
                  refine c_get (v := .int (nI (ot + c9))) (C := RX3) (Tc := TX3) (N := 5) (ci := 3) hx hb hq pin_wsX30 hown hE hP hO 29 (sg_29 G h0 a _ _ _ _ _) rfl 3 (by decide) (hq _ pw_458) (fun _ h9 => h9) rfl dX3_moved_142 ?_
                  refine lv_iload hx hb dX3_moved_145 (lv_at hl 0 rfl) ?_
                  refine lv_isub hx hb dX3_moved_147 ?_
                  refine lv_topi (fun x111 e112 => ?_)
                  obtain rfl : x111 = nI ((ot + c9) - c9) := e112.trans (nI_subN (a := c9) (b := (ot + c9)) (by omega))
                  refine lv_i2l hx hb dX3_moved_148 rfl ?_
                  refine lv_topl (fun x113 e114 => ?_)
                  refine lv_lor hx hb dX3_moved_149 ?_
                  refine lv_topl (fun x115 e116 => ?_)
                  have hz117 : 8 ≤ (ot + c9) ∧ (ot + c9) ≤ 3008 := (by omega)
                  have hO : OKW G h0 a (upd (upd F 26 (nI ht)) 27 (nI (ot + c9))) (updR (updR R 7 (.ref (a 35))) 8 (.ref (a 34))) Z B (updJ (updJ J 34 jn104) 35 (vp_updL (J 35) f9 x107)) T Pi w := hO.to rfl
                  exact W.lret (v := x115) hx hb hr (fun t99 ht99 hW99 => ⟨⟨_, (w, ((ot + c9), x115, (updJ (updJ J 34 jn104) 35 (vp_updL (J 35) f9 x107)))), rfl, ⟨rfl, hz117, hO⟩, by rw [ht99]; exact hP, hD⟩, hS.F ht99⟩) hS.2.2 dX3_moved_150
                · have n118 : ¬ (c9 ≤ (3008 - ot)) := fun h9 => c102 ((nI_leI (a := c9) (b := (3008 - ot)) (by omega) (by omega)).mpr h9)
                  refine lv_lconst (v := 0) hx hb dX3_moved_95 (by decide) ?_
                  have hz119 : 8 ≤ ot ∧ ot ≤ 3008 := (by omega)
                  have hO : OKW G h0 a (upd (upd F 26 (nI ht)) 27 (nI ot)) (updR (updR R 7 (.ref (a 35))) 8 (.ref (a 34))) Z B J T Pi w := hO.to rfl
                  exact W.lret (v := 0) hx hb hr (fun t99 ht99 hW99 => ⟨⟨_, (w, (ot, (0 : Int64), J)), rfl, ⟨rfl, hz119, hO⟩, by rw [ht99]; exact hP, hD⟩, hS.F ht99⟩) hS.2.2 dX3_moved_96
          · refine lv_ldc2 (v := 4294967296) hx hb hown (hq _ pw_424) dX3_moved_40 ?_
            refine lv_aload_n hx hb dX3_moved_43 rfl (lv_at hl 1 rfl) ?_
            refine c_get (v := .ref (a 35)) (C := RX3) (Tc := TX3) (N := 5) (ci := 3) hx hb hq pin_wsX30 hown hE hP hO 29 (sg_29 G h0 a _ _ _ _ _) rfl 0 (by decide) (hq _ pw_415) (fun _ h9 => h9) rfl dX3_moved_44 ?_
            refine lv_iload_n hx hb dX3_moved_47 rfl (lv_at hl 0 rfl) ?_
            refine c_ldl (f := (J 35)) (n := 3008) (t0 := 2) hx hb hE hP hO 31 (sg_31 G h0 a _ _ _ _ _) rfl (vp_in_nI (by omega) (by decide)) dX3_moved_48 ?_
            rw [(nI_clamp (show f9 < 2 ^ 31 by omega))]
            refine lv_topl (fun x120 e121 => ?_)
            refine lv_lneg hx hb dX3_moved_49 ?_
            refine lv_topl (fun x122 e123 => ?_)
            refine lv_lor hx hb dX3_moved_50 ?_
            refine lv_topl (fun x124 e125 => ?_)
            have hz126 : 8 ≤ ot ∧ ot ≤ 3008 := (by omega)
            have hO : OKW G h0 a (upd (upd F 26 (nI ht)) 27 (nI ot)) (updR (updR R 7 (.ref (a 35))) 8 (.ref (a 34))) Z B J T Pi w := hO.to rfl
            exact W.lret (v := x124) hx hb hr (fun t99 ht99 hW99 => ⟨⟨_, (w, (ot, x124, J)), rfl, ⟨rfl, hz126, hO⟩, by rw [ht99]; exact hP, hD⟩, hS.F ht99⟩) hS.2.2 dX3_moved_51
        · have n127 : ¬ (f9 < ht) := fun h9 => c77 ((nI_ltI (a := f9) (b := ht) (by omega) (by omega)).mpr h9)
          refine lv_lload_n hx hb dX3_moved_27 rfl (lv_at hl 2 rfl) ?_
          have hz128 : 8 ≤ ot ∧ ot ≤ 3008 := (by omega)
          have hO : OKW G h0 a (upd (upd F 26 (nI ht)) 27 (nI ot)) (updR (updR R 7 (.ref (a 35))) 8 (.ref (a 34))) Z B J T Pi w := hO.to rfl
          exact W.lret (v := x) hx hb hr (fun t99 ht99 hW99 => ⟨⟨_, (w, (ot, x, J)), rfl, ⟨rfl, hz128, hO⟩, by rw [ht99]; exact hP, hD⟩, hS.F ht99⟩) hS.2.2 dX3_moved_28
theorem dX3_endCollecting_0 : decode cX3_endCollecting 0 = .ok (.bipush 8, 2) := by decide +kernel
theorem dX3_endCollecting_2 : decode cX3_endCollecting 2 = .ok (.istore_n 1, 1) := by decide +kernel
theorem dX3_endCollecting_3 : decode cX3_endCollecting 3 = .ok (.iload_n 1, 1) := by decide +kernel
theorem dX3_endCollecting_4 : decode cX3_endCollecting 4 = .ok (.aload_n 0, 1) := by decide +kernel
theorem dX3_endCollecting_5 : decode cX3_endCollecting 5 = .ok (.getfield 63, 3) := by decide +kernel
theorem dX3_endCollecting_8 : decode cX3_endCollecting 8 = .ok (.if_icmp .ge 34, 3) := by decide +kernel
theorem dX3_endCollecting_42 : decode cX3_endCollecting 42 = .ok (.aload_n 0, 1) := by decide +kernel
theorem dX3_endCollecting_43 : decode cX3_endCollecting 43 = .ok (.getfield 13, 3) := by decide +kernel
theorem dX3_endCollecting_46 : decode cX3_endCollecting 46 = .ok (.astore_n 1, 1) := by decide +kernel
theorem dX3_endCollecting_47 : decode cX3_endCollecting 47 = .ok (.aload_n 0, 1) := by decide +kernel
theorem dX3_endCollecting_48 : decode cX3_endCollecting 48 = .ok (.aload_n 0, 1) := by decide +kernel
theorem dX3_endCollecting_49 : decode cX3_endCollecting 49 = .ok (.getfield 17, 3) := by decide +kernel
theorem dX3_endCollecting_52 : decode cX3_endCollecting 52 = .ok (.putfield 13, 3) := by decide +kernel
theorem dX3_endCollecting_55 : decode cX3_endCollecting 55 = .ok (.aload_n 0, 1) := by decide +kernel
theorem dX3_endCollecting_56 : decode cX3_endCollecting 56 = .ok (.aload_n 1, 1) := by decide +kernel
theorem dX3_endCollecting_57 : decode cX3_endCollecting 57 = .ok (.putfield 17, 3) := by decide +kernel
theorem dX3_endCollecting_60 : decode cX3_endCollecting 60 = .ok (.aload_n 0, 1) := by decide +kernel
theorem dX3_endCollecting_61 : decode cX3_endCollecting 61 = .ok (.aload_n 0, 1) := by decide +kernel
theorem dX3_endCollecting_62 : decode cX3_endCollecting 62 = .ok (.getfield 63, 3) := by decide +kernel
theorem dX3_endCollecting_65 : decode cX3_endCollecting 65 = .ok (.putfield 20, 3) := by decide +kernel
theorem dX3_endCollecting_68 : decode cX3_endCollecting 68 = .ok (.return_, 1) := by decide +kernel
theorem dX3_endCollecting_11 : decode cX3_endCollecting 11 = .ok (.iload_n 1, 1) := by decide +kernel
theorem dX3_endCollecting_12 : decode cX3_endCollecting 12 = .ok (.aload_n 0, 1) := by decide +kernel
theorem dX3_endCollecting_13 : decode cX3_endCollecting 13 = .ok (.getfield 17, 3) := by decide +kernel
theorem dX3_endCollecting_16 : decode cX3_endCollecting 16 = .ok (.arraylength, 1) := by decide +kernel
theorem dX3_endCollecting_17 : decode cX3_endCollecting 17 = .ok (.if_icmp .ge 25, 3) := by decide +kernel
theorem dX3_endCollecting_20 : decode cX3_endCollecting 20 = .ok (.aload_n 0, 1) := by decide +kernel
theorem dX3_endCollecting_21 : decode cX3_endCollecting 21 = .ok (.getfield 17, 3) := by decide +kernel
theorem dX3_endCollecting_24 : decode cX3_endCollecting 24 = .ok (.iload_n 1, 1) := by decide +kernel
theorem dX3_endCollecting_25 : decode cX3_endCollecting 25 = .ok (.aload_n 0, 1) := by decide +kernel
theorem dX3_endCollecting_26 : decode cX3_endCollecting 26 = .ok (.aload_n 0, 1) := by decide +kernel
theorem dX3_endCollecting_27 : decode cX3_endCollecting 27 = .ok (.getfield 17, 3) := by decide +kernel
theorem dX3_endCollecting_30 : decode cX3_endCollecting 30 = .ok (.iload_n 1, 1) := by decide +kernel
theorem dX3_endCollecting_31 : decode cX3_endCollecting 31 = .ok (.laload, 1) := by decide +kernel
theorem dX3_endCollecting_32 : decode cX3_endCollecting 32 = .ok (.invokevirtual 72, 3) := by decide +kernel
theorem dX3_endCollecting_35 : decode cX3_endCollecting 35 = .ok (.lastore, 1) := by decide +kernel
theorem dX3_endCollecting_36 : decode cX3_endCollecting 36 = .ok (.iinc 1 1, 3) := by decide +kernel
theorem dX3_endCollecting_39 : decode cX3_endCollecting 39 = .ok (.goto (-36), 3) := by decide +kernel
theorem hV_X3_moved : yX3_moved.cls = RX3 ∧ yX3_moved.cls ≠ "java/lang/invoke/MethodHandle" ∧ yX3_moved.cls ≠ "java/lang/invoke/VarHandle" ∧ (parseMethodDescriptor yX3_moved.desc).map (fun d => d.parameters.length) = some 1 := by decide +kernel
set_option maxHeartbeats 8000000 in
set_option maxRecDepth 100000 in
theorem K_endCollecting (l : Launch) (G : pT) (h0 : Nat) (a : Nat → Nat) (F : Nat → Int32) (R : Nat → Value) (Z : Int64) (B : Nat → Nat → Int32) (J : Nat → Nat → Int64) (T : Nat → Nat) (Pi : Nat → va_E → Prop) (w : va_W) (sp : Nat) (op : Nat) (ht : Nat) (ot : Nat) (hsp : (sp = 34 ∧ op = 35) ∨ (sp = 35 ∧ op = 34)) (hht : 8 ≤ ht ∧ ht ≤ 3008) (hot : 8 ≤ ot ∧ ot ≤ 3008) (hO : OKW G h0 a (upd (upd F 26 (nI ht)) 27 (nI ot)) (updR (updR R 7 (.ref (a sp))) 8 (.ref (a op))) Z B J T Pi w) : PM l G pX0 yX3_endCollecting cX3_endCollecting 2 none ({ frames := 3, cells := 0, slots := 0, locals := 84 }) [.ref (a 28)] w (fun (v : Option Value) (u : va_W × (Nat × Nat × Nat × Nat × (Nat → Nat → Int64))) => v = none ∧ (8 ≤ u.2.2.2.1 ∧ u.2.2.2.1 ≤ 3008) ∧ (8 ≤ u.2.2.2.2.1 ∧ u.2.2.2.2.1 ≤ 3008) ∧ ((u.2.1 = 34 ∧ u.2.2.1 = 35) ∨ (u.2.1 = 35 ∧ u.2.2.1 = 34)) ∧ (OKW G h0 a (upd (upd F 26 (nI u.2.2.2.1)) 27 (nI u.2.2.2.2.1)) (updR (updR R 7 (.ref (a u.2.1))) 8 (.ref (a u.2.2.1))) Z B u.2.2.2.2.2 T Pi u.1)) (fun u => u.1) := by
  intro sz
  refine Met.ofW (cc := cX3_endCollecting) (maxL := 2) (ret := none) (by decide) rfl ?_
  intro p e s m args below meth c s₁ B9 hml hv
  obtain ⟨rfl, hsz, hP, hD0, hE, hX⟩ := hv
  have hx := B9.exec
  have hb := B9.bytes
  have hr := B9.returns
  have hts := atoms_spec (ws := Cond.code yX3_endCollecting cX3_endCollecting 2 none :: pw) B9.pre
  have hq : ∀ w ∈ pw, w.before _ s = true := fun w h => hts w (List.mem_cons_of_mem _ h)
  have hown : s.vm.findClass RX3 = some m.cls := findClass_of_methodNamed B9.named
  have hlocks := B9.notSynchronized
  subst hsz
  have hD := hD0.self (sz := s.heap.size)
  have hA : ∀ q : Nat, s.heap.size ≤ q → va_A w s.heap.size q := fun q h => Or.inr h
  generalize va_A w s.heap.size = A at hD hE hA ⊢
  have hS : va_S A s.heap s.heap [] := va_S.rf
  have hl := lv_entry ([.ref (a 28)]) (n := 2) (Nat.le_of_ble_eq_true rfl)
  rw [lg_entry_eq]
  generalize (lg_sl ([.ref (a 28)]) ++ List.replicate (2 - (lg_sl ([.ref (a 28)])).length) Slot.unset).toArray = ls at hl ⊢
  have hl : lv_has ls 2 [(0, .ref (a 28))] := hl
  rcases hsp with ⟨rfl, rfl⟩ | ⟨rfl, rfl⟩
  · skip
    refine lv_bipush (v := 8) hx hb dX3_endCollecting_0 (by decide) ?_
    refine lv_istore_n (lv' := [(1, .int 8), (0, .ref (a 28))]) hx hb dX3_endCollecting_2 rfl hl (by decide) rfl (fun ls hl => ?_)
    have loop_c : ∀ (n_c : Nat) (c2 : Nat) (ot2 : Nat) (J2 : Nat → Nat → Int64) (H : Heap) (locs : List Loc) (ls : Array Slot) (w : va_W), c2 ≤ 3008 → 3008 + 1 ≤ c2 + n_c → (8 ≤ c2) → (8 ≤ ot2 ∧ ot2 ≤ 3008) → va_P G.1 pCl w H → va_D A w → va_S A s.heap H locs → OKW G h0 a (upd (upd F 26 (nI ht)) 27 (nI ot2)) (updR (updR R 7 (.ref (a 34))) 8 (.ref (a 35))) Z B J2 T Pi w → lv_has ls 2 [(1, .int (nI c2)), (0, .ref (a 28))] → W p l e (headSpec (Cond.code yX3_endCollecting cX3_endCollecting 2 none :: pw) ({ frames := 3, cells := 0, slots := 0, locals := 84 } : Room)).room s m ([.ref (a 28)] : List Value).toArray below meth c H locs 0 0 (MQ below (pQ G A (fun (v : Option Value) (u : va_W × (Nat × Nat × Nat × Nat × (Nat → Nat → Int64))) => v = none ∧ (8 ≤ u.2.2.2.1 ∧ u.2.2.2.1 ≤ 3008) ∧ (8 ≤ u.2.2.2.2.1 ∧ u.2.2.2.2.1 ≤ 3008) ∧ ((u.2.1 = 34 ∧ u.2.2.1 = 35) ∨ (u.2.1 = 35 ∧ u.2.2.1 = 34)) ∧ (OKW G h0 a (upd (upd F 26 (nI u.2.2.2.1)) 27 (nI u.2.2.2.2.1)) (updR (updR R 7 (.ref (a u.2.1))) 8 (.ref (a u.2.2.1))) Z B u.2.2.2.2.2 T Pi u.1)) (fun u => u.1)) ([.ref (a 28)] : List Value).toArray s ({ frames := 3, cells := 0, slots := 0, locals := 84 } : Room).cells ({ frames := 3, cells := 0, slots := 0, locals := 84 } : Room).slots A) (F0 m 3 ls []) := by
      intro n_c
      induction n_c with
      | zero => intro c2 ot2 J2 H locs ls w hk_c hn_c; omega
      | succ n_c ih_c =>
        intro c2 ot2 J2 H locs ls w hk_c hn_c hc2 hot2 hP hD hS hO hl
        refine lv_iload_n hx hb dX3_endCollecting_3 rfl (lv_at hl 0 rfl) ?_
        refine lv_aload_n hx hb dX3_endCollecting_4 rfl (lv_at hl 1 rfl) ?_
        refine c_get (v := .int (nI ot2)) (C := RX3) (Tc := TX3) (N := 5) (ci := 3) hx hb hq pin_wsX30 hown hE hP hO 29 (sg_29 G h0 a _ _ _ _ _) rfl 3 (by decide) (hq _ pw_458) (fun _ h9 => h9) rfl dX3_endCollecting_5 ?_
        refine lv_icmp_ge (tgt := 42) hx hb dX3_endCollecting_8 (by decide) (fun c1 => ?_) (fun c1 => ?_)
        · have n2 : ot2 ≤ c2 := (nI_leI (a := ot2) (b := c2) (by omega) (by omega)).mp c1
          refine lv_aload_n hx hb dX3_endCollecting_42 rfl (lv_at hl 1 rfl) ?_
          refine c_get (v := .ref (a 34)) (C := RX3) (Tc := TX3) (N := 5) (ci := 3) hx hb hq pin_wsX30 hown hE hP hO 29 (sg_29 G h0 a _ _ _ _ _) rfl 0 (by decide) (hq _ pw_415) (fun _ h9 => h9) rfl dX3_endCollecting_43 ?_
          refine lv_astore_n (lv' := [(1, .ref (a 34)), (0, .ref (a 28))]) hx hb dX3_endCollecting_46 rfl hl (by decide) rfl (fun ls hl => ?_)
          refine lv_aload_n hx hb dX3_endCollecting_47 rfl (lv_at hl 1 rfl) ?_
          refine lv_aload_n hx hb dX3_endCollecting_48 rfl (lv_at hl 1 rfl) ?_
          refine c_get (v := .ref (a 35)) (C := RX3) (Tc := TX3) (N := 5) (ci := 3) hx hb hq pin_wsX30 hown hE hP hO 29 (sg_29 G h0 a _ _ _ _ _) rfl 1 (by decide) (hq _ pw_416) (fun _ h9 => h9) rfl dX3_endCollecting_49 ?_
          refine c_put (v := .ref (a 35)) (ty := (.array .long)) (C := RX3) (Tc := TX3) (N := 5) (ci := 3) hx hb hq pin_wsX30 tyX3 tyX3_ok nmX3 hown hE hP hD hS hO 29 (sg_29 G h0 a _ _ _ _ _) rfl 0 (by decide) (hq _ pw_415) (fun _ h9 => h9) rfl (by decide +kernel) rfl rfl (Nat.le_of_ble_eq_true rfl) (sr_7 G h0 a _ _ _ _ _ (.ref (a 35))) dX3_endCollecting_52 (fun H locs w hP hD hS hO => ?_)
          refine lv_aload_n hx hb dX3_endCollecting_55 rfl (lv_at hl 1 rfl) ?_
          refine lv_aload_n hx hb dX3_endCollecting_56 rfl (lv_at hl 0 rfl) ?_
          refine c_put (v := .ref (a 34)) (ty := (.array .long)) (C := RX3) (Tc := TX3) (N := 5) (ci := 3) hx hb hq pin_wsX30 tyX3 tyX3_ok nmX3 hown hE hP hD hS hO 29 (sg_29 G h0 a _ _ _ _ _) rfl 1 (by decide) (hq _ pw_416) (fun _ h9 => h9) rfl (by decide +kernel) rfl rfl (Nat.le_of_ble_eq_true rfl) (sr_8 G h0 a _ _ _ _ _ (.ref (a 34))) dX3_endCollecting_57 (fun H locs w hP hD hS hO => ?_)
          refine lv_aload_n hx hb dX3_endCollecting_60 rfl (lv_at hl 1 rfl) ?_
          refine lv_aload_n hx hb dX3_endCollecting_61 rfl (lv_at hl 1 rfl) ?_
          refine c_get (v := .int (nI ot2)) (C := RX3) (Tc := TX3) (N := 5) (ci := 3) hx hb hq pin_wsX30 hown hE hP hO 29 (sg_29 G h0 a _ _ _ _ _) rfl 3 (by decide) (hq _ pw_458) (fun _ h9 => h9) rfl dX3_endCollecting_62 ?_
          refine c_put (v := .int (nI ot2)) (ty := .int) (C := RX3) (Tc := TX3) (N := 5) (ci := 3) hx hb hq pin_wsX30 tyX3 tyX3_ok nmX3 hown hE hP hD hS hO 29 (sg_29 G h0 a _ _ _ _ _) rfl 2 (by decide) (hq _ pw_417) (fun _ h9 => h9) rfl (by decide +kernel) rfl rfl (Nat.le_of_ble_eq_true rfl) (sf_26 G h0 a _ _ _ _ _ (nI ot2)) dX3_endCollecting_65 (fun H locs w hP hD hS hO => ?_)
          have hz3 : 8 ≤ ot2 ∧ ot2 ≤ 3008 := (by omega)
          have hz4 : 8 ≤ ot2 ∧ ot2 ≤ 3008 := (by omega)
          have hz5 : (35 = 34 ∧ 34 = 35) ∨ (35 = 35 ∧ 34 = 34) := (by omega)
          have hO : OKW G h0 a (upd (upd F 26 (nI ot2)) 27 (nI ot2)) (updR (updR R 7 (.ref (a 35))) 8 (.ref (a 34))) Z B J2 T Pi w := hO.to rfl
          exact W.vret hx hb hr (fun t99 ht99 hW99 => ⟨⟨_, (w, (35, 34, ot2, ot2, J2)), rfl, ⟨rfl, hz3, hz4, hz5, hO⟩, by rw [ht99]; exact hP, hD⟩, hS.F ht99⟩) hS.2.2 dX3_endCollecting_68
        · have n6 : ¬ (ot2 ≤ c2) := fun h9 => c1 ((nI_leI (a := ot2) (b := c2) (by omega) (by omega)).mpr h9)
          refine lv_iload_n hx hb dX3_endCollecting_11 rfl (lv_at hl 0 rfl) ?_
          refine lv_aload_n hx hb dX3_endCollecting_12 rfl (lv_at hl 1 rfl) ?_
          refine c_get (v := .ref (a 35)) (C := RX3) (Tc := TX3) (N := 5) (ci := 3) hx hb hq pin_wsX30 hown hE hP hO 29 (sg_29 G h0 a _ _ _ _ _) rfl 1 (by decide) (hq _ pw_416) (fun _ h9 => h9) rfl dX3_endCollecting_13 ?_
          refine c_len (n := 0) (t0 := 2) (v := 3008) hx hb hE hP hO 31 (sg_31 G h0 a _ _ _ _ _) rfl rfl dX3_endCollecting_16 ?_
          refine lv_icmp_ge (tgt := 42) hx hb dX3_endCollecting_17 (by decide) (fun c7 => ?_) (fun c7 => ?_)
          · have n8 : 3008 ≤ c2 := (nI_leI (a := 3008) (b := c2) (by omega) (by omega)).mp c7
            refine lv_aload_n hx hb dX3_endCollecting_42 rfl (lv_at hl 1 rfl) ?_
            refine c_get (v := .ref (a 34)) (C := RX3) (Tc := TX3) (N := 5) (ci := 3) hx hb hq pin_wsX30 hown hE hP hO 29 (sg_29 G h0 a _ _ _ _ _) rfl 0 (by decide) (hq _ pw_415) (fun _ h9 => h9) rfl dX3_endCollecting_43 ?_
            refine lv_astore_n (lv' := [(1, .ref (a 34)), (0, .ref (a 28))]) hx hb dX3_endCollecting_46 rfl hl (by decide) rfl (fun ls hl => ?_)
            refine lv_aload_n hx hb dX3_endCollecting_47 rfl (lv_at hl 1 rfl) ?_
            refine lv_aload_n hx hb dX3_endCollecting_48 rfl (lv_at hl 1 rfl) ?_
            refine c_get (v := .ref (a 35)) (C := RX3) (Tc := TX3) (N := 5) (ci := 3) hx hb hq pin_wsX30 hown hE hP hO 29 (sg_29 G h0 a _ _ _ _ _) rfl 1 (by decide) (hq _ pw_416) (fun _ h9 => h9) rfl dX3_endCollecting_49 ?_
            refine c_put (v := .ref (a 35)) (ty := (.array .long)) (C := RX3) (Tc := TX3) (N := 5) (ci := 3) hx hb hq pin_wsX30 tyX3 tyX3_ok nmX3 hown hE hP hD hS hO 29 (sg_29 G h0 a _ _ _ _ _) rfl 0 (by decide) (hq _ pw_415) (fun _ h9 => h9) rfl (by decide +kernel) rfl rfl (Nat.le_of_ble_eq_true rfl) (sr_7 G h0 a _ _ _ _ _ (.ref (a 35))) dX3_endCollecting_52 (fun H locs w hP hD hS hO => ?_)
            refine lv_aload_n hx hb dX3_endCollecting_55 rfl (lv_at hl 1 rfl) ?_
            refine lv_aload_n hx hb dX3_endCollecting_56 rfl (lv_at hl 0 rfl) ?_
            refine c_put (v := .ref (a 34)) (ty := (.array .long)) (C := RX3) (Tc := TX3) (N := 5) (ci := 3) hx hb hq pin_wsX30 tyX3 tyX3_ok nmX3 hown hE hP hD hS hO 29 (sg_29 G h0 a _ _ _ _ _) rfl 1 (by decide) (hq _ pw_416) (fun _ h9 => h9) rfl (by decide +kernel) rfl rfl (Nat.le_of_ble_eq_true rfl) (sr_8 G h0 a _ _ _ _ _ (.ref (a 34))) dX3_endCollecting_57 (fun H locs w hP hD hS hO => ?_)
            refine lv_aload_n hx hb dX3_endCollecting_60 rfl (lv_at hl 1 rfl) ?_
            refine lv_aload_n hx hb dX3_endCollecting_61 rfl (lv_at hl 1 rfl) ?_
            refine c_get (v := .int (nI ot2)) (C := RX3) (Tc := TX3) (N := 5) (ci := 3) hx hb hq pin_wsX30 hown hE hP hO 29 (sg_29 G h0 a _ _ _ _ _) rfl 3 (by decide) (hq _ pw_458) (fun _ h9 => h9) rfl dX3_endCollecting_62 ?_
            refine c_put (v := .int (nI ot2)) (ty := .int) (C := RX3) (Tc := TX3) (N := 5) (ci := 3) hx hb hq pin_wsX30 tyX3 tyX3_ok nmX3 hown hE hP hD hS hO 29 (sg_29 G h0 a _ _ _ _ _) rfl 2 (by decide) (hq _ pw_417) (fun _ h9 => h9) rfl (by decide +kernel) rfl rfl (Nat.le_of_ble_eq_true rfl) (sf_26 G h0 a _ _ _ _ _ (nI ot2)) dX3_endCollecting_65 (fun H locs w hP hD hS hO => ?_)
            have hz9 : 8 ≤ ot2 ∧ ot2 ≤ 3008 := (by omega)
            have hz10 : 8 ≤ ot2 ∧ ot2 ≤ 3008 := (by omega)
            have hz11 : (35 = 34 ∧ 34 = 35) ∨ (35 = 35 ∧ 34 = 34) := (by omega)
            have hO : OKW G h0 a (upd (upd F 26 (nI ot2)) 27 (nI ot2)) (updR (updR R 7 (.ref (a 35))) 8 (.ref (a 34))) Z B J2 T Pi w := hO.to rfl
            exact W.vret hx hb hr (fun t99 ht99 hW99 => ⟨⟨_, (w, (35, 34, ot2, ot2, J2)), rfl, ⟨rfl, hz9, hz10, hz11, hO⟩, by rw [ht99]; exact hP, hD⟩, hS.F ht99⟩) hS.2.2 dX3_endCollecting_68
          · have n12 : ¬ (3008 ≤ c2) := fun h9 => c7 ((nI_leI (a := 3008) (b := c2) (by omega) (by omega)).mpr h9)
            refine lv_aload_n hx hb dX3_endCollecting_20 rfl (lv_at hl 1 rfl) ?_
            refine c_get (v := .ref (a 35)) (C := RX3) (Tc := TX3) (N := 5) (ci := 3) hx hb hq pin_wsX30 hown hE hP hO 29 (sg_29 G h0 a _ _ _ _ _) rfl 1 (by decide) (hq _ pw_416) (fun _ h9 => h9) rfl dX3_endCollecting_21 ?_
            refine lv_iload_n hx hb dX3_endCollecting_24 rfl (lv_at hl 0 rfl) ?_
            refine lv_aload_n hx hb dX3_endCollecting_25 rfl (lv_at hl 1 rfl) ?_
            refine lv_aload_n hx hb dX3_endCollecting_26 rfl (lv_at hl 1 rfl) ?_
            refine c_get (v := .ref (a 35)) (C := RX3) (Tc := TX3) (N := 5) (ci := 3) hx hb hq pin_wsX30 hown hE hP hO 29 (sg_29 G h0 a _ _ _ _ _) rfl 1 (by decide) (hq _ pw_416) (fun _ h9 => h9) rfl dX3_endCollecting_27 ?_
            refine lv_iload_n hx hb dX3_endCollecting_30 rfl (lv_at hl 0 rfl) ?_
            refine c_ldl (f := (J2 35)) (n := 3008) (t0 := 2) hx hb hE hP hO 31 (sg_31 G h0 a _ _ _ _ _) rfl (vp_in_nI (by omega) (by decide)) dX3_endCollecting_31 ?_
            rw [(nI_clamp (show c2 < 2 ^ 31 by omega))]
            refine lv_topl (fun x13 e14 => ?_)
            have hO : OKW G h0 a (upd (upd (upd (upd F 26 (nI ht)) 27 (nI ot2)) 26 (nI ht)) 27 (nI ot2)) (updR (updR (updR (updR R 7 (.ref (a 34))) 8 (.ref (a 35))) 7 (.ref (a 34))) 8 (.ref (a 35))) Z B J2 T Pi w := hO.to rfl
            obtain ⟨_, qr18, hqr19⟩ := hO.2.1 29 _ (sg_29 G h0 a _ _ _ _ _)
            refine pc_V0 (G := G) (As := [.long x13]) (rest := [.int (nI c2), .ref (a 35)]) hx hb hml hown hq hE hX pX0_al hP hD hS hA hl.1 (K_moved l G h0 a (upd (upd F 26 (nI ht)) 27 (nI ot2)) (updR (updR R 7 (.ref (a 34))) 8 (.ref (a 35))) Z B J2 T Pi w x13 34 35 ht ot2 (by omega) (by omega) (by omega) hO) (gV pw_465 pw_466 pw_467 pw_440 pw_459) hV_X3_moved qr18 3 hqr19 rfl rfl rfl (Nat.le_of_ble_eq_true rfl) dX3_endCollecting_32 ⟨Nat.le_of_ble_eq_true rfl, Nat.le_of_ble_eq_true rfl⟩ ⟨Nat.le_of_ble_eq_true rfl, Nat.le_of_ble_eq_true rfl⟩ (fun v17 u15 H locs hw16 hP hD hS => ?_)
            obtain ⟨w, ot20, r21, J22⟩ := u15
            obtain ⟨hw16, h23, hO⟩ := hw16
            have h23 : 8 ≤ ot20 ∧ ot20 ≤ 3008 := h23
            obtain rfl : v17 = some (.long r21) := hw16
            have hO : OKW G h0 a (upd (upd F 26 (nI ht)) 27 (nI ot20)) (updR (updR R 7 (.ref (a 34))) 8 (.ref (a 35))) Z B J22 T Pi w := hO.to rfl
            refine W.widen (k := 0) (n := 0) (Nat.le_of_ble_eq_true rfl) (Nat.le_of_ble_eq_true rfl) ?_
            refine W.eq (g2 := F0 m 35 ls [.long r21, .int (nI c2), .ref (a 35)]) rfl ?_
            refine c_stl (f := (J22 35)) (n := 3008) (t0 := 2) hx hb hE hP hD hS hO 31 (sg_31 G h0 a _ _ _ _ _) rfl (vp_in_nI (by omega) (by decide)) (sj_35 G h0 a _ _ _ _ _ _) dX3_endCollecting_35 (fun H locs w hP hD hS hO => ?_)
            rw [(nI_clamp (show c2 < 2 ^ 31 by omega))] at hO
            refine lv_iinc (v := (nI (c2 + 1))) (lv' := [(1, .int (nI (c2 + 1))), (0, .ref (a 28))]) hx hb dX3_endCollecting_36 hl (k := 0) rfl (nI_1 c2) (by decide) rfl (fun ls hl => ?_)
            refine lv_goto (tgt := 3) hx hb dX3_endCollecting_39 (by decide) ?_
            have hO : OKW G h0 a (upd (upd F 26 (nI ht)) 27 (nI ot20)) (updR (updR R 7 (.ref (a 34))) 8 (.ref (a 35))) Z B (updJ J22 35 (vp_updL (J22 35) c2 r21)) T Pi w := hO.to rfl
            exact ih_c (c2 + 1) ot20 (updJ J22 35 (vp_updL (J22 35) c2 r21)) _ _ _ _ (by omega) (by omega) (by omega) (by omega) hP hD hS hO (lv_sub hl [0, 1] rfl)
    have hO : OKW G h0 a (upd (upd F 26 (nI ht)) 27 (nI ot)) (updR (updR R 7 (.ref (a 34))) 8 (.ref (a 35))) Z B J T Pi w := hO.to rfl
    exact loop_c (3008 + 1) 8 ot J _ _ _ _ (by omega) (by omega) (by omega) (by omega) hP hD hS hO (lv_sub hl [0, 1] rfl)
  · skip
    refine lv_bipush (v := 8) hx hb dX3_endCollecting_0 (by decide) ?_
    refine lv_istore_n (lv' := [(1, .int 8), (0, .ref (a 28))]) hx hb dX3_endCollecting_2 rfl hl (by decide) rfl (fun ls hl => ?_)
    have loop_c : ∀ (n_c : Nat) (c2 : Nat) (ot2 : Nat) (J2 : Nat → Nat → Int64) (H : Heap) (locs : List Loc) (ls : Array Slot) (w : va_W), c2 ≤ 3008 → 3008 + 1 ≤ c2 + n_c → (8 ≤ c2) → (8 ≤ ot2 ∧ ot2 ≤ 3008) → va_P G.1 pCl w H → va_D A w → va_S A s.heap H locs → OKW G h0 a (upd (upd F 26 (nI ht)) 27 (nI ot2)) (updR (updR R 7 (.ref (a 35))) 8 (.ref (a 34))) Z B J2 T Pi w → lv_has ls 2 [(1, .int (nI c2)), (0, .ref (a 28))] → W p l e (headSpec (Cond.code yX3_endCollecting cX3_endCollecting 2 none :: pw) ({ frames := 3, cells := 0, slots := 0, locals := 84 } : Room)).room s m ([.ref (a 28)] : List Value).toArray below meth c H locs 0 0 (MQ below (pQ G A (fun (v : Option Value) (u : va_W × (Nat × Nat × Nat × Nat × (Nat → Nat → Int64))) => v = none ∧ (8 ≤ u.2.2.2.1 ∧ u.2.2.2.1 ≤ 3008) ∧ (8 ≤ u.2.2.2.2.1 ∧ u.2.2.2.2.1 ≤ 3008) ∧ ((u.2.1 = 34 ∧ u.2.2.1 = 35) ∨ (u.2.1 = 35 ∧ u.2.2.1 = 34)) ∧ (OKW G h0 a (upd (upd F 26 (nI u.2.2.2.1)) 27 (nI u.2.2.2.2.1)) (updR (updR R 7 (.ref (a u.2.1))) 8 (.ref (a u.2.2.1))) Z B u.2.2.2.2.2 T Pi u.1)) (fun u => u.1)) ([.ref (a 28)] : List Value).toArray s ({ frames := 3, cells := 0, slots := 0, locals := 84 } : Room).cells ({ frames := 3, cells := 0, slots := 0, locals := 84 } : Room).slots A) (F0 m 3 ls []) := by
      intro n_c
      induction n_c with
      | zero => intro c2 ot2 J2 H locs ls w hk_c hn_c; omega
      | succ n_c ih_c =>
        intro c2 ot2 J2 H locs ls w hk_c hn_c hc2 hot2 hP hD hS hO hl
        refine lv_iload_n hx hb dX3_endCollecting_3 rfl (lv_at hl 0 rfl) ?_
        refine lv_aload_n hx hb dX3_endCollecting_4 rfl (lv_at hl 1 rfl) ?_
        refine c_get (v := .int (nI ot2)) (C := RX3) (Tc := TX3) (N := 5) (ci := 3) hx hb hq pin_wsX30 hown hE hP hO 29 (sg_29 G h0 a _ _ _ _ _) rfl 3 (by decide) (hq _ pw_458) (fun _ h9 => h9) rfl dX3_endCollecting_5 ?_
        refine lv_icmp_ge (tgt := 42) hx hb dX3_endCollecting_8 (by decide) (fun c24 => ?_) (fun c24 => ?_)
        · have n25 : ot2 ≤ c2 := (nI_leI (a := ot2) (b := c2) (by omega) (by omega)).mp c24
          refine lv_aload_n hx hb dX3_endCollecting_42 rfl (lv_at hl 1 rfl) ?_
          refine c_get (v := .ref (a 35)) (C := RX3) (Tc := TX3) (N := 5) (ci := 3) hx hb hq pin_wsX30 hown hE hP hO 29 (sg_29 G h0 a _ _ _ _ _) rfl 0 (by decide) (hq _ pw_415) (fun _ h9 => h9) rfl dX3_endCollecting_43 ?_
          refine lv_astore_n (lv' := [(1, .ref (a 35)), (0, .ref (a 28))]) hx hb dX3_endCollecting_46 rfl hl (by decide) rfl (fun ls hl => ?_)
          refine lv_aload_n hx hb dX3_endCollecting_47 rfl (lv_at hl 1 rfl) ?_
          refine lv_aload_n hx hb dX3_endCollecting_48 rfl (lv_at hl 1 rfl) ?_
          refine c_get (v := .ref (a 34)) (C := RX3) (Tc := TX3) (N := 5) (ci := 3) hx hb hq pin_wsX30 hown hE hP hO 29 (sg_29 G h0 a _ _ _ _ _) rfl 1 (by decide) (hq _ pw_416) (fun _ h9 => h9) rfl dX3_endCollecting_49 ?_
          refine c_put (v := .ref (a 34)) (ty := (.array .long)) (C := RX3) (Tc := TX3) (N := 5) (ci := 3) hx hb hq pin_wsX30 tyX3 tyX3_ok nmX3 hown hE hP hD hS hO 29 (sg_29 G h0 a _ _ _ _ _) rfl 0 (by decide) (hq _ pw_415) (fun _ h9 => h9) rfl (by decide +kernel) rfl rfl (Nat.le_of_ble_eq_true rfl) (sr_7 G h0 a _ _ _ _ _ (.ref (a 34))) dX3_endCollecting_52 (fun H locs w hP hD hS hO => ?_)
          refine lv_aload_n hx hb dX3_endCollecting_55 rfl (lv_at hl 1 rfl) ?_
          refine lv_aload_n hx hb dX3_endCollecting_56 rfl (lv_at hl 0 rfl) ?_
          refine c_put (v := .ref (a 35)) (ty := (.array .long)) (C := RX3) (Tc := TX3) (N := 5) (ci := 3) hx hb hq pin_wsX30 tyX3 tyX3_ok nmX3 hown hE hP hD hS hO 29 (sg_29 G h0 a _ _ _ _ _) rfl 1 (by decide) (hq _ pw_416) (fun _ h9 => h9) rfl (by decide +kernel) rfl rfl (Nat.le_of_ble_eq_true rfl) (sr_8 G h0 a _ _ _ _ _ (.ref (a 35))) dX3_endCollecting_57 (fun H locs w hP hD hS hO => ?_)
          refine lv_aload_n hx hb dX3_endCollecting_60 rfl (lv_at hl 1 rfl) ?_
          refine lv_aload_n hx hb dX3_endCollecting_61 rfl (lv_at hl 1 rfl) ?_
          refine c_get (v := .int (nI ot2)) (C := RX3) (Tc := TX3) (N := 5) (ci := 3) hx hb hq pin_wsX30 hown hE hP hO 29 (sg_29 G h0 a _ _ _ _ _) rfl 3 (by decide) (hq _ pw_458) (fun _ h9 => h9) rfl dX3_endCollecting_62 ?_
          refine c_put (v := .int (nI ot2)) (ty := .int) (C := RX3) (Tc := TX3) (N := 5) (ci := 3) hx hb hq pin_wsX30 tyX3 tyX3_ok nmX3 hown hE hP hD hS hO 29 (sg_29 G h0 a _ _ _ _ _) rfl 2 (by decide) (hq _ pw_417) (fun _ h9 => h9) rfl (by decide +kernel) rfl rfl (Nat.le_of_ble_eq_true rfl) (sf_26 G h0 a _ _ _ _ _ (nI ot2)) dX3_endCollecting_65 (fun H locs w hP hD hS hO => ?_)
          have hz26 : 8 ≤ ot2 ∧ ot2 ≤ 3008 := (by omega)
          have hz27 : 8 ≤ ot2 ∧ ot2 ≤ 3008 := (by omega)
          have hz28 : (34 = 34 ∧ 35 = 35) ∨ (34 = 35 ∧ 35 = 34) := (by omega)
          have hO : OKW G h0 a (upd (upd F 26 (nI ot2)) 27 (nI ot2)) (updR (updR R 7 (.ref (a 34))) 8 (.ref (a 35))) Z B J2 T Pi w := hO.to rfl
          exact W.vret hx hb hr (fun t99 ht99 hW99 => ⟨⟨_, (w, (34, 35, ot2, ot2, J2)), rfl, ⟨rfl, hz26, hz27, hz28, hO⟩, by rw [ht99]; exact hP, hD⟩, hS.F ht99⟩) hS.2.2 dX3_endCollecting_68
        · have n29 : ¬ (ot2 ≤ c2) := fun h9 => c24 ((nI_leI (a := ot2) (b := c2) (by omega) (by omega)).mpr h9)
          refine lv_iload_n hx hb dX3_endCollecting_11 rfl (lv_at hl 0 rfl) ?_
          refine lv_aload_n hx hb dX3_endCollecting_12 rfl (lv_at hl 1 rfl) ?_
          refine c_get (v := .ref (a 34)) (C := RX3) (Tc := TX3) (N := 5) (ci := 3) hx hb hq pin_wsX30 hown hE hP hO 29 (sg_29 G h0 a _ _ _ _ _) rfl 1 (by decide) (hq _ pw_416) (fun _ h9 => h9) rfl dX3_endCollecting_13 ?_
          refine c_len (n := 0) (t0 := 2) (v := 3008) hx hb hE hP hO 30 (sg_30 G h0 a _ _ _ _ _) rfl rfl dX3_endCollecting_16 ?_
          refine lv_icmp_ge (tgt := 42) hx hb dX3_endCollecting_17 (by decide) (fun c30 => ?_) (fun c30 => ?_)
          · have n31 : 3008 ≤ c2 := (nI_leI (a := 3008) (b := c2) (by omega) (by omega)).mp c30
            refine lv_aload_n hx hb dX3_endCollecting_42 rfl (lv_at hl 1 rfl) ?_
            refine c_get (v := .ref (a 35)) (C := RX3) (Tc := TX3) (N := 5) (ci := 3) hx hb hq pin_wsX30 hown hE hP hO 29 (sg_29 G h0 a _ _ _ _ _) rfl 0 (by decide) (hq _ pw_415) (fun _ h9 => h9) rfl dX3_endCollecting_43 ?_
            refine lv_astore_n (lv' := [(1, .ref (a 35)), (0, .ref (a 28))]) hx hb dX3_endCollecting_46 rfl hl (by decide) rfl (fun ls hl => ?_)
            refine lv_aload_n hx hb dX3_endCollecting_47 rfl (lv_at hl 1 rfl) ?_
            refine lv_aload_n hx hb dX3_endCollecting_48 rfl (lv_at hl 1 rfl) ?_
            refine c_get (v := .ref (a 34)) (C := RX3) (Tc := TX3) (N := 5) (ci := 3) hx hb hq pin_wsX30 hown hE hP hO 29 (sg_29 G h0 a _ _ _ _ _) rfl 1 (by decide) (hq _ pw_416) (fun _ h9 => h9) rfl dX3_endCollecting_49 ?_
            refine c_put (v := .ref (a 34)) (ty := (.array .long)) (C := RX3) (Tc := TX3) (N := 5) (ci := 3) hx hb hq pin_wsX30 tyX3 tyX3_ok nmX3 hown hE hP hD hS hO 29 (sg_29 G h0 a _ _ _ _ _) rfl 0 (by decide) (hq _ pw_415) (fun _ h9 => h9) rfl (by decide +kernel) rfl rfl (Nat.le_of_ble_eq_true rfl) (sr_7 G h0 a _ _ _ _ _ (.ref (a 34))) dX3_endCollecting_52 (fun H locs w hP hD hS hO => ?_)
            refine lv_aload_n hx hb dX3_endCollecting_55 rfl (lv_at hl 1 rfl) ?_
            refine lv_aload_n hx hb dX3_endCollecting_56 rfl (lv_at hl 0 rfl) ?_
            refine c_put (v := .ref (a 35)) (ty := (.array .long)) (C := RX3) (Tc := TX3) (N := 5) (ci := 3) hx hb hq pin_wsX30 tyX3 tyX3_ok nmX3 hown hE hP hD hS hO 29 (sg_29 G h0 a _ _ _ _ _) rfl 1 (by decide) (hq _ pw_416) (fun _ h9 => h9) rfl (by decide +kernel) rfl rfl (Nat.le_of_ble_eq_true rfl) (sr_8 G h0 a _ _ _ _ _ (.ref (a 35))) dX3_endCollecting_57 (fun H locs w hP hD hS hO => ?_)
            refine lv_aload_n hx hb dX3_endCollecting_60 rfl (lv_at hl 1 rfl) ?_
            refine lv_aload_n hx hb dX3_endCollecting_61 rfl (lv_at hl 1 rfl) ?_
            refine c_get (v := .int (nI ot2)) (C := RX3) (Tc := TX3) (N := 5) (ci := 3) hx hb hq pin_wsX30 hown hE hP hO 29 (sg_29 G h0 a _ _ _ _ _) rfl 3 (by decide) (hq _ pw_458) (fun _ h9 => h9) rfl dX3_endCollecting_62 ?_
            refine c_put (v := .int (nI ot2)) (ty := .int) (C := RX3) (Tc := TX3) (N := 5) (ci := 3) hx hb hq pin_wsX30 tyX3 tyX3_ok nmX3 hown hE hP hD hS hO 29 (sg_29 G h0 a _ _ _ _ _) rfl 2 (by decide) (hq _ pw_417) (fun _ h9 => h9) rfl (by decide +kernel) rfl rfl (Nat.le_of_ble_eq_true rfl) (sf_26 G h0 a _ _ _ _ _ (nI ot2)) dX3_endCollecting_65 (fun H locs w hP hD hS hO => ?_)
            have hz32 : 8 ≤ ot2 ∧ ot2 ≤ 3008 := (by omega)
            have hz33 : 8 ≤ ot2 ∧ ot2 ≤ 3008 := (by omega)
            have hz34 : (34 = 34 ∧ 35 = 35) ∨ (34 = 35 ∧ 35 = 34) := (by omega)
            have hO : OKW G h0 a (upd (upd F 26 (nI ot2)) 27 (nI ot2)) (updR (updR R 7 (.ref (a 34))) 8 (.ref (a 35))) Z B J2 T Pi w := hO.to rfl
            exact W.vret hx hb hr (fun t99 ht99 hW99 => ⟨⟨_, (w, (34, 35, ot2, ot2, J2)), rfl, ⟨rfl, hz32, hz33, hz34, hO⟩, by rw [ht99]; exact hP, hD⟩, hS.F ht99⟩) hS.2.2 dX3_endCollecting_68
          · have n35 : ¬ (3008 ≤ c2) := fun h9 => c30 ((nI_leI (a := 3008) (b := c2) (by omega) (by omega)).mpr h9)
            refine lv_aload_n hx hb dX3_endCollecting_20 rfl (lv_at hl 1 rfl) ?_
            refine c_get (v := .ref (a 34)) (C := RX3) (Tc := TX3) (N := 5) (ci := 3) hx hb hq pin_wsX30 hown hE hP hO 29 (sg_29 G h0 a _ _ _ _ _) rfl 1 (by decide) (hq _ pw_416) (fun _ h9 => h9) rfl dX3_endCollecting_21 ?_
            refine lv_iload_n hx hb dX3_endCollecting_24 rfl (lv_at hl 0 rfl) ?_
            refine lv_aload_n hx hb dX3_endCollecting_25 rfl (lv_at hl 1 rfl) ?_
            refine lv_aload_n hx hb dX3_endCollecting_26 rfl (lv_at hl 1 rfl) ?_
            refine c_get (v := .ref (a 34)) (C := RX3) (Tc := TX3) (N := 5) (ci := 3) hx hb hq pin_wsX30 hown hE hP hO 29 (sg_29 G h0 a _ _ _ _ _) rfl 1 (by decide) (hq _ pw_416) (fun _ h9 => h9) rfl dX3_endCollecting_27 ?_
            refine lv_iload_n hx hb dX3_endCollecting_30 rfl (lv_at hl 0 rfl) ?_
            refine c_ldl (f := (J2 34)) (n := 3008) (t0 := 2) hx hb hE hP hO 30 (sg_30 G h0 a _ _ _ _ _) rfl (vp_in_nI (by omega) (by decide)) dX3_endCollecting_31 ?_
            rw [(nI_clamp (show c2 < 2 ^ 31 by omega))]
            refine lv_topl (fun x36 e37 => ?_)
            have hO : OKW G h0 a (upd (upd (upd (upd F 26 (nI ht)) 27 (nI ot2)) 26 (nI ht)) 27 (nI ot2)) (updR (updR (updR (updR R 7 (.ref (a 35))) 8 (.ref (a 34))) 7 (.ref (a 35))) 8 (.ref (a 34))) Z B J2 T Pi w := hO.to rfl
            obtain ⟨_, qr41, hqr42⟩ := hO.2.1 29 _ (sg_29 G h0 a _ _ _ _ _)
            refine pc_V0 (G := G) (As := [.long x36]) (rest := [.int (nI c2), .ref (a 34)]) hx hb hml hown hq hE hX pX0_al hP hD hS hA hl.1 (K_moved l G h0 a (upd (upd F 26 (nI ht)) 27 (nI ot2)) (updR (updR R 7 (.ref (a 35))) 8 (.ref (a 34))) Z B J2 T Pi w x36 35 34 ht ot2 (by omega) (by omega) (by omega) hO) (gV pw_465 pw_466 pw_467 pw_440 pw_459) hV_X3_moved qr41 3 hqr42 rfl rfl rfl (Nat.le_of_ble_eq_true rfl) dX3_endCollecting_32 ⟨Nat.le_of_ble_eq_true rfl, Nat.le_of_ble_eq_true rfl⟩ ⟨Nat.le_of_ble_eq_true rfl, Nat.le_of_ble_eq_true rfl⟩ (fun v40 u38 H locs hw39 hP hD hS => ?_)
            obtain ⟨w, ot43, r44, J45⟩ := u38
            obtain ⟨hw39, h46, hO⟩ := hw39
            have h46 : 8 ≤ ot43 ∧ ot43 ≤ 3008 := h46
            obtain rfl : v40 = some (.long r44) := hw39
            have hO : OKW G h0 a (upd (upd F 26 (nI ht)) 27 (nI ot43)) (updR (updR R 7 (.ref (a 35))) 8 (.ref (a 34))) Z B J45 T Pi w := hO.to rfl
            refine W.widen (k := 0) (n := 0) (Nat.le_of_ble_eq_true rfl) (Nat.le_of_ble_eq_true rfl) ?_
            refine W.eq (g2 := F0 m 35 ls [.long r44, .int (nI c2), .ref (a 34)]) rfl ?_
            refine c_stl (f := (J45 34)) (n := 3008) (t0 := 2) hx hb hE hP hD hS hO 30 (sg_30 G h0 a _ _ _ _ _) rfl (vp_in_nI (by omega) (by decide)) (sj_34 G h0 a _ _ _ _ _ _) dX3_endCollecting_35 (fun H locs w hP hD hS hO => ?_)
            rw [(nI_clamp (show c2 < 2 ^ 31 by omega))] at hO
            refine lv_iinc (v := (nI (c2 + 1))) (lv' := [(1, .int (nI (c2 + 1))), (0, .ref (a 28))]) hx hb dX3_endCollecting_36 hl (k := 0) rfl (nI_1 c2) (by decide) rfl (fun ls hl => ?_)
            refine lv_goto (tgt := 3) hx hb dX3_endCollecting_39 (by decide) ?_
            have hO : OKW G h0 a (upd (upd F 26 (nI ht)) 27 (nI ot43)) (updR (updR R 7 (.ref (a 35))) 8 (.ref (a 34))) Z B (updJ J45 34 (vp_updL (J45 34) c2 r44)) T Pi w := hO.to rfl
            exact ih_c (c2 + 1) ot43 (updJ J45 34 (vp_updL (J45 34) c2 r44)) _ _ _ _ (by omega) (by omega) (by omega) (by omega) hP hD hS hO (lv_sub hl [0, 1] rfl)
    have hO : OKW G h0 a (upd (upd F 26 (nI ht)) 27 (nI ot)) (updR (updR R 7 (.ref (a 35))) 8 (.ref (a 34))) Z B J T Pi w := hO.to rfl
    exact loop_c (3008 + 1) 8 ot J _ _ _ _ (by omega) (by omega) (by omega) (by omega) hP hD hS hO (lv_sub hl [0, 1] rfl)

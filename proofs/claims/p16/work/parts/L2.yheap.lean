set_option maxHeartbeats 2000000 in
set_option maxRecDepth 100000 in
theorem Y_operation (l : Launch) (G : pT) (h0 : Nat) (a : Nat → Nat) (F : Nat → Int32) (R : Nat → Value) (Z : Int64) (B : Nat → Nat → Int32) (J : Nat → Nat → Int64) (T : Nat → Nat) (Pi : Nat → va_E → Prop) (w : va_W) (t9 : Nat) (cs : Nat) (hcs : cs ≤ 10000) (ht9 : t9 < cs) (hO : OKW G h0 a (upd F 5 (nI cs)) R Z B J T Pi w) : PM l G pX0 yX1_operation cX1_operation 2 (some .int) ({ frames := 2, cells := 0, slots := 0, locals := 60 }) [.ref (a 2), .int (nI t9)] w (fun (v : Option Value) (u : va_W × (Unit)) => v = some (.int (B 16 t9)) ∧ (OKW G h0 a (upd F 5 (nI cs)) R Z B J T Pi u.1)) (fun u => u.1) := by
  intro sz
  refine Met.ofW (cc := cX1_operation) (maxL := 2) (ret := (some .int)) (by decide) rfl ?_
  intro p e s m args below meth c s₁ B9 hml hv
  obtain ⟨rfl, hsz, hP, hD0, hE, hX⟩ := hv
  have hx := B9.exec
  have hb := B9.bytes
  have hr := B9.returns
  have hts := atoms_spec (ws := Cond.code yX1_operation cX1_operation 2 (some .int) :: pw) B9.pre
  have hq : ∀ w ∈ pw, w.before _ s = true := fun w h => hts w (List.mem_cons_of_mem _ h)
  have hown : s.vm.findClass RX1 = some m.cls := findClass_of_methodNamed B9.named
  have hlocks := B9.notSynchronized
  subst hsz
  have hD := hD0.self (sz := s.heap.size)
  have hA : ∀ q : Nat, s.heap.size ≤ q → va_A w s.heap.size q := fun q h => Or.inr h
  generalize va_A w s.heap.size = A at hD hE hA ⊢
  have hS : va_S A s.heap s.heap [] := va_S.rf
  have hl := lv_entry ([.ref (a 2), .int (nI t9)]) (n := 2) (Nat.le_of_ble_eq_true rfl)
  rw [lg_entry_eq]
  generalize (lg_sl ([.ref (a 2), .int (nI t9)]) ++ List.replicate (2 - (lg_sl ([.ref (a 2), .int (nI t9)])).length) Slot.unset).toArray = ls at hl ⊢
  have hl : lv_has ls 2 [(0, .ref (a 2)), (1, .int (nI t9))] := hl
  refine lv_iload_n hx hb dX1_operation_0 rfl (lv_at hl 1 rfl) ?_
  refine lv_if_lt (tgt := 21) hx hb dX1_operation_1 (by decide) (fun c1 => (by have n2 : t9 < 0 := (nI_ltI (a := t9) (b := 0) (by omega) (by omega)).mp c1; omega)) (fun c1 => ?_)
  refine lv_iload_n hx hb dX1_operation_4 rfl (lv_at hl 1 rfl) ?_
  refine lv_aload_n hx hb dX1_operation_5 rfl (lv_at hl 0 rfl) ?_
  refine c_get (v := .int (nI cs)) (C := RX1) (Tc := TX1) (N := 13) (ci := 1) hx hb hq pin_wsX10 hown hE hP hO 13 (sg_13 G h0 a _ _ _ _ _) rfl 4 (by decide) (hq _ pw_11) (fun _ h9 => h9) rfl dX1_operation_6 ?_
  refine lv_icmp_ge (tgt := 21) hx hb dX1_operation_9 (by decide) (fun c3 => (by have n4 : cs ≤ t9 := (nI_leI (a := cs) (b := t9) (by omega) (by omega)).mp c3; omega)) (fun c3 => ?_)
  refine lv_aload_n hx hb dX1_operation_12 rfl (lv_at hl 0 rfl) ?_
  refine c_get (v := .ref (a 16)) (C := RX1) (Tc := TX1) (N := 13) (ci := 1) hx hb hq pin_wsX10 hown hE hP hO 13 (sg_13 G h0 a _ _ _ _ _) rfl 0 (by decide) (hq _ pw_116) (fun _ h9 => h9) rfl dX1_operation_13 ?_
  refine lv_iload_n hx hb dX1_operation_16 rfl (lv_at hl 1 rfl) ?_
  refine c_ldi (f := (B 16)) (n := 10000) (t0 := 0) hx hb hE hP hO 14 (sg_14 G h0 a _ _ _ _ _) rfl (vp_in_nI (by omega) (by decide)) dX1_operation_17 ?_
  rw [(nI_clamp (show t9 < 2 ^ 31 by omega))]
  refine lv_goto (tgt := 23) hx hb dX1_operation_18 (by decide) ?_
  have hO : OKW G h0 a (upd F 5 (nI cs)) R Z B J T Pi w := hO.to rfl
  exact W.iret (v := ((B 16) t9)) hx hb hr (fun t99 ht99 hW99 => ⟨⟨_, (w, ()), rfl, ⟨rfl, hO⟩, by rw [ht99]; exact hP, hD⟩, hS.F ht99⟩) hS.2.2 dX1_operation_23
set_option maxHeartbeats 2000000 in
set_option maxRecDepth 100000 in
theorem Y_left (l : Launch) (G : pT) (h0 : Nat) (a : Nat → Nat) (F : Nat → Int32) (R : Nat → Value) (Z : Int64) (B : Nat → Nat → Int32) (J : Nat → Nat → Int64) (T : Nat → Nat) (Pi : Nat → va_E → Prop) (w : va_W) (t9 : Nat) (cs : Nat) (hcs : cs ≤ 10000) (ht9 : t9 < cs) (hO : OKW G h0 a (upd F 5 (nI cs)) R Z B J T Pi w) : PM l G pX0 yX1_left cX1_left 2 (some .int) ({ frames := 2, cells := 0, slots := 0, locals := 60 }) [.ref (a 2), .int (nI t9)] w (fun (v : Option Value) (u : va_W × (Unit)) => v = some (.int (B 17 t9)) ∧ (OKW G h0 a (upd F 5 (nI cs)) R Z B J T Pi u.1)) (fun u => u.1) := by
  intro sz
  refine Met.ofW (cc := cX1_left) (maxL := 2) (ret := (some .int)) (by decide) rfl ?_
  intro p e s m args below meth c s₁ B9 hml hv
  obtain ⟨rfl, hsz, hP, hD0, hE, hX⟩ := hv
  have hx := B9.exec
  have hb := B9.bytes
  have hr := B9.returns
  have hts := atoms_spec (ws := Cond.code yX1_left cX1_left 2 (some .int) :: pw) B9.pre
  have hq : ∀ w ∈ pw, w.before _ s = true := fun w h => hts w (List.mem_cons_of_mem _ h)
  have hown : s.vm.findClass RX1 = some m.cls := findClass_of_methodNamed B9.named
  have hlocks := B9.notSynchronized
  subst hsz
  have hD := hD0.self (sz := s.heap.size)
  have hA : ∀ q : Nat, s.heap.size ≤ q → va_A w s.heap.size q := fun q h => Or.inr h
  generalize va_A w s.heap.size = A at hD hE hA ⊢
  have hS : va_S A s.heap s.heap [] := va_S.rf
  have hl := lv_entry ([.ref (a 2), .int (nI t9)]) (n := 2) (Nat.le_of_ble_eq_true rfl)
  rw [lg_entry_eq]
  generalize (lg_sl ([.ref (a 2), .int (nI t9)]) ++ List.replicate (2 - (lg_sl ([.ref (a 2), .int (nI t9)])).length) Slot.unset).toArray = ls at hl ⊢
  have hl : lv_has ls 2 [(0, .ref (a 2)), (1, .int (nI t9))] := hl
  refine lv_iload_n hx hb dX1_left_0 rfl (lv_at hl 1 rfl) ?_
  refine lv_if_lt (tgt := 21) hx hb dX1_left_1 (by decide) (fun c1 => (by have n2 : t9 < 0 := (nI_ltI (a := t9) (b := 0) (by omega) (by omega)).mp c1; omega)) (fun c1 => ?_)
  refine lv_iload_n hx hb dX1_left_4 rfl (lv_at hl 1 rfl) ?_
  refine lv_aload_n hx hb dX1_left_5 rfl (lv_at hl 0 rfl) ?_
  refine c_get (v := .int (nI cs)) (C := RX1) (Tc := TX1) (N := 13) (ci := 1) hx hb hq pin_wsX10 hown hE hP hO 13 (sg_13 G h0 a _ _ _ _ _) rfl 4 (by decide) (hq _ pw_11) (fun _ h9 => h9) rfl dX1_left_6 ?_
  refine lv_icmp_ge (tgt := 21) hx hb dX1_left_9 (by decide) (fun c3 => (by have n4 : cs ≤ t9 := (nI_leI (a := cs) (b := t9) (by omega) (by omega)).mp c3; omega)) (fun c3 => ?_)
  refine lv_aload_n hx hb dX1_left_12 rfl (lv_at hl 0 rfl) ?_
  refine c_get (v := .ref (a 17)) (C := RX1) (Tc := TX1) (N := 13) (ci := 1) hx hb hq pin_wsX10 hown hE hP hO 13 (sg_13 G h0 a _ _ _ _ _) rfl 1 (by decide) (hq _ pw_117) (fun _ h9 => h9) rfl dX1_left_13 ?_
  refine lv_iload_n hx hb dX1_left_16 rfl (lv_at hl 1 rfl) ?_
  refine c_ldi (f := (B 17)) (n := 10000) (t0 := 0) hx hb hE hP hO 15 (sg_15 G h0 a _ _ _ _ _) rfl (vp_in_nI (by omega) (by decide)) dX1_left_17 ?_
  rw [(nI_clamp (show t9 < 2 ^ 31 by omega))]
  refine lv_goto (tgt := 22) hx hb dX1_left_18 (by decide) ?_
  have hO : OKW G h0 a (upd F 5 (nI cs)) R Z B J T Pi w := hO.to rfl
  exact W.iret (v := ((B 17) t9)) hx hb hr (fun t99 ht99 hW99 => ⟨⟨_, (w, ()), rfl, ⟨rfl, hO⟩, by rw [ht99]; exact hP, hD⟩, hS.F ht99⟩) hS.2.2 dX1_left_22
set_option maxHeartbeats 2000000 in
set_option maxRecDepth 100000 in
theorem Y_right (l : Launch) (G : pT) (h0 : Nat) (a : Nat → Nat) (F : Nat → Int32) (R : Nat → Value) (Z : Int64) (B : Nat → Nat → Int32) (J : Nat → Nat → Int64) (T : Nat → Nat) (Pi : Nat → va_E → Prop) (w : va_W) (t9 : Nat) (cs : Nat) (hcs : cs ≤ 10000) (ht9 : t9 < cs) (hO : OKW G h0 a (upd F 5 (nI cs)) R Z B J T Pi w) : PM l G pX0 yX1_right cX1_right 2 (some .int) ({ frames := 2, cells := 0, slots := 0, locals := 60 }) [.ref (a 2), .int (nI t9)] w (fun (v : Option Value) (u : va_W × (Unit)) => v = some (.int (B 18 t9)) ∧ (OKW G h0 a (upd F 5 (nI cs)) R Z B J T Pi u.1)) (fun u => u.1) := by
  intro sz
  refine Met.ofW (cc := cX1_right) (maxL := 2) (ret := (some .int)) (by decide) rfl ?_
  intro p e s m args below meth c s₁ B9 hml hv
  obtain ⟨rfl, hsz, hP, hD0, hE, hX⟩ := hv
  have hx := B9.exec
  have hb := B9.bytes
  have hr := B9.returns
  have hts := atoms_spec (ws := Cond.code yX1_right cX1_right 2 (some .int) :: pw) B9.pre
  have hq : ∀ w ∈ pw, w.before _ s = true := fun w h => hts w (List.mem_cons_of_mem _ h)
  have hown : s.vm.findClass RX1 = some m.cls := findClass_of_methodNamed B9.named
  have hlocks := B9.notSynchronized
  subst hsz
  have hD := hD0.self (sz := s.heap.size)
  have hA : ∀ q : Nat, s.heap.size ≤ q → va_A w s.heap.size q := fun q h => Or.inr h
  generalize va_A w s.heap.size = A at hD hE hA ⊢
  have hS : va_S A s.heap s.heap [] := va_S.rf
  have hl := lv_entry ([.ref (a 2), .int (nI t9)]) (n := 2) (Nat.le_of_ble_eq_true rfl)
  rw [lg_entry_eq]
  generalize (lg_sl ([.ref (a 2), .int (nI t9)]) ++ List.replicate (2 - (lg_sl ([.ref (a 2), .int (nI t9)])).length) Slot.unset).toArray = ls at hl ⊢
  have hl : lv_has ls 2 [(0, .ref (a 2)), (1, .int (nI t9))] := hl
  refine lv_iload_n hx hb dX1_right_0 rfl (lv_at hl 1 rfl) ?_
  refine lv_if_lt (tgt := 21) hx hb dX1_right_1 (by decide) (fun c1 => (by have n2 : t9 < 0 := (nI_ltI (a := t9) (b := 0) (by omega) (by omega)).mp c1; omega)) (fun c1 => ?_)
  refine lv_iload_n hx hb dX1_right_4 rfl (lv_at hl 1 rfl) ?_
  refine lv_aload_n hx hb dX1_right_5 rfl (lv_at hl 0 rfl) ?_
  refine c_get (v := .int (nI cs)) (C := RX1) (Tc := TX1) (N := 13) (ci := 1) hx hb hq pin_wsX10 hown hE hP hO 13 (sg_13 G h0 a _ _ _ _ _) rfl 4 (by decide) (hq _ pw_11) (fun _ h9 => h9) rfl dX1_right_6 ?_
  refine lv_icmp_ge (tgt := 21) hx hb dX1_right_9 (by decide) (fun c3 => (by have n4 : cs ≤ t9 := (nI_leI (a := cs) (b := t9) (by omega) (by omega)).mp c3; omega)) (fun c3 => ?_)
  refine lv_aload_n hx hb dX1_right_12 rfl (lv_at hl 0 rfl) ?_
  refine c_get (v := .ref (a 18)) (C := RX1) (Tc := TX1) (N := 13) (ci := 1) hx hb hq pin_wsX10 hown hE hP hO 13 (sg_13 G h0 a _ _ _ _ _) rfl 2 (by decide) (hq _ pw_118) (fun _ h9 => h9) rfl dX1_right_13 ?_
  refine lv_iload_n hx hb dX1_right_16 rfl (lv_at hl 1 rfl) ?_
  refine c_ldi (f := (B 18)) (n := 10000) (t0 := 0) hx hb hE hP hO 16 (sg_16 G h0 a _ _ _ _ _) rfl (vp_in_nI (by omega) (by decide)) dX1_right_17 ?_
  rw [(nI_clamp (show t9 < 2 ^ 31 by omega))]
  refine lv_goto (tgt := 22) hx hb dX1_right_18 (by decide) ?_
  have hO : OKW G h0 a (upd F 5 (nI cs)) R Z B J T Pi w := hO.to rfl
  exact W.iret (v := ((B 18) t9)) hx hb hr (fun t99 ht99 hW99 => ⟨⟨_, (w, ()), rfl, ⟨rfl, hO⟩, by rw [ht99]; exact hP, hD⟩, hS.F ht99⟩) hS.2.2 dX1_right_22
set_option maxHeartbeats 2000000 in
set_option maxRecDepth 100000 in
theorem Y_heldAt (l : Launch) (G : pT) (h0 : Nat) (a : Nat → Nat) (F : Nat → Int32) (R : Nat → Value) (Z : Int64) (B : Nat → Nat → Int32) (J : Nat → Nat → Int64) (T : Nat → Nat) (Pi : Nat → va_E → Prop) (w : va_W) (t9 : Nat) (cs : Nat) (hcs : cs ≤ 10000) (ht9 : t9 < cs) (hO : OKW G h0 a (upd F 5 (nI cs)) R Z B J T Pi w) : PM l G pX0 yX1_heldAt cX1_heldAt 2 (some .int) ({ frames := 2, cells := 0, slots := 0, locals := 60 }) [.ref (a 2), .int (nI t9)] w (fun (v : Option Value) (u : va_W × (Unit)) => v = some (.int (B 19 t9)) ∧ (OKW G h0 a (upd F 5 (nI cs)) R Z B J T Pi u.1)) (fun u => u.1) := by
  intro sz
  refine Met.ofW (cc := cX1_heldAt) (maxL := 2) (ret := (some .int)) (by decide) rfl ?_
  intro p e s m args below meth c s₁ B9 hml hv
  obtain ⟨rfl, hsz, hP, hD0, hE, hX⟩ := hv
  have hx := B9.exec
  have hb := B9.bytes
  have hr := B9.returns
  have hts := atoms_spec (ws := Cond.code yX1_heldAt cX1_heldAt 2 (some .int) :: pw) B9.pre
  have hq : ∀ w ∈ pw, w.before _ s = true := fun w h => hts w (List.mem_cons_of_mem _ h)
  have hown : s.vm.findClass RX1 = some m.cls := findClass_of_methodNamed B9.named
  have hlocks := B9.notSynchronized
  subst hsz
  have hD := hD0.self (sz := s.heap.size)
  have hA : ∀ q : Nat, s.heap.size ≤ q → va_A w s.heap.size q := fun q h => Or.inr h
  generalize va_A w s.heap.size = A at hD hE hA ⊢
  have hS : va_S A s.heap s.heap [] := va_S.rf
  have hl := lv_entry ([.ref (a 2), .int (nI t9)]) (n := 2) (Nat.le_of_ble_eq_true rfl)
  rw [lg_entry_eq]
  generalize (lg_sl ([.ref (a 2), .int (nI t9)]) ++ List.replicate (2 - (lg_sl ([.ref (a 2), .int (nI t9)])).length) Slot.unset).toArray = ls at hl ⊢
  have hl : lv_has ls 2 [(0, .ref (a 2)), (1, .int (nI t9))] := hl
  refine lv_iload_n hx hb dX1_heldAt_0 rfl (lv_at hl 1 rfl) ?_
  refine lv_if_lt (tgt := 21) hx hb dX1_heldAt_1 (by decide) (fun c1 => (by have n2 : t9 < 0 := (nI_ltI (a := t9) (b := 0) (by omega) (by omega)).mp c1; omega)) (fun c1 => ?_)
  refine lv_iload_n hx hb dX1_heldAt_4 rfl (lv_at hl 1 rfl) ?_
  refine lv_aload_n hx hb dX1_heldAt_5 rfl (lv_at hl 0 rfl) ?_
  refine c_get (v := .int (nI cs)) (C := RX1) (Tc := TX1) (N := 13) (ci := 1) hx hb hq pin_wsX10 hown hE hP hO 13 (sg_13 G h0 a _ _ _ _ _) rfl 4 (by decide) (hq _ pw_11) (fun _ h9 => h9) rfl dX1_heldAt_6 ?_
  refine lv_icmp_ge (tgt := 21) hx hb dX1_heldAt_9 (by decide) (fun c3 => (by have n4 : cs ≤ t9 := (nI_leI (a := cs) (b := t9) (by omega) (by omega)).mp c3; omega)) (fun c3 => ?_)
  refine lv_aload_n hx hb dX1_heldAt_12 rfl (lv_at hl 0 rfl) ?_
  refine c_get (v := .ref (a 19)) (C := RX1) (Tc := TX1) (N := 13) (ci := 1) hx hb hq pin_wsX10 hown hE hP hO 13 (sg_13 G h0 a _ _ _ _ _) rfl 3 (by decide) (hq _ pw_119) (fun _ h9 => h9) rfl dX1_heldAt_13 ?_
  refine lv_iload_n hx hb dX1_heldAt_16 rfl (lv_at hl 1 rfl) ?_
  refine c_ldi (f := (B 19)) (n := 10000) (t0 := 0) hx hb hE hP hO 17 (sg_17 G h0 a _ _ _ _ _) rfl (vp_in_nI (by omega) (by decide)) dX1_heldAt_17 ?_
  rw [(nI_clamp (show t9 < 2 ^ 31 by omega))]
  refine lv_goto (tgt := 22) hx hb dX1_heldAt_18 (by decide) ?_
  have hO : OKW G h0 a (upd F 5 (nI cs)) R Z B J T Pi w := hO.to rfl
  exact W.iret (v := ((B 19) t9)) hx hb hr (fun t99 ht99 hW99 => ⟨⟨_, (w, ()), rfl, ⟨rfl, hO⟩, by rw [ht99]; exact hP, hD⟩, hS.F ht99⟩) hS.2.2 dX1_heldAt_22
set_option maxHeartbeats 2000000 in
set_option maxRecDepth 100000 in
theorem Y_caught (l : Launch) (G : pT) (h0 : Nat) (a : Nat → Nat) (F : Nat → Int32) (R : Nat → Value) (Z : Int64) (B : Nat → Nat → Int32) (J : Nat → Nat → Int64) (T : Nat → Nat) (Pi : Nat → va_E → Prop) (w : va_W) (t9 : Nat) (rg : Nat) (hrg : rg ≤ 625) (ht9 : t9 < rg) (hO : OKW G h0 a (upd F 6 (nI rg)) R Z B J T Pi w) : PM l G pX0 yX1_caught cX1_caught 2 (some .int) ({ frames := 2, cells := 0, slots := 0, locals := 60 }) [.ref (a 2), .int (nI t9)] w (fun (v : Option Value) (u : va_W × (Unit)) => v = some (.int (B 23 t9)) ∧ (OKW G h0 a (upd F 6 (nI rg)) R Z B J T Pi u.1)) (fun u => u.1) := by
  intro sz
  refine Met.ofW (cc := cX1_caught) (maxL := 2) (ret := (some .int)) (by decide) rfl ?_
  intro p e s m args below meth c s₁ B9 hml hv
  obtain ⟨rfl, hsz, hP, hD0, hE, hX⟩ := hv
  have hx := B9.exec
  have hb := B9.bytes
  have hr := B9.returns
  have hts := atoms_spec (ws := Cond.code yX1_caught cX1_caught 2 (some .int) :: pw) B9.pre
  have hq : ∀ w ∈ pw, w.before _ s = true := fun w h => hts w (List.mem_cons_of_mem _ h)
  have hown : s.vm.findClass RX1 = some m.cls := findClass_of_methodNamed B9.named
  have hlocks := B9.notSynchronized
  subst hsz
  have hD := hD0.self (sz := s.heap.size)
  have hA : ∀ q : Nat, s.heap.size ≤ q → va_A w s.heap.size q := fun q h => Or.inr h
  generalize va_A w s.heap.size = A at hD hE hA ⊢
  have hS : va_S A s.heap s.heap [] := va_S.rf
  have hl := lv_entry ([.ref (a 2), .int (nI t9)]) (n := 2) (Nat.le_of_ble_eq_true rfl)
  rw [lg_entry_eq]
  generalize (lg_sl ([.ref (a 2), .int (nI t9)]) ++ List.replicate (2 - (lg_sl ([.ref (a 2), .int (nI t9)])).length) Slot.unset).toArray = ls at hl ⊢
  have hl : lv_has ls 2 [(0, .ref (a 2)), (1, .int (nI t9))] := hl
  refine lv_iload_n hx hb dX1_caught_0 rfl (lv_at hl 1 rfl) ?_
  refine lv_if_lt (tgt := 21) hx hb dX1_caught_1 (by decide) (fun c1 => (by have n2 : t9 < 0 := (nI_ltI (a := t9) (b := 0) (by omega) (by omega)).mp c1; omega)) (fun c1 => ?_)
  refine lv_iload_n hx hb dX1_caught_4 rfl (lv_at hl 1 rfl) ?_
  refine lv_aload_n hx hb dX1_caught_5 rfl (lv_at hl 0 rfl) ?_
  refine c_get (v := .int (nI rg)) (C := RX1) (Tc := TX1) (N := 13) (ci := 1) hx hb hq pin_wsX10 hown hE hP hO 13 (sg_13 G h0 a _ _ _ _ _) rfl 10 (by decide) (hq _ pw_12) (fun _ h9 => h9) rfl dX1_caught_6 ?_
  refine lv_icmp_ge (tgt := 21) hx hb dX1_caught_9 (by decide) (fun c3 => (by have n4 : rg ≤ t9 := (nI_leI (a := rg) (b := t9) (by omega) (by omega)).mp c3; omega)) (fun c3 => ?_)
  refine lv_aload_n hx hb dX1_caught_12 rfl (lv_at hl 0 rfl) ?_
  refine c_get (v := .ref (a 23)) (C := RX1) (Tc := TX1) (N := 13) (ci := 1) hx hb hq pin_wsX10 hown hE hP hO 13 (sg_13 G h0 a _ _ _ _ _) rfl 8 (by decide) (hq _ pw_298) (fun _ h9 => h9) rfl dX1_caught_13 ?_
  refine lv_iload_n hx hb dX1_caught_16 rfl (lv_at hl 1 rfl) ?_
  refine c_ldi (f := (B 23)) (n := 625) (t0 := 0) hx hb hE hP hO 21 (sg_21 G h0 a _ _ _ _ _) rfl (vp_in_nI (by omega) (by decide)) dX1_caught_17 ?_
  rw [(nI_clamp (show t9 < 2 ^ 31 by omega))]
  refine lv_goto (tgt := 22) hx hb dX1_caught_18 (by decide) ?_
  have hO : OKW G h0 a (upd F 6 (nI rg)) R Z B J T Pi w := hO.to rfl
  exact W.iret (v := ((B 23) t9)) hx hb hr (fun t99 ht99 hW99 => ⟨⟨_, (w, ()), rfl, ⟨rfl, hO⟩, by rw [ht99]; exact hP, hD⟩, hS.F ht99⟩) hS.2.2 dX1_caught_22
set_option maxHeartbeats 2000000 in
set_option maxRecDepth 100000 in
theorem Y_handler (l : Launch) (G : pT) (h0 : Nat) (a : Nat → Nat) (F : Nat → Int32) (R : Nat → Value) (Z : Int64) (B : Nat → Nat → Int32) (J : Nat → Nat → Int64) (T : Nat → Nat) (Pi : Nat → va_E → Prop) (w : va_W) (t9 : Nat) (rg : Nat) (hrg : rg ≤ 625) (ht9 : t9 < rg) (hO : OKW G h0 a (upd F 6 (nI rg)) R Z B J T Pi w) : PM l G pX0 yX1_handler cX1_handler 2 (some .int) ({ frames := 2, cells := 0, slots := 0, locals := 60 }) [.ref (a 2), .int (nI t9)] w (fun (v : Option Value) (u : va_W × (Unit)) => v = some (.int (B 22 t9)) ∧ (OKW G h0 a (upd F 6 (nI rg)) R Z B J T Pi u.1)) (fun u => u.1) := by
  intro sz
  refine Met.ofW (cc := cX1_handler) (maxL := 2) (ret := (some .int)) (by decide) rfl ?_
  intro p e s m args below meth c s₁ B9 hml hv
  obtain ⟨rfl, hsz, hP, hD0, hE, hX⟩ := hv
  have hx := B9.exec
  have hb := B9.bytes
  have hr := B9.returns
  have hts := atoms_spec (ws := Cond.code yX1_handler cX1_handler 2 (some .int) :: pw) B9.pre
  have hq : ∀ w ∈ pw, w.before _ s = true := fun w h => hts w (List.mem_cons_of_mem _ h)
  have hown : s.vm.findClass RX1 = some m.cls := findClass_of_methodNamed B9.named
  have hlocks := B9.notSynchronized
  subst hsz
  have hD := hD0.self (sz := s.heap.size)
  have hA : ∀ q : Nat, s.heap.size ≤ q → va_A w s.heap.size q := fun q h => Or.inr h
  generalize va_A w s.heap.size = A at hD hE hA ⊢
  have hS : va_S A s.heap s.heap [] := va_S.rf
  have hl := lv_entry ([.ref (a 2), .int (nI t9)]) (n := 2) (Nat.le_of_ble_eq_true rfl)
  rw [lg_entry_eq]
  generalize (lg_sl ([.ref (a 2), .int (nI t9)]) ++ List.replicate (2 - (lg_sl ([.ref (a 2), .int (nI t9)])).length) Slot.unset).toArray = ls at hl ⊢
  have hl : lv_has ls 2 [(0, .ref (a 2)), (1, .int (nI t9))] := hl
  refine lv_iload_n hx hb dX1_handler_0 rfl (lv_at hl 1 rfl) ?_
  refine lv_if_lt (tgt := 21) hx hb dX1_handler_1 (by decide) (fun c1 => (by have n2 : t9 < 0 := (nI_ltI (a := t9) (b := 0) (by omega) (by omega)).mp c1; omega)) (fun c1 => ?_)
  refine lv_iload_n hx hb dX1_handler_4 rfl (lv_at hl 1 rfl) ?_
  refine lv_aload_n hx hb dX1_handler_5 rfl (lv_at hl 0 rfl) ?_
  refine c_get (v := .int (nI rg)) (C := RX1) (Tc := TX1) (N := 13) (ci := 1) hx hb hq pin_wsX10 hown hE hP hO 13 (sg_13 G h0 a _ _ _ _ _) rfl 10 (by decide) (hq _ pw_12) (fun _ h9 => h9) rfl dX1_handler_6 ?_
  refine lv_icmp_ge (tgt := 21) hx hb dX1_handler_9 (by decide) (fun c3 => (by have n4 : rg ≤ t9 := (nI_leI (a := rg) (b := t9) (by omega) (by omega)).mp c3; omega)) (fun c3 => ?_)
  refine lv_aload_n hx hb dX1_handler_12 rfl (lv_at hl 0 rfl) ?_
  refine c_get (v := .ref (a 22)) (C := RX1) (Tc := TX1) (N := 13) (ci := 1) hx hb hq pin_wsX10 hown hE hP hO 13 (sg_13 G h0 a _ _ _ _ _) rfl 7 (by decide) (hq _ pw_297) (fun _ h9 => h9) rfl dX1_handler_13 ?_
  refine lv_iload_n hx hb dX1_handler_16 rfl (lv_at hl 1 rfl) ?_
  refine c_ldi (f := (B 22)) (n := 625) (t0 := 0) hx hb hE hP hO 20 (sg_20 G h0 a _ _ _ _ _) rfl (vp_in_nI (by omega) (by decide)) dX1_handler_17 ?_
  rw [(nI_clamp (show t9 < 2 ^ 31 by omega))]
  refine lv_goto (tgt := 22) hx hb dX1_handler_18 (by decide) ?_
  have hO : OKW G h0 a (upd F 6 (nI rg)) R Z B J T Pi w := hO.to rfl
  exact W.iret (v := ((B 22) t9)) hx hb hr (fun t99 ht99 hW99 => ⟨⟨_, (w, ()), rfl, ⟨rfl, hO⟩, by rw [ht99]; exact hP, hD⟩, hS.F ht99⟩) hS.2.2 dX1_handler_22
set_option maxHeartbeats 2000000 in
set_option maxRecDepth 100000 in
theorem Y_slot (l : Launch) (G : pT) (h0 : Nat) (a : Nat → Nat) (F : Nat → Int32) (R : Nat → Value) (Z : Int64) (B : Nat → Nat → Int32) (J : Nat → Nat → Int64) (T : Nat → Nat) (Pi : Nat → va_E → Prop) (w : va_W) (t9 : Nat) (rg : Nat) (hrg : rg ≤ 625) (ht9 : t9 < rg) (hO : OKW G h0 a (upd F 6 (nI rg)) R Z B J T Pi w) : PM l G pX0 yX1_slot cX1_slot 2 (some .int) ({ frames := 2, cells := 0, slots := 0, locals := 60 }) [.ref (a 2), .int (nI t9)] w (fun (v : Option Value) (u : va_W × (Unit)) => v = some (.int (B 24 t9)) ∧ (OKW G h0 a (upd F 6 (nI rg)) R Z B J T Pi u.1)) (fun u => u.1) := by
  intro sz
  refine Met.ofW (cc := cX1_slot) (maxL := 2) (ret := (some .int)) (by decide) rfl ?_
  intro p e s m args below meth c s₁ B9 hml hv
  obtain ⟨rfl, hsz, hP, hD0, hE, hX⟩ := hv
  have hx := B9.exec
  have hb := B9.bytes
  have hr := B9.returns
  have hts := atoms_spec (ws := Cond.code yX1_slot cX1_slot 2 (some .int) :: pw) B9.pre
  have hq : ∀ w ∈ pw, w.before _ s = true := fun w h => hts w (List.mem_cons_of_mem _ h)
  have hown : s.vm.findClass RX1 = some m.cls := findClass_of_methodNamed B9.named
  have hlocks := B9.notSynchronized
  subst hsz
  have hD := hD0.self (sz := s.heap.size)
  have hA : ∀ q : Nat, s.heap.size ≤ q → va_A w s.heap.size q := fun q h => Or.inr h
  generalize va_A w s.heap.size = A at hD hE hA ⊢
  have hS : va_S A s.heap s.heap [] := va_S.rf
  have hl := lv_entry ([.ref (a 2), .int (nI t9)]) (n := 2) (Nat.le_of_ble_eq_true rfl)
  rw [lg_entry_eq]
  generalize (lg_sl ([.ref (a 2), .int (nI t9)]) ++ List.replicate (2 - (lg_sl ([.ref (a 2), .int (nI t9)])).length) Slot.unset).toArray = ls at hl ⊢
  have hl : lv_has ls 2 [(0, .ref (a 2)), (1, .int (nI t9))] := hl
  refine lv_iload_n hx hb dX1_slot_0 rfl (lv_at hl 1 rfl) ?_
  refine lv_if_lt (tgt := 21) hx hb dX1_slot_1 (by decide) (fun c1 => (by have n2 : t9 < 0 := (nI_ltI (a := t9) (b := 0) (by omega) (by omega)).mp c1; omega)) (fun c1 => ?_)
  refine lv_iload_n hx hb dX1_slot_4 rfl (lv_at hl 1 rfl) ?_
  refine lv_aload_n hx hb dX1_slot_5 rfl (lv_at hl 0 rfl) ?_
  refine c_get (v := .int (nI rg)) (C := RX1) (Tc := TX1) (N := 13) (ci := 1) hx hb hq pin_wsX10 hown hE hP hO 13 (sg_13 G h0 a _ _ _ _ _) rfl 10 (by decide) (hq _ pw_12) (fun _ h9 => h9) rfl dX1_slot_6 ?_
  refine lv_icmp_ge (tgt := 21) hx hb dX1_slot_9 (by decide) (fun c3 => (by have n4 : rg ≤ t9 := (nI_leI (a := rg) (b := t9) (by omega) (by omega)).mp c3; omega)) (fun c3 => ?_)
  refine lv_aload_n hx hb dX1_slot_12 rfl (lv_at hl 0 rfl) ?_
  refine c_get (v := .ref (a 24)) (C := RX1) (Tc := TX1) (N := 13) (ci := 1) hx hb hq pin_wsX10 hown hE hP hO 13 (sg_13 G h0 a _ _ _ _ _) rfl 9 (by decide) (hq _ pw_299) (fun _ h9 => h9) rfl dX1_slot_13 ?_
  refine lv_iload_n hx hb dX1_slot_16 rfl (lv_at hl 1 rfl) ?_
  refine c_ldi (f := (B 24)) (n := 625) (t0 := 0) hx hb hE hP hO 22 (sg_22 G h0 a _ _ _ _ _) rfl (vp_in_nI (by omega) (by decide)) dX1_slot_17 ?_
  rw [(nI_clamp (show t9 < 2 ^ 31 by omega))]
  refine lv_goto (tgt := 22) hx hb dX1_slot_18 (by decide) ?_
  have hO : OKW G h0 a (upd F 6 (nI rg)) R Z B J T Pi w := hO.to rfl
  exact W.iret (v := ((B 24) t9)) hx hb hr (fun t99 ht99 hW99 => ⟨⟨_, (w, ()), rfl, ⟨rfl, hO⟩, by rw [ht99]; exact hP, hD⟩, hS.F ht99⟩) hS.2.2 dX1_slot_22
set_option maxHeartbeats 2000000 in
set_option maxRecDepth 100000 in
theorem Y_isWithin (l : Launch) (G : pT) (h0 : Nat) (a : Nat → Nat) (F : Nat → Int32) (R : Nat → Value) (Z : Int64) (B : Nat → Nat → Int32) (J : Nat → Nat → Int64) (T : Nat → Nat) (Pi : Nat → va_E → Prop) (w : va_W) (t9 : Nat) (rg : Nat) (p9 : Nat) (s9 : Nat) (e9 : Nat) (hrg : rg ≤ 625) (ht9 : t9 < rg) (hse : s9 ≤ 10000 ∧ e9 ≤ 10000 ∧ p9 ≤ 10000) (hs9 : B 20 t9 = nI s9) (he9 : B 21 t9 = nI e9) (hO : OKW G h0 a (upd F 6 (nI rg)) R Z B J T Pi w) : PM l G pX0 yX1_isWithin cX1_isWithin 3 (some .boolean) ({ frames := 2, cells := 0, slots := 0, locals := 60 }) [.ref (a 2), .int (nI t9), .int (nI p9)] w (fun (v : Option Value) (u : va_W × (Unit)) => v = some (.int (nI (wiN s9 e9 p9))) ∧ (OKW G h0 a (upd F 6 (nI rg)) R Z B J T Pi u.1)) (fun u => u.1) := by
  intro sz
  refine Met.ofW (cc := cX1_isWithin) (maxL := 3) (ret := (some .boolean)) (by decide) rfl ?_
  intro p e s m args below meth c s₁ B9 hml hv
  obtain ⟨rfl, hsz, hP, hD0, hE, hX⟩ := hv
  have hx := B9.exec
  have hb := B9.bytes
  have hr := B9.returns
  have hts := atoms_spec (ws := Cond.code yX1_isWithin cX1_isWithin 3 (some .boolean) :: pw) B9.pre
  have hq : ∀ w ∈ pw, w.before _ s = true := fun w h => hts w (List.mem_cons_of_mem _ h)
  have hown : s.vm.findClass RX1 = some m.cls := findClass_of_methodNamed B9.named
  have hlocks := B9.notSynchronized
  subst hsz
  have hD := hD0.self (sz := s.heap.size)
  have hA : ∀ q : Nat, s.heap.size ≤ q → va_A w s.heap.size q := fun q h => Or.inr h
  generalize va_A w s.heap.size = A at hD hE hA ⊢
  have hS : va_S A s.heap s.heap [] := va_S.rf
  have hl := lv_entry ([.ref (a 2), .int (nI t9), .int (nI p9)]) (n := 3) (Nat.le_of_ble_eq_true rfl)
  rw [lg_entry_eq]
  generalize (lg_sl ([.ref (a 2), .int (nI t9), .int (nI p9)]) ++ List.replicate (3 - (lg_sl ([.ref (a 2), .int (nI t9), .int (nI p9)])).length) Slot.unset).toArray = ls at hl ⊢
  have hl : lv_has ls 3 [(0, .ref (a 2)), (1, .int (nI t9)), (2, .int (nI p9))] := hl
  refine lv_iload_n hx hb dX1_isWithin_0 rfl (lv_at hl 1 rfl) ?_
  refine lv_if_lt (tgt := 36) hx hb dX1_isWithin_1 (by decide) (fun c1 => (by have n2 : t9 < 0 := (nI_ltI (a := t9) (b := 0) (by omega) (by omega)).mp c1; omega)) (fun c1 => ?_)
  refine lv_iload_n hx hb dX1_isWithin_4 rfl (lv_at hl 1 rfl) ?_
  refine lv_aload_n hx hb dX1_isWithin_5 rfl (lv_at hl 0 rfl) ?_
  refine c_get (v := .int (nI rg)) (C := RX1) (Tc := TX1) (N := 13) (ci := 1) hx hb hq pin_wsX10 hown hE hP hO 13 (sg_13 G h0 a _ _ _ _ _) rfl 10 (by decide) (hq _ pw_12) (fun _ h9 => h9) rfl dX1_isWithin_6 ?_
  refine lv_icmp_ge (tgt := 36) hx hb dX1_isWithin_9 (by decide) (fun c3 => (by have n4 : rg ≤ t9 := (nI_leI (a := rg) (b := t9) (by omega) (by omega)).mp c3; omega)) (fun c3 => ?_)
  refine lv_iload_n hx hb dX1_isWithin_12 rfl (lv_at hl 2 rfl) ?_
  refine lv_aload_n hx hb dX1_isWithin_13 rfl (lv_at hl 0 rfl) ?_
  refine c_get (v := .ref (a 20)) (C := RX1) (Tc := TX1) (N := 13) (ci := 1) hx hb hq pin_wsX10 hown hE hP hO 13 (sg_13 G h0 a _ _ _ _ _) rfl 5 (by decide) (hq _ pw_295) (fun _ h9 => h9) rfl dX1_isWithin_14 ?_
  refine lv_iload_n hx hb dX1_isWithin_17 rfl (lv_at hl 1 rfl) ?_
  refine c_ldi (f := (B 20)) (n := 625) (t0 := 0) hx hb hE hP hO 18 (sg_18 G h0 a _ _ _ _ _) rfl (vp_in_nI (by omega) (by decide)) dX1_isWithin_18 ?_
  rw [(nI_clamp (show t9 < 2 ^ 31 by omega))]
  refine lv_topi (fun x5 e6 => ?_)
  obtain rfl : x5 = nI s9 := e6.trans hs9
  refine lv_icmp_lt (tgt := 36) hx hb dX1_isWithin_19 (by decide) (fun c7 => ?_) (fun c7 => ?_)
  · have n8 : p9 < s9 := (nI_ltI (a := p9) (b := s9) (by omega) (by omega)).mp c7
    refine lv_iconst (v := 0) hx hb dX1_isWithin_36 (by decide) ?_
    have hO : OKW G h0 a (upd F 6 (nI rg)) R Z B J T Pi w := hO.to rfl
    exact W.zret (v := 0) hx hb hr rfl (fun t99 ht99 hW99 => ⟨⟨_, (w, ()), rfl, ⟨(congrArg (fun z => some (Value.int z)) (show (0 : Int32) = nI (wiN s9 e9 p9) by rw [wiN_0 (by omega)]; rfl)), hO⟩, by rw [ht99]; exact hP, hD⟩, hS.F ht99⟩) hS.2.2 dX1_isWithin_37
  · have n9 : ¬ (p9 < s9) := fun h9 => c7 ((nI_ltI (a := p9) (b := s9) (by omega) (by omega)).mpr h9)
    refine lv_iload_n hx hb dX1_isWithin_22 rfl (lv_at hl 2 rfl) ?_
    refine lv_aload_n hx hb dX1_isWithin_23 rfl (lv_at hl 0 rfl) ?_
    refine c_get (v := .ref (a 21)) (C := RX1) (Tc := TX1) (N := 13) (ci := 1) hx hb hq pin_wsX10 hown hE hP hO 13 (sg_13 G h0 a _ _ _ _ _) rfl 6 (by decide) (hq _ pw_296) (fun _ h9 => h9) rfl dX1_isWithin_24 ?_
    refine lv_iload_n hx hb dX1_isWithin_27 rfl (lv_at hl 1 rfl) ?_
    refine c_ldi (f := (B 21)) (n := 625) (t0 := 0) hx hb hE hP hO 19 (sg_19 G h0 a _ _ _ _ _) rfl (vp_in_nI (by omega) (by decide)) dX1_isWithin_28 ?_
    rw [(nI_clamp (show t9 < 2 ^ 31 by omega))]
    refine lv_topi (fun x10 e11 => ?_)
    obtain rfl : x10 = nI e9 := e11.trans he9
    refine lv_icmp_ge (tgt := 36) hx hb dX1_isWithin_29 (by decide) (fun c12 => ?_) (fun c12 => ?_)
    · have n13 : e9 ≤ p9 := (nI_leI (a := e9) (b := p9) (by omega) (by omega)).mp c12
      refine lv_iconst (v := 0) hx hb dX1_isWithin_36 (by decide) ?_
      have hO : OKW G h0 a (upd F 6 (nI rg)) R Z B J T Pi w := hO.to rfl
      exact W.zret (v := 0) hx hb hr rfl (fun t99 ht99 hW99 => ⟨⟨_, (w, ()), rfl, ⟨(congrArg (fun z => some (Value.int z)) (show (0 : Int32) = nI (wiN s9 e9 p9) by rw [wiN_0 (by omega)]; rfl)), hO⟩, by rw [ht99]; exact hP, hD⟩, hS.F ht99⟩) hS.2.2 dX1_isWithin_37
    · have n14 : ¬ (e9 ≤ p9) := fun h9 => c12 ((nI_leI (a := e9) (b := p9) (by omega) (by omega)).mpr h9)
      refine lv_iconst (v := 1) hx hb dX1_isWithin_32 (by decide) ?_
      refine lv_goto (tgt := 37) hx hb dX1_isWithin_33 (by decide) ?_
      have hO : OKW G h0 a (upd F 6 (nI rg)) R Z B J T Pi w := hO.to rfl
      exact W.zret (v := 1) hx hb hr rfl (fun t99 ht99 hW99 => ⟨⟨_, (w, ()), rfl, ⟨(congrArg (fun z => some (Value.int z)) (show (1 : Int32) = nI (wiN s9 e9 p9) by rw [wiN_1 (by omega)]; rfl)), hO⟩, by rw [ht99]; exact hP, hD⟩, hS.F ht99⟩) hS.2.2 dX1_isWithin_37
set_option maxHeartbeats 1000000 in
set_option maxRecDepth 100000 in
/-- s_isRefR -/
theorem s_isRefR (l : Launch) (G : pT) (p9 : Nat) : PM l G pX0 yX3_isReference cX3_isReference 2 (some .boolean) ({ frames := 2, cells := 0, slots := 0, locals := 60 }) [.long (rfV p9)] [] (fun (v : Option Value) (u : Unit) => v = some (.int 1)) (fun u => []) := by
  intro sz
  refine Met.ofW (cc := cX3_isReference) (maxL := 2) (ret := (some .boolean)) (by decide) rfl ?_
  intro p e s m args below meth c s₁ B hml hv
  obtain ⟨rfl, hsz, hP, hD0, hE, hX⟩ := hv
  have hx := B.exec
  have hb := B.bytes
  have hr := B.returns
  have hts := atoms_spec (ws := Cond.code yX3_isReference cX3_isReference 2 (some .boolean) :: pw) B.pre
  have hq : ∀ w ∈ pw, w.before _ s = true := fun w h => hts w (List.mem_cons_of_mem _ h)
  have hown : s.vm.findClass RX3 = some m.cls := findClass_of_methodNamed B.named
  have hlocks := B.notSynchronized
  subst hsz
  have hD := hD0.self (sz := s.heap.size)
  have hA : ∀ q : Nat, s.heap.size ≤ q → va_A [] s.heap.size q := fun q h => Or.inr h
  have hP : va_P G.1 pCl [] s.heap := hP
  generalize va_A [] s.heap.size = A at hD hE hA ⊢
  have hS : va_S A s.heap s.heap [] := va_S.rf
  have hl := lv_entry ([.long (rfV p9)]) (n := 2) (Nat.le_of_ble_eq_true rfl)
  rw [lg_entry_eq]
  generalize (lg_sl ([.long (rfV p9)]) ++ List.replicate (2 - (lg_sl ([.long (rfV p9)])).length) Slot.unset).toArray = ls at hl ⊢
  have hl : lv_has ls 2 [(0, .long (rfV p9))] := hl
  refine lv_lload_n hx hb dX3_isReference_0 rfl (lv_at hl 0 rfl) ?_
  refine lv_ldc2 (v := 4294967296) hx hb hown (hq _ pw_424) dX3_isReference_1 ?_
  refine lv_land hx hb dX3_isReference_4 ?_
  refine lv_topl (fun x1 e2 => ?_)
  refine lv_lconst (v := 0) hx hb dX3_isReference_5 (by decide) ?_
  refine W.lcmp hx hb dX3_isReference_6 ?_
  refine lv_topi (fun x3 e4 => ?_)
  refine lv_if_eq (tgt := 14) hx hb dX3_isReference_7 (by decide) (fun c5 => (rfV_and (p := p9) (by rw [← e2]; exact (lg_cmp_eq _ _).mp (e4.symm.trans c5))).elim) (fun c5 => ?_)
  refine lv_iconst (v := 1) hx hb dX3_isReference_10 (by decide) ?_
  refine lv_goto (tgt := 15) hx hb dX3_isReference_11 (by decide) ?_
  refine W.widen (k := 0) (n := 0) (Nat.le_of_ble_eq_true rfl) (Nat.le_of_ble_eq_true rfl) ?_
  exact W.zret (v := 1) hx hb hr rfl (fun t ht hW => ⟨⟨_, (), rfl, rfl, by rw [ht]; exact hP.sub [] rfl, hD.sub [] (by decide) rfl⟩, hS.F ht⟩) hS.2.2 dX3_isReference_15
set_option maxHeartbeats 1000000 in
set_option maxRecDepth 100000 in
/-- s_isRefN -/
theorem s_isRefN (l : Launch) (G : pT) (y9 : Int32) : PM l G pX0 yX3_isReference cX3_isReference 2 (some .boolean) ({ frames := 2, cells := 0, slots := 0, locals := 60 }) [.long (nmV y9)] [] (fun (v : Option Value) (u : Unit) => v = some (.int 0)) (fun u => []) := by
  intro sz
  refine Met.ofW (cc := cX3_isReference) (maxL := 2) (ret := (some .boolean)) (by decide) rfl ?_
  intro p e s m args below meth c s₁ B hml hv
  obtain ⟨rfl, hsz, hP, hD0, hE, hX⟩ := hv
  have hx := B.exec
  have hb := B.bytes
  have hr := B.returns
  have hts := atoms_spec (ws := Cond.code yX3_isReference cX3_isReference 2 (some .boolean) :: pw) B.pre
  have hq : ∀ w ∈ pw, w.before _ s = true := fun w h => hts w (List.mem_cons_of_mem _ h)
  have hown : s.vm.findClass RX3 = some m.cls := findClass_of_methodNamed B.named
  have hlocks := B.notSynchronized
  subst hsz
  have hD := hD0.self (sz := s.heap.size)
  have hA : ∀ q : Nat, s.heap.size ≤ q → va_A [] s.heap.size q := fun q h => Or.inr h
  have hP : va_P G.1 pCl [] s.heap := hP
  generalize va_A [] s.heap.size = A at hD hE hA ⊢
  have hS : va_S A s.heap s.heap [] := va_S.rf
  have hl := lv_entry ([.long (nmV y9)]) (n := 2) (Nat.le_of_ble_eq_true rfl)
  rw [lg_entry_eq]
  generalize (lg_sl ([.long (nmV y9)]) ++ List.replicate (2 - (lg_sl ([.long (nmV y9)])).length) Slot.unset).toArray = ls at hl ⊢
  have hl : lv_has ls 2 [(0, .long (nmV y9))] := hl
  refine lv_lload_n hx hb dX3_isReference_0 rfl (lv_at hl 0 rfl) ?_
  refine lv_ldc2 (v := 4294967296) hx hb hown (hq _ pw_424) dX3_isReference_1 ?_
  refine lv_land hx hb dX3_isReference_4 ?_
  refine lv_topl (fun x1 e2 => ?_)
  refine lv_lconst (v := 0) hx hb dX3_isReference_5 (by decide) ?_
  refine W.lcmp hx hb dX3_isReference_6 ?_
  refine lv_topi (fun x3 e4 => ?_)
  refine lv_if_eq (tgt := 14) hx hb dX3_isReference_7 (by decide) (fun c5 => ?_) (fun c5 => (c5 (e4.trans ((lg_cmp_eq _ _).mpr (by rw [e2]; exact nmV_and)))).elim)
  refine lv_iconst (v := 0) hx hb dX3_isReference_14 (by decide) ?_
  refine W.widen (k := 0) (n := 0) (Nat.le_of_ble_eq_true rfl) (Nat.le_of_ble_eq_true rfl) ?_
  exact W.zret (v := 0) hx hb hr rfl (fun t ht hW => ⟨⟨_, (), rfl, rfl, by rw [ht]; exact hP.sub [] rfl, hD.sub [] (by decide) rfl⟩, hS.F ht⟩) hS.2.2 dX3_isReference_15
set_option maxHeartbeats 1000000 in
set_option maxRecDepth 100000 in
/-- aheadOf -/
theorem s_aheadX (l : Launch) (G : pT) (n9 : Nat) (d9 : Nat) (a9 : Nat) (hn9 : n9 ≤ 3008 ∧ d9 < 128) (ha9 : (a9 = 1 ∧ d9 < 64) ∨ (a9 = 2 ∧ 64 ≤ d9)) : PM l G pX0 yX3_aheadOf cX3_aheadOf 2 (some .int) ({ frames := 2, cells := 0, slots := 0, locals := 60 }) [.long (hdV n9 d9)] [] (fun (v : Option Value) (u : Unit) => v = some (.int (nI a9))) (fun u => []) := by
  intro sz
  refine Met.ofW (cc := cX3_aheadOf) (maxL := 2) (ret := (some .int)) (by decide) rfl ?_
  intro p e s m args below meth c s₁ B hml hv
  obtain ⟨rfl, hsz, hP, hD0, hE, hX⟩ := hv
  have hx := B.exec
  have hb := B.bytes
  have hr := B.returns
  have hts := atoms_spec (ws := Cond.code yX3_aheadOf cX3_aheadOf 2 (some .int) :: pw) B.pre
  have hq : ∀ w ∈ pw, w.before _ s = true := fun w h => hts w (List.mem_cons_of_mem _ h)
  have hown : s.vm.findClass RX3 = some m.cls := findClass_of_methodNamed B.named
  have hlocks := B.notSynchronized
  subst hsz
  have hD := hD0.self (sz := s.heap.size)
  have hA : ∀ q : Nat, s.heap.size ≤ q → va_A [] s.heap.size q := fun q h => Or.inr h
  have hP : va_P G.1 pCl [] s.heap := hP
  generalize va_A [] s.heap.size = A at hD hE hA ⊢
  have hS : va_S A s.heap s.heap [] := va_S.rf
  have hl := lv_entry ([.long (hdV n9 d9)]) (n := 2) (Nat.le_of_ble_eq_true rfl)
  rw [lg_entry_eq]
  generalize (lg_sl ([.long (hdV n9 d9)]) ++ List.replicate (2 - (lg_sl ([.long (hdV n9 d9)])).length) Slot.unset).toArray = ls at hl ⊢
  have hl : lv_has ls 2 [(0, .long (hdV n9 d9))] := hl
  refine lv_lload_n hx hb dX3_aheadOf_0 rfl (lv_at hl 0 rfl) ?_
  refine lv_ldc2 (v := 255) hx hb hown (hq _ pw_446) dX3_aheadOf_1 ?_
  refine lv_land hx hb dX3_aheadOf_4 ?_
  refine lv_topl (fun x1 e2 => ?_)
  refine lv_ldc2 (v := 64) hx hb hown (hq _ pw_447) dX3_aheadOf_5 ?_
  refine W.lcmp hx hb dX3_aheadOf_8 ?_
  refine lv_topi (fun x3 e4 => ?_)
  refine lv_if_lt (tgt := 16) hx hb dX3_aheadOf_9 (by decide) (fun c5 => ?_) (fun c5 => ?_)
  · have hd6 : d9 < 64 := (hdV_64 (n := n9) (by omega) (by omega)).mp (by rw [← e2]; exact (lg_cmp_lt _ _).mp (by rw [← e4]; exact c5))
    refine lv_iconst (v := 1) hx hb dX3_aheadOf_16 (by decide) ?_
    refine W.widen (k := 0) (n := 0) (Nat.le_of_ble_eq_true rfl) (Nat.le_of_ble_eq_true rfl) ?_
    exact W.iret (v := 1) hx hb hr (fun t ht hW => ⟨⟨_, (), rfl, (congrArg (fun z => some (Value.int z)) (show (1 : Int32) = nI a9 by rw [show a9 = 1 by omega]; rfl)), by rw [ht]; exact hP.sub [] rfl, hD.sub [] (by decide) rfl⟩, hS.F ht⟩) hS.2.2 dX3_aheadOf_17
  · have hd6 : ¬ d9 < 64 := fun z => c5 (by rw [e4]; exact (lg_cmp_lt _ _).mpr (by rw [e2]; exact (hdV_64 (n := n9) (by omega) (by omega)).mpr z))
    refine lv_iconst (v := 2) hx hb dX3_aheadOf_12 (by decide) ?_
    refine lv_goto (tgt := 17) hx hb dX3_aheadOf_13 (by decide) ?_
    refine W.widen (k := 0) (n := 0) (Nat.le_of_ble_eq_true rfl) (Nat.le_of_ble_eq_true rfl) ?_
    exact W.iret (v := 2) hx hb hr (fun t ht hW => ⟨⟨_, (), rfl, (congrArg (fun z => some (Value.int z)) (show (2 : Int32) = nI a9 by rw [show a9 = 2 by omega]; rfl)), by rw [ht]; exact hP.sub [] rfl, hD.sub [] (by decide) rfl⟩, hS.F ht⟩) hS.2.2 dX3_aheadOf_17
set_option maxHeartbeats 2000000 in
set_option maxRecDepth 100000 in
theorem Y_headOf (l : Launch) (G : pT) (h0 : Nat) (a : Nat → Nat) (F : Nat → Int32) (R : Nat → Value) (Z : Int64) (B : Nat → Nat → Int32) (J : Nat → Nat → Int64) (T : Nat → Nat) (Pi : Nat → va_E → Prop) (w : va_W) (p9 : Nat) (sp : Nat) (op : Nat) (ht : Nat) (v9 : Int64) (hsp : (sp = 34 ∧ op = 35) ∨ (sp = 35 ∧ op = 34)) (hht : 8 ≤ ht ∧ ht ≤ 3008) (hp9 : p9 < ht) (hv9 : J sp p9 = v9) (hO : OKW G h0 a (upd F 26 (nI ht)) (updR (updR R 7 (.ref (a sp))) 8 (.ref (a op))) Z B J T Pi w) : PM l G pX0 yX3_headOf cX3_headOf 4 (some .long) ({ frames := 3, cells := 0, slots := 0, locals := 81 }) [.ref (a 28), .long (rfV p9)] w (fun (v : Option Value) (u : va_W × (Unit)) => v = some (.long v9) ∧ (OKW G h0 a (upd F 26 (nI ht)) (updR (updR R 7 (.ref (a sp))) 8 (.ref (a op))) Z B J T Pi u.1)) (fun u => u.1) := by
  intro sz
  refine Met.ofW (cc := cX3_headOf) (maxL := 4) (ret := (some .long)) (by decide) rfl ?_
  intro p e s m args below meth c s₁ B9 hml hv
  obtain ⟨rfl, hsz, hP, hD0, hE, hX⟩ := hv
  have hx := B9.exec
  have hb := B9.bytes
  have hr := B9.returns
  have hts := atoms_spec (ws := Cond.code yX3_headOf cX3_headOf 4 (some .long) :: pw) B9.pre
  have hq : ∀ w ∈ pw, w.before _ s = true := fun w h => hts w (List.mem_cons_of_mem _ h)
  have hown : s.vm.findClass RX3 = some m.cls := findClass_of_methodNamed B9.named
  have hlocks := B9.notSynchronized
  subst hsz
  have hD := hD0.self (sz := s.heap.size)
  have hA : ∀ q : Nat, s.heap.size ≤ q → va_A w s.heap.size q := fun q h => Or.inr h
  generalize va_A w s.heap.size = A at hD hE hA ⊢
  have hS : va_S A s.heap s.heap [] := va_S.rf
  have hl := lv_entry ([.ref (a 28), .long (rfV p9)]) (n := 4) (Nat.le_of_ble_eq_true rfl)
  rw [lg_entry_eq]
  generalize (lg_sl ([.ref (a 28), .long (rfV p9)]) ++ List.replicate (4 - (lg_sl ([.ref (a 28), .long (rfV p9)])).length) Slot.unset).toArray = ls at hl ⊢
  have hl : lv_has ls 4 [(0, .ref (a 28)), (1, .long (rfV p9))] := hl
  rcases hsp with ⟨rfl, rfl⟩ | ⟨rfl, rfl⟩
  · skip
    refine lv_lload_n hx hb dX3_headOf_0 rfl (lv_at hl 1 rfl) ?_
    refine lv_l2i hx hb dX3_headOf_1 rfl ?_
    refine lv_topi (fun x1 e2 => ?_)
    rw [show x1 = nI p9 from e2.trans rfV_int]
    refine lv_istore_n (lv' := [(3, .int (nI p9)), (0, .ref (a 28)), (1, .long (rfV p9))]) hx hb dX3_headOf_2 rfl hl (by decide) rfl (fun ls hl => ?_)
    refine lv_lload_n hx hb dX3_headOf_3 rfl (lv_at hl 2 rfl) ?_
    refine pc_SN (G := G) (As := [.long (rfV p9)]) (rest := []) hx hb hml hown hq hE hX pX0_al hP hS hA hl.1 (s_isRefR l G p9) (gS pw_438 pw_439 pw_440 pw_423) hS_X3_isReference rfl (Nat.le_of_ble_eq_true rfl) dX3_headOf_4 ⟨Nat.le_of_ble_eq_true rfl, Nat.le_of_ble_eq_true rfl⟩ ⟨Nat.le_of_ble_eq_true rfl, Nat.le_of_ble_eq_true rfl⟩ (fun v5 u3 H locs hw4 hP hS => ?_)
    obtain rfl : v5 = some (.int 1) := hw4
    refine W.widen (k := 0) (n := 0) (Nat.le_of_ble_eq_true rfl) (Nat.le_of_ble_eq_true rfl) ?_
    refine W.eq (g2 := F0 m 7 ls [.int 1]) rfl ?_
    refine lv_if_eq (tgt := 31) hx hb dX3_headOf_7 (by decide) (fun c6 => absurd c6 (by decide)) (fun c6 => ?_)
    refine lv_iload_n hx hb dX3_headOf_10 rfl (lv_at hl 0 rfl) ?_
    refine lv_if_lt (tgt := 31) hx hb dX3_headOf_11 (by decide) (fun c7 => (by have n8 : p9 < 0 := (nI_ltI (a := p9) (b := 0) (by omega) (by omega)).mp c7; omega)) (fun c7 => ?_)
    refine lv_iload_n hx hb dX3_headOf_14 rfl (lv_at hl 0 rfl) ?_
    refine lv_aload_n hx hb dX3_headOf_15 rfl (lv_at hl 1 rfl) ?_
    refine c_get (v := .int (nI ht)) (C := RX3) (Tc := TX3) (N := 5) (ci := 3) hx hb hq pin_wsX30 hown hE hP hO 29 (sg_29 G h0 a _ _ _ _ _) rfl 2 (by decide) (hq _ pw_417) (fun _ h9 => h9) rfl dX3_headOf_16 ?_
    refine lv_icmp_ge (tgt := 31) hx hb dX3_headOf_19 (by decide) (fun c9 => (by have n10 : ht ≤ p9 := (nI_leI (a := ht) (b := p9) (by omega) (by omega)).mp c9; omega)) (fun c9 => ?_)
    refine lv_aload_n hx hb dX3_headOf_22 rfl (lv_at hl 1 rfl) ?_
    refine c_get (v := .ref (a 34)) (C := RX3) (Tc := TX3) (N := 5) (ci := 3) hx hb hq pin_wsX30 hown hE hP hO 29 (sg_29 G h0 a _ _ _ _ _) rfl 0 (by decide) (hq _ pw_415) (fun _ h9 => h9) rfl dX3_headOf_23 ?_
    refine lv_iload_n hx hb dX3_headOf_26 rfl (lv_at hl 0 rfl) ?_
    refine c_ldl (f := (J 34)) (n := 3008) (t0 := 2) hx hb hE hP hO 30 (sg_30 G h0 a _ _ _ _ _) rfl (vp_in_nI (by omega) (by decide)) dX3_headOf_27 ?_
    rw [(nI_clamp (show p9 < 2 ^ 31 by omega))]
    refine lv_topl (fun x11 e12 => ?_)
    rw [show x11 = v9 from e12.trans hv9]
    refine lv_goto (tgt := 32) hx hb dX3_headOf_28 (by decide) ?_
    have hO : OKW G h0 a (upd F 26 (nI ht)) (updR (updR R 7 (.ref (a 34))) 8 (.ref (a 35))) Z B J T Pi w := hO.to rfl
    exact W.lret (v := v9) hx hb hr (fun t99 ht99 hW99 => ⟨⟨_, (w, ()), rfl, ⟨rfl, hO⟩, by rw [ht99]; exact hP, hD⟩, hS.F ht99⟩) hS.2.2 dX3_headOf_32
  · skip
    refine lv_lload_n hx hb dX3_headOf_0 rfl (lv_at hl 1 rfl) ?_
    refine lv_l2i hx hb dX3_headOf_1 rfl ?_
    refine lv_topi (fun x13 e14 => ?_)
    rw [show x13 = nI p9 from e14.trans rfV_int]
    refine lv_istore_n (lv' := [(3, .int (nI p9)), (0, .ref (a 28)), (1, .long (rfV p9))]) hx hb dX3_headOf_2 rfl hl (by decide) rfl (fun ls hl => ?_)
    refine lv_lload_n hx hb dX3_headOf_3 rfl (lv_at hl 2 rfl) ?_
    refine pc_SN (G := G) (As := [.long (rfV p9)]) (rest := []) hx hb hml hown hq hE hX pX0_al hP hS hA hl.1 (s_isRefR l G p9) (gS pw_438 pw_439 pw_440 pw_423) hS_X3_isReference rfl (Nat.le_of_ble_eq_true rfl) dX3_headOf_4 ⟨Nat.le_of_ble_eq_true rfl, Nat.le_of_ble_eq_true rfl⟩ ⟨Nat.le_of_ble_eq_true rfl, Nat.le_of_ble_eq_true rfl⟩ (fun v17 u15 H locs hw16 hP hS => ?_)
    obtain rfl : v17 = some (.int 1) := hw16
    refine W.widen (k := 0) (n := 0) (Nat.le_of_ble_eq_true rfl) (Nat.le_of_ble_eq_true rfl) ?_
    refine W.eq (g2 := F0 m 7 ls [.int 1]) rfl ?_
    refine lv_if_eq (tgt := 31) hx hb dX3_headOf_7 (by decide) (fun c18 => absurd c18 (by decide)) (fun c18 => ?_)
    refine lv_iload_n hx hb dX3_headOf_10 rfl (lv_at hl 0 rfl) ?_
    refine lv_if_lt (tgt := 31) hx hb dX3_headOf_11 (by decide) (fun c19 => (by have n20 : p9 < 0 := (nI_ltI (a := p9) (b := 0) (by omega) (by omega)).mp c19; omega)) (fun c19 => ?_)
    refine lv_iload_n hx hb dX3_headOf_14 rfl (lv_at hl 0 rfl) ?_
    refine lv_aload_n hx hb dX3_headOf_15 rfl (lv_at hl 1 rfl) ?_
    refine c_get (v := .int (nI ht)) (C := RX3) (Tc := TX3) (N := 5) (ci := 3) hx hb hq pin_wsX30 hown hE hP hO 29 (sg_29 G h0 a _ _ _ _ _) rfl 2 (by decide) (hq _ pw_417) (fun _ h9 => h9) rfl dX3_headOf_16 ?_
    refine lv_icmp_ge (tgt := 31) hx hb dX3_headOf_19 (by decide) (fun c21 => (by have n22 : ht ≤ p9 := (nI_leI (a := ht) (b := p9) (by omega) (by omega)).mp c21; omega)) (fun c21 => ?_)
    refine lv_aload_n hx hb dX3_headOf_22 rfl (lv_at hl 1 rfl) ?_
    refine c_get (v := .ref (a 35)) (C := RX3) (Tc := TX3) (N := 5) (ci := 3) hx hb hq pin_wsX30 hown hE hP hO 29 (sg_29 G h0 a _ _ _ _ _) rfl 0 (by decide) (hq _ pw_415) (fun _ h9 => h9) rfl dX3_headOf_23 ?_
    refine lv_iload_n hx hb dX3_headOf_26 rfl (lv_at hl 0 rfl) ?_
    refine c_ldl (f := (J 35)) (n := 3008) (t0 := 2) hx hb hE hP hO 31 (sg_31 G h0 a _ _ _ _ _) rfl (vp_in_nI (by omega) (by decide)) dX3_headOf_27 ?_
    rw [(nI_clamp (show p9 < 2 ^ 31 by omega))]
    refine lv_topl (fun x23 e24 => ?_)
    rw [show x23 = v9 from e24.trans hv9]
    refine lv_goto (tgt := 32) hx hb dX3_headOf_28 (by decide) ?_
    have hO : OKW G h0 a (upd F 26 (nI ht)) (updR (updR R 7 (.ref (a 35))) 8 (.ref (a 34))) Z B J T Pi w := hO.to rfl
    exact W.lret (v := v9) hx hb hr (fun t99 ht99 hW99 => ⟨⟨_, (w, ()), rfl, ⟨rfl, hO⟩, by rw [ht99]; exact hP, hD⟩, hS.F ht99⟩) hS.2.2 dX3_headOf_32
set_option maxHeartbeats 2000000 in
set_option maxRecDepth 100000 in
theorem Y_typeOf (l : Launch) (G : pT) (h0 : Nat) (a : Nat → Nat) (F : Nat → Int32) (R : Nat → Value) (Z : Int64) (B : Nat → Nat → Int32) (J : Nat → Nat → Int64) (T : Nat → Nat) (Pi : Nat → va_E → Prop) (w : va_W) (p9 : Nat) (n9 : Nat) (d9 : Nat) (sp : Nat) (op : Nat) (ht : Nat) (hsp : (sp = 34 ∧ op = 35) ∨ (sp = 35 ∧ op = 34)) (hht : 8 ≤ ht ∧ ht ≤ 3008) (hn9 : 1 ≤ n9 ∧ n9 ≤ 3008 ∧ d9 < 128 ∧ p9 < ht) (hv9 : J sp p9 = hdV n9 d9) (hO : OKW G h0 a (upd F 26 (nI ht)) (updR (updR R 7 (.ref (a sp))) 8 (.ref (a op))) Z B J T Pi w) : PM l G pX0 yX3_typeOf cX3_typeOf 5 (some .int) ({ frames := 4, cells := 0, slots := 0, locals := 104 }) [.ref (a 28), .long (rfV p9)] w (fun (v : Option Value) (u : va_W × (Unit)) => v = some (.int (nI d9)) ∧ (OKW G h0 a (upd F 26 (nI ht)) (updR (updR R 7 (.ref (a sp))) 8 (.ref (a op))) Z B J T Pi u.1)) (fun u => u.1) := by
  intro sz
  refine Met.ofW (cc := cX3_typeOf) (maxL := 5) (ret := (some .int)) (by decide) rfl ?_
  intro p e s m args below meth c s₁ B9 hml hv
  obtain ⟨rfl, hsz, hP, hD0, hE, hX⟩ := hv
  have hx := B9.exec
  have hb := B9.bytes
  have hr := B9.returns
  have hts := atoms_spec (ws := Cond.code yX3_typeOf cX3_typeOf 5 (some .int) :: pw) B9.pre
  have hq : ∀ w ∈ pw, w.before _ s = true := fun w h => hts w (List.mem_cons_of_mem _ h)
  have hown : s.vm.findClass RX3 = some m.cls := findClass_of_methodNamed B9.named
  have hlocks := B9.notSynchronized
  subst hsz
  have hD := hD0.self (sz := s.heap.size)
  have hA : ∀ q : Nat, s.heap.size ≤ q → va_A w s.heap.size q := fun q h => Or.inr h
  generalize va_A w s.heap.size = A at hD hE hA ⊢
  have hS : va_S A s.heap s.heap [] := va_S.rf
  have hl := lv_entry ([.ref (a 28), .long (rfV p9)]) (n := 5) (Nat.le_of_ble_eq_true rfl)
  rw [lg_entry_eq]
  generalize (lg_sl ([.ref (a 28), .long (rfV p9)]) ++ List.replicate (5 - (lg_sl ([.ref (a 28), .long (rfV p9)])).length) Slot.unset).toArray = ls at hl ⊢
  have hl : lv_has ls 5 [(0, .ref (a 28)), (1, .long (rfV p9))] := hl
  refine lv_aload_n hx hb dX3_typeOf_0 rfl (lv_at hl 0 rfl) ?_
  refine lv_lload_n hx hb dX3_typeOf_1 rfl (lv_at hl 1 rfl) ?_
  have hO : OKW G h0 a (upd (upd F 26 (nI ht)) 26 (nI ht)) (updR (updR (updR (updR R 7 (.ref (a sp))) 8 (.ref (a op))) 7 (.ref (a sp))) 8 (.ref (a op))) Z B J T Pi w := hO.to rfl
  obtain ⟨_, qr4, hqr5⟩ := hO.2.1 29 _ (sg_29 G h0 a _ _ _ _ _)
  refine pc_V0 (G := G) (As := [.long (rfV p9)]) (rest := []) hx hb hml hown hq hE hX pX0_al hP hD hS hA hl.1 (Y_headOf l G h0 a (upd F 26 (nI ht)) (updR (updR R 7 (.ref (a sp))) 8 (.ref (a op))) Z B J T Pi w p9 sp op ht (hdV n9 d9) (by omega) (by omega) (by omega) hv9 hO) (gV pw_442 pw_443 pw_444 pw_440 pw_437) hV_X3_headOf qr4 3 hqr5 rfl rfl rfl (Nat.le_of_ble_eq_true rfl) dX3_typeOf_2 ⟨Nat.le_of_ble_eq_true rfl, Nat.le_of_ble_eq_true rfl⟩ ⟨Nat.le_of_ble_eq_true rfl, Nat.le_of_ble_eq_true rfl⟩ (fun v3 u1 H locs hw2 hP hD hS => ?_)
  obtain ⟨w, _⟩ := u1
  obtain ⟨hw2, hO⟩ := hw2
  obtain rfl : v3 = some (.long (hdV n9 d9)) := hw2
  have hO : OKW G h0 a (upd F 26 (nI ht)) (updR (updR R 7 (.ref (a sp))) 8 (.ref (a op))) Z B J T Pi w := hO.to rfl
  refine W.widen (k := 0) (n := 0) (Nat.le_of_ble_eq_true rfl) (Nat.le_of_ble_eq_true rfl) ?_
  refine W.eq (g2 := F0 m 5 ls [.long (hdV n9 d9)]) rfl ?_
  refine lv_lstore_n (lv' := [(3, .long (hdV n9 d9)), (0, .ref (a 28)), (1, .long (rfV p9))]) hx hb dX3_typeOf_5 rfl hl (by decide) rfl (fun ls hl => ?_)
  refine lv_lload_n hx hb dX3_typeOf_6 rfl (lv_at hl 0 rfl) ?_
  refine lv_lconst (v := 0) hx hb dX3_typeOf_7 (by decide) ?_
  refine W.lcmp hx hb dX3_typeOf_8 ?_
  refine lv_topi (fun x6 e7 => ?_)
  refine lv_if_ne (tgt := 17) hx hb dX3_typeOf_9 (by decide) (fun c8 => ?_) (fun c8 => ((hdV_pos (n := n9) (d := d9) (by omega) (by omega) (by omega)).2 ((lg_cmp_eq _ _).mp (e7.symm.trans c8))).elim)
  refine lv_lload_n hx hb dX3_typeOf_17 rfl (lv_at hl 0 rfl) ?_
  refine lv_l2i hx hb dX3_typeOf_18 rfl ?_
  refine lv_topi (fun x9 e10 => ?_)
  refine lv_sipush (v := 255) hx hb dX3_typeOf_19 (by decide) ?_
  refine lv_iand hx hb dX3_typeOf_22 ?_
  refine lv_topi (fun x11 e12 => ?_)
  rw [show x11 = nI d9 from e12.trans (by rw [e10]; exact hdV_type (by omega) (by omega))]
  have hO : OKW G h0 a (upd F 26 (nI ht)) (updR (updR R 7 (.ref (a sp))) 8 (.ref (a op))) Z B J T Pi w := hO.to rfl
  exact W.iret (v := (nI d9)) hx hb hr (fun t99 ht99 hW99 => ⟨⟨_, (w, ()), rfl, ⟨rfl, hO⟩, by rw [ht99]; exact hP, hD⟩, hS.F ht99⟩) hS.2.2 dX3_typeOf_23
set_option maxHeartbeats 2000000 in
set_option maxRecDepth 100000 in
theorem Y_partsOf (l : Launch) (G : pT) (h0 : Nat) (a : Nat → Nat) (F : Nat → Int32) (R : Nat → Value) (Z : Int64) (B : Nat → Nat → Int32) (J : Nat → Nat → Int64) (T : Nat → Nat) (Pi : Nat → va_E → Prop) (w : va_W) (p9 : Nat) (n9 : Nat) (d9 : Nat) (sp : Nat) (op : Nat) (ht : Nat) (a9 : Nat) (hsp : (sp = 34 ∧ op = 35) ∨ (sp = 35 ∧ op = 34)) (hht : 8 ≤ ht ∧ ht ≤ 3008) (hn9 : 1 ≤ n9 ∧ n9 ≤ 3008 ∧ d9 < 128 ∧ p9 < ht) (hv9 : J sp p9 = hdV n9 d9) (ha9 : (a9 = 1 ∧ d9 < 64) ∨ (a9 = 2 ∧ 64 ≤ d9)) (han : a9 ≤ n9) (hO : OKW G h0 a (upd F 26 (nI ht)) (updR (updR R 7 (.ref (a sp))) 8 (.ref (a op))) Z B J T Pi w) : PM l G pX0 yX3_partsOf cX3_partsOf 6 (some .int) ({ frames := 4, cells := 0, slots := 0, locals := 104 }) [.ref (a 28), .long (rfV p9)] w (fun (v : Option Value) (u : va_W × (Unit)) => v = some (.int (nI (n9 - a9))) ∧ (OKW G h0 a (upd F 26 (nI ht)) (updR (updR R 7 (.ref (a sp))) 8 (.ref (a op))) Z B J T Pi u.1)) (fun u => u.1) := by
  intro sz
  refine Met.ofW (cc := cX3_partsOf) (maxL := 6) (ret := (some .int)) (by decide) rfl ?_
  intro p e s m args below meth c s₁ B9 hml hv
  obtain ⟨rfl, hsz, hP, hD0, hE, hX⟩ := hv
  have hx := B9.exec
  have hb := B9.bytes
  have hr := B9.returns
  have hts := atoms_spec (ws := Cond.code yX3_partsOf cX3_partsOf 6 (some .int) :: pw) B9.pre
  have hq : ∀ w ∈ pw, w.before _ s = true := fun w h => hts w (List.mem_cons_of_mem _ h)
  have hown : s.vm.findClass RX3 = some m.cls := findClass_of_methodNamed B9.named
  have hlocks := B9.notSynchronized
  subst hsz
  have hD := hD0.self (sz := s.heap.size)
  have hA : ∀ q : Nat, s.heap.size ≤ q → va_A w s.heap.size q := fun q h => Or.inr h
  generalize va_A w s.heap.size = A at hD hE hA ⊢
  have hS : va_S A s.heap s.heap [] := va_S.rf
  have hl := lv_entry ([.ref (a 28), .long (rfV p9)]) (n := 6) (Nat.le_of_ble_eq_true rfl)
  rw [lg_entry_eq]
  generalize (lg_sl ([.ref (a 28), .long (rfV p9)]) ++ List.replicate (6 - (lg_sl ([.ref (a 28), .long (rfV p9)])).length) Slot.unset).toArray = ls at hl ⊢
  have hl : lv_has ls 6 [(0, .ref (a 28)), (1, .long (rfV p9))] := hl
  refine lv_aload_n hx hb dX3_partsOf_0 rfl (lv_at hl 0 rfl) ?_
  refine lv_lload_n hx hb dX3_partsOf_1 rfl (lv_at hl 1 rfl) ?_
  have hO : OKW G h0 a (upd (upd F 26 (nI ht)) 26 (nI ht)) (updR (updR (updR (updR R 7 (.ref (a sp))) 8 (.ref (a op))) 7 (.ref (a sp))) 8 (.ref (a op))) Z B J T Pi w := hO.to rfl
  obtain ⟨_, qr4, hqr5⟩ := hO.2.1 29 _ (sg_29 G h0 a _ _ _ _ _)
  refine pc_V0 (G := G) (As := [.long (rfV p9)]) (rest := []) hx hb hml hown hq hE hX pX0_al hP hD hS hA hl.1 (Y_headOf l G h0 a (upd F 26 (nI ht)) (updR (updR R 7 (.ref (a sp))) 8 (.ref (a op))) Z B J T Pi w p9 sp op ht (hdV n9 d9) (by omega) (by omega) (by omega) hv9 hO) (gV pw_442 pw_443 pw_444 pw_440 pw_437) hV_X3_headOf qr4 3 hqr5 rfl rfl rfl (Nat.le_of_ble_eq_true rfl) dX3_partsOf_2 ⟨Nat.le_of_ble_eq_true rfl, Nat.le_of_ble_eq_true rfl⟩ ⟨Nat.le_of_ble_eq_true rfl, Nat.le_of_ble_eq_true rfl⟩ (fun v3 u1 H locs hw2 hP hD hS => ?_)
  obtain ⟨w, _⟩ := u1
  obtain ⟨hw2, hO⟩ := hw2
  obtain rfl : v3 = some (.long (hdV n9 d9)) := hw2
  have hO : OKW G h0 a (upd F 26 (nI ht)) (updR (updR R 7 (.ref (a sp))) 8 (.ref (a op))) Z B J T Pi w := hO.to rfl
  refine W.widen (k := 0) (n := 0) (Nat.le_of_ble_eq_true rfl) (Nat.le_of_ble_eq_true rfl) ?_
  refine W.eq (g2 := F0 m 5 ls [.long (hdV n9 d9)]) rfl ?_
  refine lv_lstore_n (lv' := [(3, .long (hdV n9 d9)), (0, .ref (a 28)), (1, .long (rfV p9))]) hx hb dX3_partsOf_5 rfl hl (by decide) rfl (fun ls hl => ?_)
  refine lv_lload_n hx hb dX3_partsOf_6 rfl (lv_at hl 0 rfl) ?_
  refine lv_bipush (v := 8) hx hb dX3_partsOf_7 (by decide) ?_
  refine lv_lshr hx hb dX3_partsOf_9 rfl ?_
  refine lv_topl (fun x6 e7 => ?_)
  refine lv_l2i hx hb dX3_partsOf_10 rfl ?_
  refine lv_topi (fun x8 e9 => ?_)
  rw [show x8 = nI n9 from e9.trans (by rw [e7]; exact hdV_cells2 (by omega) (by omega))]
  refine lv_istore (lv' := [(5, .int (nI n9)), (3, .long (hdV n9 d9)), (0, .ref (a 28)), (1, .long (rfV p9))]) hx hb dX3_partsOf_11 hl (by decide) rfl (fun ls hl => ?_)
  refine lv_iconst (v := 0) hx hb dX3_partsOf_13 (by decide) ?_
  refine lv_iload hx hb dX3_partsOf_14 (lv_at hl 0 rfl) ?_
  refine lv_lload_n hx hb dX3_partsOf_16 rfl (lv_at hl 1 rfl) ?_
  refine pc_SN (G := G) (As := [.long (hdV n9 d9)]) (rest := [.int (nI n9), .int 0]) hx hb hml hown hq hE hX pX0_al hP hS hA hl.1 (s_aheadX l G n9 d9 a9 (by omega) ha9) (gS pw_450 pw_451 pw_440 pw_445) hS_X3_aheadOf rfl (Nat.le_of_ble_eq_true rfl) dX3_partsOf_17 ⟨Nat.le_of_ble_eq_true rfl, Nat.le_of_ble_eq_true rfl⟩ ⟨Nat.le_of_ble_eq_true rfl, Nat.le_of_ble_eq_true rfl⟩ (fun v12 u10 H locs hw11 hP hS => ?_)
  obtain rfl : v12 = some (.int (nI a9)) := hw11
  refine W.widen (k := 0) (n := 0) (Nat.le_of_ble_eq_true rfl) (Nat.le_of_ble_eq_true rfl) ?_
  refine W.eq (g2 := F0 m 20 ls [.int (nI a9), .int (nI n9), .int 0]) rfl ?_
  refine lv_isub hx hb dX3_partsOf_20 ?_
  refine lv_topi (fun x13 e14 => ?_)
  obtain rfl : x13 = nI (n9 - a9) := e14.trans (nI_subN (a := a9) (b := n9) (by omega))
  refine va_mmax (own := RX3) hx hb (by rw [hml]; exact hl.1.symm) hown (hq _ pw_449) (hq _ pw_51) (hq _ pw_52) (hq _ pw_53) (Nat.le_of_ble_eq_true rfl) (Nat.le_of_ble_eq_true rfl) (Nat.le_of_ble_eq_true rfl) (Nat.le_of_ble_eq_true rfl) dX3_partsOf_21 ?_
  refine lv_topi (fun x15 e16 => ?_)
  rw [show x15 = nI (n9 - a9) from e16.trans (mx_0 (by omega))]
  have hO : OKW G h0 a (upd F 26 (nI ht)) (updR (updR R 7 (.ref (a sp))) 8 (.ref (a op))) Z B J T Pi w := hO.to rfl
  exact W.iret (v := (nI (n9 - a9))) hx hb hr (fun t99 ht99 hW99 => ⟨⟨_, (w, ()), rfl, ⟨rfl, hO⟩, by rw [ht99]; exact hP, hD⟩, hS.F ht99⟩) hS.2.2 dX3_partsOf_24
set_option maxHeartbeats 6000000 in
set_option maxRecDepth 100000 in
theorem Y_get (l : Launch) (G : pT) (h0 : Nat) (a : Nat → Nat) (F : Nat → Int32) (R : Nat → Value) (Z : Int64) (B : Nat → Nat → Int32) (J : Nat → Nat → Int64) (T : Nat → Nat) (Pi : Nat → va_E → Prop) (w : va_W) (p9 : Nat) (n9 : Nat) (d9 : Nat) (sp : Nat) (op : Nat) (ht : Nat) (a9 : Nat) (i9 : Nat) (x9 : Int64) (hsp : (sp = 34 ∧ op = 35) ∨ (sp = 35 ∧ op = 34)) (hht : 8 ≤ ht ∧ ht ≤ 3008) (hn9 : 1 ≤ n9 ∧ n9 ≤ 3008 ∧ d9 < 128 ∧ p9 < ht) (hv9 : J sp p9 = hdV n9 d9) (ha9 : (a9 = 1 ∧ d9 < 64) ∨ (a9 = 2 ∧ 64 ≤ d9)) (han : a9 ≤ n9) (hi9 : i9 + a9 < n9 ∧ p9 + n9 ≤ ht) (hx9 : J sp (p9 + a9 + i9) = x9) (hO : OKW G h0 a (upd F 26 (nI ht)) (updR (updR R 7 (.ref (a sp))) 8 (.ref (a op))) Z B J T Pi w) : PM l G pX0 yX3_get cX3_get 5 (some .long) ({ frames := 5, cells := 0, slots := 0, locals := 129 }) [.ref (a 28), .long (rfV p9), .int (nI i9)] w (fun (v : Option Value) (u : va_W × (Unit)) => v = some (.long x9) ∧ (OKW G h0 a (upd F 26 (nI ht)) (updR (updR R 7 (.ref (a sp))) 8 (.ref (a op))) Z B J T Pi u.1)) (fun u => u.1) := by
  intro sz
  refine Met.ofW (cc := cX3_get) (maxL := 5) (ret := (some .long)) (by decide) rfl ?_
  intro p e s m args below meth c s₁ B9 hml hv
  obtain ⟨rfl, hsz, hP, hD0, hE, hX⟩ := hv
  have hx := B9.exec
  have hb := B9.bytes
  have hr := B9.returns
  have hts := atoms_spec (ws := Cond.code yX3_get cX3_get 5 (some .long) :: pw) B9.pre
  have hq : ∀ w ∈ pw, w.before _ s = true := fun w h => hts w (List.mem_cons_of_mem _ h)
  have hown : s.vm.findClass RX3 = some m.cls := findClass_of_methodNamed B9.named
  have hlocks := B9.notSynchronized
  subst hsz
  have hD := hD0.self (sz := s.heap.size)
  have hA : ∀ q : Nat, s.heap.size ≤ q → va_A w s.heap.size q := fun q h => Or.inr h
  generalize va_A w s.heap.size = A at hD hE hA ⊢
  have hS : va_S A s.heap s.heap [] := va_S.rf
  have hl := lv_entry ([.ref (a 28), .long (rfV p9), .int (nI i9)]) (n := 5) (Nat.le_of_ble_eq_true rfl)
  rw [lg_entry_eq]
  generalize (lg_sl ([.ref (a 28), .long (rfV p9), .int (nI i9)]) ++ List.replicate (5 - (lg_sl ([.ref (a 28), .long (rfV p9), .int (nI i9)])).length) Slot.unset).toArray = ls at hl ⊢
  have hl : lv_has ls 5 [(0, .ref (a 28)), (1, .long (rfV p9)), (3, .int (nI i9))] := hl
  rcases hsp with ⟨rfl, rfl⟩ | ⟨rfl, rfl⟩
  · skip
    refine lv_lload_n hx hb dX3_get_0 rfl (lv_at hl 1 rfl) ?_
    refine lv_l2i hx hb dX3_get_1 rfl ?_
    refine lv_topi (fun x1 e2 => ?_)
    rw [show x1 = nI p9 from e2.trans rfV_int]
    refine lv_aload_n hx hb dX3_get_2 rfl (lv_at hl 0 rfl) ?_
    refine lv_lload_n hx hb dX3_get_3 rfl (lv_at hl 1 rfl) ?_
    have hO : OKW G h0 a (upd (upd F 26 (nI ht)) 26 (nI ht)) (updR (updR (updR (updR R 7 (.ref (a 34))) 8 (.ref (a 35))) 7 (.ref (a 34))) 8 (.ref (a 35))) Z B J T Pi w := hO.to rfl
    obtain ⟨_, qr6, hqr7⟩ := hO.2.1 29 _ (sg_29 G h0 a _ _ _ _ _)
    refine pc_V0 (G := G) (As := [.long (rfV p9)]) (rest := [.int (nI p9)]) hx hb hml hown hq hE hX pX0_al hP hD hS hA hl.1 (Y_headOf l G h0 a (upd F 26 (nI ht)) (updR (updR R 7 (.ref (a 34))) 8 (.ref (a 35))) Z B J T Pi w p9 34 35 ht (hdV n9 d9) (by omega) (by omega) (by omega) hv9 hO) (gV pw_442 pw_443 pw_444 pw_440 pw_437) hV_X3_headOf qr6 3 hqr7 rfl rfl rfl (Nat.le_of_ble_eq_true rfl) dX3_get_4 ⟨Nat.le_of_ble_eq_true rfl, Nat.le_of_ble_eq_true rfl⟩ ⟨Nat.le_of_ble_eq_true rfl, Nat.le_of_ble_eq_true rfl⟩ (fun v5 u3 H locs hw4 hP hD hS => ?_)
    obtain ⟨w, _⟩ := u3
    obtain ⟨hw4, hO⟩ := hw4
    obtain rfl : v5 = some (.long (hdV n9 d9)) := hw4
    have hO : OKW G h0 a (upd F 26 (nI ht)) (updR (updR R 7 (.ref (a 34))) 8 (.ref (a 35))) Z B J T Pi w := hO.to rfl
    refine W.widen (k := 0) (n := 0) (Nat.le_of_ble_eq_true rfl) (Nat.le_of_ble_eq_true rfl) ?_
    refine W.eq (g2 := F0 m 7 ls [.long (hdV n9 d9), .int (nI p9)]) rfl ?_
    refine pc_SN (G := G) (As := [.long (hdV n9 d9)]) (rest := [.int (nI p9)]) hx hb hml hown hq hE hX pX0_al hP hS hA hl.1 (s_aheadX l G n9 d9 a9 (by omega) ha9) (gS pw_450 pw_451 pw_440 pw_445) hS_X3_aheadOf rfl (Nat.le_of_ble_eq_true rfl) dX3_get_7 ⟨Nat.le_of_ble_eq_true rfl, Nat.le_of_ble_eq_true rfl⟩ ⟨Nat.le_of_ble_eq_true rfl, Nat.le_of_ble_eq_true rfl⟩ (fun v10 u8 H locs hw9 hP hS => ?_)
    obtain rfl : v10 = some (.int (nI a9)) := hw9
    refine W.widen (k := 0) (n := 0) (Nat.le_of_ble_eq_true rfl) (Nat.le_of_ble_eq_true rfl) ?_
    refine W.eq (g2 := F0 m 10 ls [.int (nI a9), .int (nI p9)]) rfl ?_
    refine lv_iadd hx hb dX3_get_10 ?_
    refine lv_topi (fun x11 e12 => ?_)
    obtain rfl : x11 = nI (p9 + a9) := e12.trans (nI_add (p9) (a9))
    refine lv_iload_n hx hb dX3_get_11 rfl (lv_at hl 2 rfl) ?_
    refine lv_iadd hx hb dX3_get_12 ?_
    refine lv_topi (fun x13 e14 => ?_)
    obtain rfl : x13 = nI ((p9 + a9) + i9) := e14.trans (nI_add ((p9 + a9)) (i9))
    refine lv_istore (lv' := [(4, .int (nI ((p9 + a9) + i9))), (0, .ref (a 28)), (1, .long (rfV p9)), (3, .int (nI i9))]) hx hb dX3_get_13 hl (by decide) rfl (fun ls hl => ?_)
    refine lv_iload_n hx hb dX3_get_15 rfl (lv_at hl 3 rfl) ?_
    refine lv_if_lt (tgt := 52) hx hb dX3_get_16 (by decide) (fun c15 => (by have n16 : i9 < 0 := (nI_ltI (a := i9) (b := 0) (by omega) (by omega)).mp c15; omega)) (fun c15 => ?_)
    refine lv_iload_n hx hb dX3_get_19 rfl (lv_at hl 3 rfl) ?_
    refine lv_aload_n hx hb dX3_get_20 rfl (lv_at hl 1 rfl) ?_
    refine lv_lload_n hx hb dX3_get_21 rfl (lv_at hl 2 rfl) ?_
    have hO : OKW G h0 a (upd (upd F 26 (nI ht)) 26 (nI ht)) (updR (updR (updR (updR R 7 (.ref (a 34))) 8 (.ref (a 35))) 7 (.ref (a 34))) 8 (.ref (a 35))) Z B J T Pi w := hO.to rfl
    obtain ⟨_, qr20, hqr21⟩ := hO.2.1 29 _ (sg_29 G h0 a _ _ _ _ _)
    refine pc_V0 (G := G) (As := [.long (rfV p9)]) (rest := [.int (nI i9)]) hx hb hml hown hq hE hX pX0_al hP hD hS hA hl.1 (Y_partsOf l G h0 a (upd F 26 (nI ht)) (updR (updR R 7 (.ref (a 34))) 8 (.ref (a 35))) Z B J T Pi w p9 n9 d9 34 35 ht a9 (by omega) (by omega) (by omega) hv9 ha9 (by omega) hO) (gV pw_453 pw_454 pw_455 pw_440 pw_448) hV_X3_partsOf qr20 3 hqr21 rfl rfl rfl (Nat.le_of_ble_eq_true rfl) dX3_get_22 ⟨Nat.le_of_ble_eq_true rfl, Nat.le_of_ble_eq_true rfl⟩ ⟨Nat.le_of_ble_eq_true rfl, Nat.le_of_ble_eq_true rfl⟩ (fun v19 u17 H locs hw18 hP hD hS => ?_)
    obtain ⟨w, _⟩ := u17
    obtain ⟨hw18, hO⟩ := hw18
    obtain rfl : v19 = some (.int (nI (n9 - a9))) := hw18
    have hO : OKW G h0 a (upd F 26 (nI ht)) (updR (updR R 7 (.ref (a 34))) 8 (.ref (a 35))) Z B J T Pi w := hO.to rfl
    refine W.widen (k := 0) (n := 0) (Nat.le_of_ble_eq_true rfl) (Nat.le_of_ble_eq_true rfl) ?_
    refine W.eq (g2 := F0 m 25 ls [.int (nI (n9 - a9)), .int (nI i9)]) rfl ?_
    refine lv_icmp_ge (tgt := 52) hx hb dX3_get_25 (by decide) (fun c22 => (by have n23 : (n9 - a9) ≤ i9 := (nI_leI (a := (n9 - a9)) (b := i9) (by omega) (by omega)).mp c22; omega)) (fun c22 => ?_)
    refine lv_iload hx hb dX3_get_28 (lv_at hl 0 rfl) ?_
    refine lv_if_lt (tgt := 52) hx hb dX3_get_30 (by decide) (fun c24 => (by have n25 : ((p9 + a9) + i9) < 0 := (nI_ltI (a := ((p9 + a9) + i9)) (b := 0) (by omega) (by omega)).mp c24; omega)) (fun c24 => ?_)
    refine lv_iload hx hb dX3_get_33 (lv_at hl 0 rfl) ?_
    refine lv_aload_n hx hb dX3_get_35 rfl (lv_at hl 1 rfl) ?_
    refine c_get (v := .int (nI ht)) (C := RX3) (Tc := TX3) (N := 5) (ci := 3) hx hb hq pin_wsX30 hown hE hP hO 29 (sg_29 G h0 a _ _ _ _ _) rfl 2 (by decide) (hq _ pw_417) (fun _ h9 => h9) rfl dX3_get_36 ?_
    refine lv_icmp_ge (tgt := 52) hx hb dX3_get_39 (by decide) (fun c26 => (by have n27 : ht ≤ ((p9 + a9) + i9) := (nI_leI (a := ht) (b := ((p9 + a9) + i9)) (by omega) (by omega)).mp c26; omega)) (fun c26 => ?_)
    refine lv_aload_n hx hb dX3_get_42 rfl (lv_at hl 1 rfl) ?_
    refine c_get (v := .ref (a 34)) (C := RX3) (Tc := TX3) (N := 5) (ci := 3) hx hb hq pin_wsX30 hown hE hP hO 29 (sg_29 G h0 a _ _ _ _ _) rfl 0 (by decide) (hq _ pw_415) (fun _ h9 => h9) rfl dX3_get_43 ?_
    refine lv_iload hx hb dX3_get_46 (lv_at hl 0 rfl) ?_
    refine c_ldl (f := (J 34)) (n := 3008) (t0 := 2) hx hb hE hP hO 30 (sg_30 G h0 a _ _ _ _ _) rfl (vp_in_nI (by omega) (by decide)) dX3_get_48 ?_
    rw [(nI_clamp (show ((p9 + a9) + i9) < 2 ^ 31 by omega))]
    refine lv_topl (fun x28 e29 => ?_)
    rw [show x28 = x9 from e29.trans hx9]
    refine lv_goto (tgt := 53) hx hb dX3_get_49 (by decide) ?_
    have hO : OKW G h0 a (upd F 26 (nI ht)) (updR (updR R 7 (.ref (a 34))) 8 (.ref (a 35))) Z B J T Pi w := hO.to rfl
    exact W.lret (v := x9) hx hb hr (fun t99 ht99 hW99 => ⟨⟨_, (w, ()), rfl, ⟨rfl, hO⟩, by rw [ht99]; exact hP, hD⟩, hS.F ht99⟩) hS.2.2 dX3_get_53
  · skip
    refine lv_lload_n hx hb dX3_get_0 rfl (lv_at hl 1 rfl) ?_
    refine lv_l2i hx hb dX3_get_1 rfl ?_
    refine lv_topi (fun x30 e31 => ?_)
    rw [show x30 = nI p9 from e31.trans rfV_int]
    refine lv_aload_n hx hb dX3_get_2 rfl (lv_at hl 0 rfl) ?_
    refine lv_lload_n hx hb dX3_get_3 rfl (lv_at hl 1 rfl) ?_
    have hO : OKW G h0 a (upd (upd F 26 (nI ht)) 26 (nI ht)) (updR (updR (updR (updR R 7 (.ref (a 35))) 8 (.ref (a 34))) 7 (.ref (a 35))) 8 (.ref (a 34))) Z B J T Pi w := hO.to rfl
    obtain ⟨_, qr35, hqr36⟩ := hO.2.1 29 _ (sg_29 G h0 a _ _ _ _ _)
    refine pc_V0 (G := G) (As := [.long (rfV p9)]) (rest := [.int (nI p9)]) hx hb hml hown hq hE hX pX0_al hP hD hS hA hl.1 (Y_headOf l G h0 a (upd F 26 (nI ht)) (updR (updR R 7 (.ref (a 35))) 8 (.ref (a 34))) Z B J T Pi w p9 35 34 ht (hdV n9 d9) (by omega) (by omega) (by omega) hv9 hO) (gV pw_442 pw_443 pw_444 pw_440 pw_437) hV_X3_headOf qr35 3 hqr36 rfl rfl rfl (Nat.le_of_ble_eq_true rfl) dX3_get_4 ⟨Nat.le_of_ble_eq_true rfl, Nat.le_of_ble_eq_true rfl⟩ ⟨Nat.le_of_ble_eq_true rfl, Nat.le_of_ble_eq_true rfl⟩ (fun v34 u32 H locs hw33 hP hD hS => ?_)
    obtain ⟨w, _⟩ := u32
    obtain ⟨hw33, hO⟩ := hw33
    obtain rfl : v34 = some (.long (hdV n9 d9)) := hw33
    have hO : OKW G h0 a (upd F 26 (nI ht)) (updR (updR R 7 (.ref (a 35))) 8 (.ref (a 34))) Z B J T Pi w := hO.to rfl
    refine W.widen (k := 0) (n := 0) (Nat.le_of_ble_eq_true rfl) (Nat.le_of_ble_eq_true rfl) ?_
    refine W.eq (g2 := F0 m 7 ls [.long (hdV n9 d9), .int (nI p9)]) rfl ?_
    refine pc_SN (G := G) (As := [.long (hdV n9 d9)]) (rest := [.int (nI p9)]) hx hb hml hown hq hE hX pX0_al hP hS hA hl.1 (s_aheadX l G n9 d9 a9 (by omega) ha9) (gS pw_450 pw_451 pw_440 pw_445) hS_X3_aheadOf rfl (Nat.le_of_ble_eq_true rfl) dX3_get_7 ⟨Nat.le_of_ble_eq_true rfl, Nat.le_of_ble_eq_true rfl⟩ ⟨Nat.le_of_ble_eq_true rfl, Nat.le_of_ble_eq_true rfl⟩ (fun v39 u37 H locs hw38 hP hS => ?_)
    obtain rfl : v39 = some (.int (nI a9)) := hw38
    refine W.widen (k := 0) (n := 0) (Nat.le_of_ble_eq_true rfl) (Nat.le_of_ble_eq_true rfl) ?_
    refine W.eq (g2 := F0 m 10 ls [.int (nI a9), .int (nI p9)]) rfl ?_
    refine lv_iadd hx hb dX3_get_10 ?_
    refine lv_topi (fun x40 e41 => ?_)
    obtain rfl : x40 = nI (p9 + a9) := e41.trans (nI_add (p9) (a9))
    refine lv_iload_n hx hb dX3_get_11 rfl (lv_at hl 2 rfl) ?_
    refine lv_iadd hx hb dX3_get_12 ?_
    refine lv_topi (fun x42 e43 => ?_)
    obtain rfl : x42 = nI ((p9 + a9) + i9) := e43.trans (nI_add ((p9 + a9)) (i9))
    refine lv_istore (lv' := [(4, .int (nI ((p9 + a9) + i9))), (0, .ref (a 28)), (1, .long (rfV p9)), (3, .int (nI i9))]) hx hb dX3_get_13 hl (by decide) rfl (fun ls hl => ?_)
    refine lv_iload_n hx hb dX3_get_15 rfl (lv_at hl 3 rfl) ?_
    refine lv_if_lt (tgt := 52) hx hb dX3_get_16 (by decide) (fun c44 => (by have n45 : i9 < 0 := (nI_ltI (a := i9) (b := 0) (by omega) (by omega)).mp c44; omega)) (fun c44 => ?_)
    refine lv_iload_n hx hb dX3_get_19 rfl (lv_at hl 3 rfl) ?_
    refine lv_aload_n hx hb dX3_get_20 rfl (lv_at hl 1 rfl) ?_
    refine lv_lload_n hx hb dX3_get_21 rfl (lv_at hl 2 rfl) ?_
    have hO : OKW G h0 a (upd (upd F 26 (nI ht)) 26 (nI ht)) (updR (updR (updR (updR R 7 (.ref (a 35))) 8 (.ref (a 34))) 7 (.ref (a 35))) 8 (.ref (a 34))) Z B J T Pi w := hO.to rfl
    obtain ⟨_, qr49, hqr50⟩ := hO.2.1 29 _ (sg_29 G h0 a _ _ _ _ _)
    refine pc_V0 (G := G) (As := [.long (rfV p9)]) (rest := [.int (nI i9)]) hx hb hml hown hq hE hX pX0_al hP hD hS hA hl.1 (Y_partsOf l G h0 a (upd F 26 (nI ht)) (updR (updR R 7 (.ref (a 35))) 8 (.ref (a 34))) Z B J T Pi w p9 n9 d9 35 34 ht a9 (by omega) (by omega) (by omega) hv9 ha9 (by omega) hO) (gV pw_453 pw_454 pw_455 pw_440 pw_448) hV_X3_partsOf qr49 3 hqr50 rfl rfl rfl (Nat.le_of_ble_eq_true rfl) dX3_get_22 ⟨Nat.le_of_ble_eq_true rfl, Nat.le_of_ble_eq_true rfl⟩ ⟨Nat.le_of_ble_eq_true rfl, Nat.le_of_ble_eq_true rfl⟩ (fun v48 u46 H locs hw47 hP hD hS => ?_)
    obtain ⟨w, _⟩ := u46
    obtain ⟨hw47, hO⟩ := hw47
    obtain rfl : v48 = some (.int (nI (n9 - a9))) := hw47
    have hO : OKW G h0 a (upd F 26 (nI ht)) (updR (updR R 7 (.ref (a 35))) 8 (.ref (a 34))) Z B J T Pi w := hO.to rfl
    refine W.widen (k := 0) (n := 0) (Nat.le_of_ble_eq_true rfl) (Nat.le_of_ble_eq_true rfl) ?_
    refine W.eq (g2 := F0 m 25 ls [.int (nI (n9 - a9)), .int (nI i9)]) rfl ?_
    refine lv_icmp_ge (tgt := 52) hx hb dX3_get_25 (by decide) (fun c51 => (by have n52 : (n9 - a9) ≤ i9 := (nI_leI (a := (n9 - a9)) (b := i9) (by omega) (by omega)).mp c51; omega)) (fun c51 => ?_)
    refine lv_iload hx hb dX3_get_28 (lv_at hl 0 rfl) ?_
    refine lv_if_lt (tgt := 52) hx hb dX3_get_30 (by decide) (fun c53 => (by have n54 : ((p9 + a9) + i9) < 0 := (nI_ltI (a := ((p9 + a9) + i9)) (b := 0) (by omega) (by omega)).mp c53; omega)) (fun c53 => ?_)
    refine lv_iload hx hb dX3_get_33 (lv_at hl 0 rfl) ?_
    refine lv_aload_n hx hb dX3_get_35 rfl (lv_at hl 1 rfl) ?_
    refine c_get (v := .int (nI ht)) (C := RX3) (Tc := TX3) (N := 5) (ci := 3) hx hb hq pin_wsX30 hown hE hP hO 29 (sg_29 G h0 a _ _ _ _ _) rfl 2 (by decide) (hq _ pw_417) (fun _ h9 => h9) rfl dX3_get_36 ?_
    refine lv_icmp_ge (tgt := 52) hx hb dX3_get_39 (by decide) (fun c55 => (by have n56 : ht ≤ ((p9 + a9) + i9) := (nI_leI (a := ht) (b := ((p9 + a9) + i9)) (by omega) (by omega)).mp c55; omega)) (fun c55 => ?_)
    refine lv_aload_n hx hb dX3_get_42 rfl (lv_at hl 1 rfl) ?_
    refine c_get (v := .ref (a 35)) (C := RX3) (Tc := TX3) (N := 5) (ci := 3) hx hb hq pin_wsX30 hown hE hP hO 29 (sg_29 G h0 a _ _ _ _ _) rfl 0 (by decide) (hq _ pw_415) (fun _ h9 => h9) rfl dX3_get_43 ?_
    refine lv_iload hx hb dX3_get_46 (lv_at hl 0 rfl) ?_
    refine c_ldl (f := (J 35)) (n := 3008) (t0 := 2) hx hb hE hP hO 31 (sg_31 G h0 a _ _ _ _ _) rfl (vp_in_nI (by omega) (by decide)) dX3_get_48 ?_
    rw [(nI_clamp (show ((p9 + a9) + i9) < 2 ^ 31 by omega))]
    refine lv_topl (fun x57 e58 => ?_)
    rw [show x57 = x9 from e58.trans hx9]
    refine lv_goto (tgt := 53) hx hb dX3_get_49 (by decide) ?_
    have hO : OKW G h0 a (upd F 26 (nI ht)) (updR (updR R 7 (.ref (a 35))) 8 (.ref (a 34))) Z B J T Pi w := hO.to rfl
    exact W.lret (v := x9) hx hb hr (fun t99 ht99 hW99 => ⟨⟨_, (w, ()), rfl, ⟨rfl, hO⟩, by rw [ht99]; exact hP, hD⟩, hS.F ht99⟩) hS.2.2 dX3_get_53
set_option maxHeartbeats 6000000 in
set_option maxRecDepth 100000 in
theorem Y_put (l : Launch) (G : pT) (h0 : Nat) (a : Nat → Nat) (F : Nat → Int32) (R : Nat → Value) (Z : Int64) (B : Nat → Nat → Int32) (J : Nat → Nat → Int64) (T : Nat → Nat) (Pi : Nat → va_E → Prop) (w : va_W) (p9 : Nat) (n9 : Nat) (d9 : Nat) (sp : Nat) (op : Nat) (ht : Nat) (a9 : Nat) (i9 : Nat) (x9 : Int64) (hsp : (sp = 34 ∧ op = 35) ∨ (sp = 35 ∧ op = 34)) (hht : 8 ≤ ht ∧ ht ≤ 3008) (hn9 : 1 ≤ n9 ∧ n9 ≤ 3008 ∧ d9 < 128 ∧ p9 < ht) (hv9 : J sp p9 = hdV n9 d9) (ha9 : (a9 = 1 ∧ d9 < 64) ∨ (a9 = 2 ∧ 64 ≤ d9)) (han : a9 ≤ n9) (hi9 : i9 + a9 < n9 ∧ p9 + n9 ≤ ht) (hO : OKW G h0 a (upd F 26 (nI ht)) (updR (updR R 7 (.ref (a sp))) 8 (.ref (a op))) Z B J T Pi w) : PM l G pX0 yX3_put cX3_put 7 none ({ frames := 5, cells := 0, slots := 0, locals := 129 }) [.ref (a 28), .long (rfV p9), .int (nI i9), .long x9] w (fun (v : Option Value) (u : va_W × ((Nat → Nat → Int64))) => v = none ∧ (u.2 sp = upV (J sp) (p9 + a9 + i9) x9) ∧ (u.2 29 = J 29) ∧ (u.2 op = J op) ∧ (OKW G h0 a (upd F 26 (nI ht)) (updR (updR R 7 (.ref (a sp))) 8 (.ref (a op))) Z B u.2 T Pi u.1)) (fun u => u.1) := by
  intro sz
  refine Met.ofW (cc := cX3_put) (maxL := 7) (ret := none) (by decide) rfl ?_
  intro p e s m args below meth c s₁ B9 hml hv
  obtain ⟨rfl, hsz, hP, hD0, hE, hX⟩ := hv
  have hx := B9.exec
  have hb := B9.bytes
  have hr := B9.returns
  have hts := atoms_spec (ws := Cond.code yX3_put cX3_put 7 none :: pw) B9.pre
  have hq : ∀ w ∈ pw, w.before _ s = true := fun w h => hts w (List.mem_cons_of_mem _ h)
  have hown : s.vm.findClass RX3 = some m.cls := findClass_of_methodNamed B9.named
  have hlocks := B9.notSynchronized
  subst hsz
  have hD := hD0.self (sz := s.heap.size)
  have hA : ∀ q : Nat, s.heap.size ≤ q → va_A w s.heap.size q := fun q h => Or.inr h
  generalize va_A w s.heap.size = A at hD hE hA ⊢
  have hS : va_S A s.heap s.heap [] := va_S.rf
  have hl := lv_entry ([.ref (a 28), .long (rfV p9), .int (nI i9), .long x9]) (n := 7) (Nat.le_of_ble_eq_true rfl)
  rw [lg_entry_eq]
  generalize (lg_sl ([.ref (a 28), .long (rfV p9), .int (nI i9), .long x9]) ++ List.replicate (7 - (lg_sl ([.ref (a 28), .long (rfV p9), .int (nI i9), .long x9])).length) Slot.unset).toArray = ls at hl ⊢
  have hl : lv_has ls 7 [(0, .ref (a 28)), (1, .long (rfV p9)), (3, .int (nI i9)), (4, .long x9)] := hl
  rcases hsp with ⟨rfl, rfl⟩ | ⟨rfl, rfl⟩
  · skip
    refine lv_lload_n hx hb dX3_put_0 rfl (lv_at hl 1 rfl) ?_
    refine lv_l2i hx hb dX3_put_1 rfl ?_
    refine lv_topi (fun x1 e2 => ?_)
    rw [show x1 = nI p9 from e2.trans rfV_int]
    refine lv_aload_n hx hb dX3_put_2 rfl (lv_at hl 0 rfl) ?_
    refine lv_lload_n hx hb dX3_put_3 rfl (lv_at hl 1 rfl) ?_
    have hO : OKW G h0 a (upd (upd F 26 (nI ht)) 26 (nI ht)) (updR (updR (updR (updR R 7 (.ref (a 34))) 8 (.ref (a 35))) 7 (.ref (a 34))) 8 (.ref (a 35))) Z B J T Pi w := hO.to rfl
    obtain ⟨_, qr6, hqr7⟩ := hO.2.1 29 _ (sg_29 G h0 a _ _ _ _ _)
    refine pc_V0 (G := G) (As := [.long (rfV p9)]) (rest := [.int (nI p9)]) hx hb hml hown hq hE hX pX0_al hP hD hS hA hl.1 (Y_headOf l G h0 a (upd F 26 (nI ht)) (updR (updR R 7 (.ref (a 34))) 8 (.ref (a 35))) Z B J T Pi w p9 34 35 ht (hdV n9 d9) (by omega) (by omega) (by omega) hv9 hO) (gV pw_442 pw_443 pw_444 pw_440 pw_437) hV_X3_headOf qr6 3 hqr7 rfl rfl rfl (Nat.le_of_ble_eq_true rfl) dX3_put_4 ⟨Nat.le_of_ble_eq_true rfl, Nat.le_of_ble_eq_true rfl⟩ ⟨Nat.le_of_ble_eq_true rfl, Nat.le_of_ble_eq_true rfl⟩ (fun v5 u3 H locs hw4 hP hD hS => ?_)
    obtain ⟨w, _⟩ := u3
    obtain ⟨hw4, hO⟩ := hw4
    obtain rfl : v5 = some (.long (hdV n9 d9)) := hw4
    have hO : OKW G h0 a (upd F 26 (nI ht)) (updR (updR R 7 (.ref (a 34))) 8 (.ref (a 35))) Z B J T Pi w := hO.to rfl
    refine W.widen (k := 0) (n := 0) (Nat.le_of_ble_eq_true rfl) (Nat.le_of_ble_eq_true rfl) ?_
    refine W.eq (g2 := F0 m 7 ls [.long (hdV n9 d9), .int (nI p9)]) rfl ?_
    refine pc_SN (G := G) (As := [.long (hdV n9 d9)]) (rest := [.int (nI p9)]) hx hb hml hown hq hE hX pX0_al hP hS hA hl.1 (s_aheadX l G n9 d9 a9 (by omega) ha9) (gS pw_450 pw_451 pw_440 pw_445) hS_X3_aheadOf rfl (Nat.le_of_ble_eq_true rfl) dX3_put_7 ⟨Nat.le_of_ble_eq_true rfl, Nat.le_of_ble_eq_true rfl⟩ ⟨Nat.le_of_ble_eq_true rfl, Nat.le_of_ble_eq_true rfl⟩ (fun v10 u8 H locs hw9 hP hS => ?_)
    obtain rfl : v10 = some (.int (nI a9)) := hw9
    refine W.widen (k := 0) (n := 0) (Nat.le_of_ble_eq_true rfl) (Nat.le_of_ble_eq_true rfl) ?_
    refine W.eq (g2 := F0 m 10 ls [.int (nI a9), .int (nI p9)]) rfl ?_
    refine lv_iadd hx hb dX3_put_10 ?_
    refine lv_topi (fun x11 e12 => ?_)
    obtain rfl : x11 = nI (p9 + a9) := e12.trans (nI_add (p9) (a9))
    refine lv_iload_n hx hb dX3_put_11 rfl (lv_at hl 2 rfl) ?_
    refine lv_iadd hx hb dX3_put_12 ?_
    refine lv_topi (fun x13 e14 => ?_)
    obtain rfl : x13 = nI ((p9 + a9) + i9) := e14.trans (nI_add ((p9 + a9)) (i9))
    refine lv_istore (lv' := [(6, .int (nI ((p9 + a9) + i9))), (0, .ref (a 28)), (1, .long (rfV p9)), (3, .int (nI i9)), (4, .long x9)]) hx hb dX3_put_13 hl (by decide) rfl (fun ls hl => ?_)
    refine lv_iload_n hx hb dX3_put_15 rfl (lv_at hl 3 rfl) ?_
    refine lv_if_lt (tgt := 51) hx hb dX3_put_16 (by decide) (fun c15 => (by have n16 : i9 < 0 := (nI_ltI (a := i9) (b := 0) (by omega) (by omega)).mp c15; omega)) (fun c15 => ?_)
    refine lv_iload_n hx hb dX3_put_19 rfl (lv_at hl 3 rfl) ?_
    refine lv_aload_n hx hb dX3_put_20 rfl (lv_at hl 1 rfl) ?_
    refine lv_lload_n hx hb dX3_put_21 rfl (lv_at hl 2 rfl) ?_
    have hO : OKW G h0 a (upd (upd F 26 (nI ht)) 26 (nI ht)) (updR (updR (updR (updR R 7 (.ref (a 34))) 8 (.ref (a 35))) 7 (.ref (a 34))) 8 (.ref (a 35))) Z B J T Pi w := hO.to rfl
    obtain ⟨_, qr20, hqr21⟩ := hO.2.1 29 _ (sg_29 G h0 a _ _ _ _ _)
    refine pc_V0 (G := G) (As := [.long (rfV p9)]) (rest := [.int (nI i9)]) hx hb hml hown hq hE hX pX0_al hP hD hS hA hl.1 (Y_partsOf l G h0 a (upd F 26 (nI ht)) (updR (updR R 7 (.ref (a 34))) 8 (.ref (a 35))) Z B J T Pi w p9 n9 d9 34 35 ht a9 (by omega) (by omega) (by omega) hv9 ha9 (by omega) hO) (gV pw_453 pw_454 pw_455 pw_440 pw_448) hV_X3_partsOf qr20 3 hqr21 rfl rfl rfl (Nat.le_of_ble_eq_true rfl) dX3_put_22 ⟨Nat.le_of_ble_eq_true rfl, Nat.le_of_ble_eq_true rfl⟩ ⟨Nat.le_of_ble_eq_true rfl, Nat.le_of_ble_eq_true rfl⟩ (fun v19 u17 H locs hw18 hP hD hS => ?_)
    obtain ⟨w, _⟩ := u17
    obtain ⟨hw18, hO⟩ := hw18
    obtain rfl : v19 = some (.int (nI (n9 - a9))) := hw18
    have hO : OKW G h0 a (upd F 26 (nI ht)) (updR (updR R 7 (.ref (a 34))) 8 (.ref (a 35))) Z B J T Pi w := hO.to rfl
    refine W.widen (k := 0) (n := 0) (Nat.le_of_ble_eq_true rfl) (Nat.le_of_ble_eq_true rfl) ?_
    refine W.eq (g2 := F0 m 25 ls [.int (nI (n9 - a9)), .int (nI i9)]) rfl ?_
    refine lv_icmp_ge (tgt := 51) hx hb dX3_put_25 (by decide) (fun c22 => (by have n23 : (n9 - a9) ≤ i9 := (nI_leI (a := (n9 - a9)) (b := i9) (by omega) (by omega)).mp c22; omega)) (fun c22 => ?_)
    refine lv_iload hx hb dX3_put_28 (lv_at hl 0 rfl) ?_
    refine lv_if_lt (tgt := 51) hx hb dX3_put_30 (by decide) (fun c24 => (by have n25 : ((p9 + a9) + i9) < 0 := (nI_ltI (a := ((p9 + a9) + i9)) (b := 0) (by omega) (by omega)).mp c24; omega)) (fun c24 => ?_)
    refine lv_iload hx hb dX3_put_33 (lv_at hl 0 rfl) ?_
    refine lv_aload_n hx hb dX3_put_35 rfl (lv_at hl 1 rfl) ?_
    refine c_get (v := .int (nI ht)) (C := RX3) (Tc := TX3) (N := 5) (ci := 3) hx hb hq pin_wsX30 hown hE hP hO 29 (sg_29 G h0 a _ _ _ _ _) rfl 2 (by decide) (hq _ pw_417) (fun _ h9 => h9) rfl dX3_put_36 ?_
    refine lv_icmp_ge (tgt := 51) hx hb dX3_put_39 (by decide) (fun c26 => (by have n27 : ht ≤ ((p9 + a9) + i9) := (nI_leI (a := ht) (b := ((p9 + a9) + i9)) (by omega) (by omega)).mp c26; omega)) (fun c26 => ?_)
    refine lv_aload_n hx hb dX3_put_42 rfl (lv_at hl 1 rfl) ?_
    refine c_get (v := .ref (a 34)) (C := RX3) (Tc := TX3) (N := 5) (ci := 3) hx hb hq pin_wsX30 hown hE hP hO 29 (sg_29 G h0 a _ _ _ _ _) rfl 0 (by decide) (hq _ pw_415) (fun _ h9 => h9) rfl dX3_put_43 ?_
    refine lv_iload hx hb dX3_put_46 (lv_at hl 0 rfl) ?_
    refine lv_lload hx hb dX3_put_48 (lv_at hl 4 rfl) ?_
    refine c_stl (f := (J 34)) (n := 3008) (t0 := 2) hx hb hE hP hD hS hO 30 (sg_30 G h0 a _ _ _ _ _) rfl (vp_in_nI (by omega) (by decide)) (sj_34 G h0 a _ _ _ _ _ _) dX3_put_50 (fun H locs w hP hD hS hO => ?_)
    rw [(nI_clamp (show ((p9 + a9) + i9) < 2 ^ 31 by omega))] at hO
    have hz28 : (updJ J 34 (vp_updL (J 34) ((p9 + a9) + i9) x9)) 34 = upV (J 34) (p9 + a9 + i9) x9 := rfl
    have hz29 : (updJ J 34 (vp_updL (J 34) ((p9 + a9) + i9) x9)) 29 = J 29 := rfl
    have hz30 : (updJ J 34 (vp_updL (J 34) ((p9 + a9) + i9) x9)) 35 = J 35 := rfl
    have hO : OKW G h0 a (upd F 26 (nI ht)) (updR (updR R 7 (.ref (a 34))) 8 (.ref (a 35))) Z B (updJ J 34 (vp_updL (J 34) ((p9 + a9) + i9) x9)) T Pi w := hO.to rfl
    exact W.vret hx hb hr (fun t99 ht99 hW99 => ⟨⟨_, (w, (updJ J 34 (vp_updL (J 34) ((p9 + a9) + i9) x9))), rfl, ⟨rfl, hz28, hz29, hz30, hO⟩, by rw [ht99]; exact hP, hD⟩, hS.F ht99⟩) hS.2.2 dX3_put_51
  · skip
    refine lv_lload_n hx hb dX3_put_0 rfl (lv_at hl 1 rfl) ?_
    refine lv_l2i hx hb dX3_put_1 rfl ?_
    refine lv_topi (fun x31 e32 => ?_)
    rw [show x31 = nI p9 from e32.trans rfV_int]
    refine lv_aload_n hx hb dX3_put_2 rfl (lv_at hl 0 rfl) ?_
    refine lv_lload_n hx hb dX3_put_3 rfl (lv_at hl 1 rfl) ?_
    have hO : OKW G h0 a (upd (upd F 26 (nI ht)) 26 (nI ht)) (updR (updR (updR (updR R 7 (.ref (a 35))) 8 (.ref (a 34))) 7 (.ref (a 35))) 8 (.ref (a 34))) Z B J T Pi w := hO.to rfl
    obtain ⟨_, qr36, hqr37⟩ := hO.2.1 29 _ (sg_29 G h0 a _ _ _ _ _)
    refine pc_V0 (G := G) (As := [.long (rfV p9)]) (rest := [.int (nI p9)]) hx hb hml hown hq hE hX pX0_al hP hD hS hA hl.1 (Y_headOf l G h0 a (upd F 26 (nI ht)) (updR (updR R 7 (.ref (a 35))) 8 (.ref (a 34))) Z B J T Pi w p9 35 34 ht (hdV n9 d9) (by omega) (by omega) (by omega) hv9 hO) (gV pw_442 pw_443 pw_444 pw_440 pw_437) hV_X3_headOf qr36 3 hqr37 rfl rfl rfl (Nat.le_of_ble_eq_true rfl) dX3_put_4 ⟨Nat.le_of_ble_eq_true rfl, Nat.le_of_ble_eq_true rfl⟩ ⟨Nat.le_of_ble_eq_true rfl, Nat.le_of_ble_eq_true rfl⟩ (fun v35 u33 H locs hw34 hP hD hS => ?_)
    obtain ⟨w, _⟩ := u33
    obtain ⟨hw34, hO⟩ := hw34
    obtain rfl : v35 = some (.long (hdV n9 d9)) := hw34
    have hO : OKW G h0 a (upd F 26 (nI ht)) (updR (updR R 7 (.ref (a 35))) 8 (.ref (a 34))) Z B J T Pi w := hO.to rfl
    refine W.widen (k := 0) (n := 0) (Nat.le_of_ble_eq_true rfl) (Nat.le_of_ble_eq_true rfl) ?_
    refine W.eq (g2 := F0 m 7 ls [.long (hdV n9 d9), .int (nI p9)]) rfl ?_
    refine pc_SN (G := G) (As := [.long (hdV n9 d9)]) (rest := [.int (nI p9)]) hx hb hml hown hq hE hX pX0_al hP hS hA hl.1 (s_aheadX l G n9 d9 a9 (by omega) ha9) (gS pw_450 pw_451 pw_440 pw_445) hS_X3_aheadOf rfl (Nat.le_of_ble_eq_true rfl) dX3_put_7 ⟨Nat.le_of_ble_eq_true rfl, Nat.le_of_ble_eq_true rfl⟩ ⟨Nat.le_of_ble_eq_true rfl, Nat.le_of_ble_eq_true rfl⟩ (fun v40 u38 H locs hw39 hP hS => ?_)
    obtain rfl : v40 = some (.int (nI a9)) := hw39
    refine W.widen (k := 0) (n := 0) (Nat.le_of_ble_eq_true rfl) (Nat.le_of_ble_eq_true rfl) ?_
    refine W.eq (g2 := F0 m 10 ls [.int (nI a9), .int (nI p9)]) rfl ?_
    refine lv_iadd hx hb dX3_put_10 ?_
    refine lv_topi (fun x41 e42 => ?_)
    obtain rfl : x41 = nI (p9 + a9) := e42.trans (nI_add (p9) (a9))
    refine lv_iload_n hx hb dX3_put_11 rfl (lv_at hl 2 rfl) ?_
    refine lv_iadd hx hb dX3_put_12 ?_
    refine lv_topi (fun x43 e44 => ?_)
    obtain rfl : x43 = nI ((p9 + a9) + i9) := e44.trans (nI_add ((p9 + a9)) (i9))
    refine lv_istore (lv' := [(6, .int (nI ((p9 + a9) + i9))), (0, .ref (a 28)), (1, .long (rfV p9)), (3, .int (nI i9)), (4, .long x9)]) hx hb dX3_put_13 hl (by decide) rfl (fun ls hl => ?_)
    refine lv_iload_n hx hb dX3_put_15 rfl (lv_at hl 3 rfl) ?_
    refine lv_if_lt (tgt := 51) hx hb dX3_put_16 (by decide) (fun c45 => (by have n46 : i9 < 0 := (nI_ltI (a := i9) (b := 0) (by omega) (by omega)).mp c45; omega)) (fun c45 => ?_)
    refine lv_iload_n hx hb dX3_put_19 rfl (lv_at hl 3 rfl) ?_
    refine lv_aload_n hx hb dX3_put_20 rfl (lv_at hl 1 rfl) ?_
    refine lv_lload_n hx hb dX3_put_21 rfl (lv_at hl 2 rfl) ?_
    have hO : OKW G h0 a (upd (upd F 26 (nI ht)) 26 (nI ht)) (updR (updR (updR (updR R 7 (.ref (a 35))) 8 (.ref (a 34))) 7 (.ref (a 35))) 8 (.ref (a 34))) Z B J T Pi w := hO.to rfl
    obtain ⟨_, qr50, hqr51⟩ := hO.2.1 29 _ (sg_29 G h0 a _ _ _ _ _)
    refine pc_V0 (G := G) (As := [.long (rfV p9)]) (rest := [.int (nI i9)]) hx hb hml hown hq hE hX pX0_al hP hD hS hA hl.1 (Y_partsOf l G h0 a (upd F 26 (nI ht)) (updR (updR R 7 (.ref (a 35))) 8 (.ref (a 34))) Z B J T Pi w p9 n9 d9 35 34 ht a9 (by omega) (by omega) (by omega) hv9 ha9 (by omega) hO) (gV pw_453 pw_454 pw_455 pw_440 pw_448) hV_X3_partsOf qr50 3 hqr51 rfl rfl rfl (Nat.le_of_ble_eq_true rfl) dX3_put_22 ⟨Nat.le_of_ble_eq_true rfl, Nat.le_of_ble_eq_true rfl⟩ ⟨Nat.le_of_ble_eq_true rfl, Nat.le_of_ble_eq_true rfl⟩ (fun v49 u47 H locs hw48 hP hD hS => ?_)
    obtain ⟨w, _⟩ := u47
    obtain ⟨hw48, hO⟩ := hw48
    obtain rfl : v49 = some (.int (nI (n9 - a9))) := hw48
    have hO : OKW G h0 a (upd F 26 (nI ht)) (updR (updR R 7 (.ref (a 35))) 8 (.ref (a 34))) Z B J T Pi w := hO.to rfl
    refine W.widen (k := 0) (n := 0) (Nat.le_of_ble_eq_true rfl) (Nat.le_of_ble_eq_true rfl) ?_
    refine W.eq (g2 := F0 m 25 ls [.int (nI (n9 - a9)), .int (nI i9)]) rfl ?_
    refine lv_icmp_ge (tgt := 51) hx hb dX3_put_25 (by decide) (fun c52 => (by have n53 : (n9 - a9) ≤ i9 := (nI_leI (a := (n9 - a9)) (b := i9) (by omega) (by omega)).mp c52; omega)) (fun c52 => ?_)
    refine lv_iload hx hb dX3_put_28 (lv_at hl 0 rfl) ?_
    refine lv_if_lt (tgt := 51) hx hb dX3_put_30 (by decide) (fun c54 => (by have n55 : ((p9 + a9) + i9) < 0 := (nI_ltI (a := ((p9 + a9) + i9)) (b := 0) (by omega) (by omega)).mp c54; omega)) (fun c54 => ?_)
    refine lv_iload hx hb dX3_put_33 (lv_at hl 0 rfl) ?_
    refine lv_aload_n hx hb dX3_put_35 rfl (lv_at hl 1 rfl) ?_
    refine c_get (v := .int (nI ht)) (C := RX3) (Tc := TX3) (N := 5) (ci := 3) hx hb hq pin_wsX30 hown hE hP hO 29 (sg_29 G h0 a _ _ _ _ _) rfl 2 (by decide) (hq _ pw_417) (fun _ h9 => h9) rfl dX3_put_36 ?_
    refine lv_icmp_ge (tgt := 51) hx hb dX3_put_39 (by decide) (fun c56 => (by have n57 : ht ≤ ((p9 + a9) + i9) := (nI_leI (a := ht) (b := ((p9 + a9) + i9)) (by omega) (by omega)).mp c56; omega)) (fun c56 => ?_)
    refine lv_aload_n hx hb dX3_put_42 rfl (lv_at hl 1 rfl) ?_
    refine c_get (v := .ref (a 35)) (C := RX3) (Tc := TX3) (N := 5) (ci := 3) hx hb hq pin_wsX30 hown hE hP hO 29 (sg_29 G h0 a _ _ _ _ _) rfl 0 (by decide) (hq _ pw_415) (fun _ h9 => h9) rfl dX3_put_43 ?_
    refine lv_iload hx hb dX3_put_46 (lv_at hl 0 rfl) ?_
    refine lv_lload hx hb dX3_put_48 (lv_at hl 4 rfl) ?_
    refine c_stl (f := (J 35)) (n := 3008) (t0 := 2) hx hb hE hP hD hS hO 31 (sg_31 G h0 a _ _ _ _ _) rfl (vp_in_nI (by omega) (by decide)) (sj_35 G h0 a _ _ _ _ _ _) dX3_put_50 (fun H locs w hP hD hS hO => ?_)
    rw [(nI_clamp (show ((p9 + a9) + i9) < 2 ^ 31 by omega))] at hO
    have hz58 : (updJ J 35 (vp_updL (J 35) ((p9 + a9) + i9) x9)) 35 = upV (J 35) (p9 + a9 + i9) x9 := rfl
    have hz59 : (updJ J 35 (vp_updL (J 35) ((p9 + a9) + i9) x9)) 29 = J 29 := rfl
    have hz60 : (updJ J 35 (vp_updL (J 35) ((p9 + a9) + i9) x9)) 34 = J 34 := rfl
    have hO : OKW G h0 a (upd F 26 (nI ht)) (updR (updR R 7 (.ref (a 35))) 8 (.ref (a 34))) Z B (updJ J 35 (vp_updL (J 35) ((p9 + a9) + i9) x9)) T Pi w := hO.to rfl
    exact W.vret hx hb hr (fun t99 ht99 hW99 => ⟨⟨_, (w, (updJ J 35 (vp_updL (J 35) ((p9 + a9) + i9) x9))), rfl, ⟨rfl, hz58, hz59, hz60, hO⟩, by rw [ht99]; exact hP, hD⟩, hS.F ht99⟩) hS.2.2 dX3_put_51
set_option maxHeartbeats 2000000 in
set_option maxRecDepth 100000 in
theorem Y_hasRoom (l : Launch) (G : pT) (h0 : Nat) (a : Nat → Nat) (F : Nat → Int32) (R : Nat → Value) (Z : Int64) (B : Nat → Nat → Int32) (J : Nat → Nat → Int64) (T : Nat → Nat) (Pi : Nat → va_E → Prop) (w : va_W) (c9 : Nat) (ht : Nat) (lm : Nat) (hc9 : c9 ≤ 3000000000 ∧ ht ≤ 3008 ∧ lm ≤ 3008) (hO : OKW G h0 a (upd (upd F 26 (nI ht)) 28 (nI lm)) R Z B J T Pi w) : PM l G pX0 yX3_hasRoom cX3_hasRoom 3 (some .boolean) ({ frames := 2, cells := 0, slots := 0, locals := 60 }) [.ref (a 28), .long (lN c9)] w (fun (v : Option Value) (u : va_W × (Nat)) => v = some (.int (nI u.2)) ∧ (u.2 ≤ 1) ∧ (If (u.2 = 1) (ht + c9 ≤ lm)) ∧ (If (u.2 = 0) (¬ ht + c9 ≤ lm)) ∧ (OKW G h0 a (upd (upd F 26 (nI ht)) 28 (nI lm)) R Z B J T Pi u.1)) (fun u => u.1) := by
  intro sz
  refine Met.ofW (cc := cX3_hasRoom) (maxL := 3) (ret := (some .boolean)) (by decide) rfl ?_
  intro p e s m args below meth c s₁ B9 hml hv
  obtain ⟨rfl, hsz, hP, hD0, hE, hX⟩ := hv
  have hx := B9.exec
  have hb := B9.bytes
  have hr := B9.returns
  have hts := atoms_spec (ws := Cond.code yX3_hasRoom cX3_hasRoom 3 (some .boolean) :: pw) B9.pre
  have hq : ∀ w ∈ pw, w.before _ s = true := fun w h => hts w (List.mem_cons_of_mem _ h)
  have hown : s.vm.findClass RX3 = some m.cls := findClass_of_methodNamed B9.named
  have hlocks := B9.notSynchronized
  subst hsz
  have hD := hD0.self (sz := s.heap.size)
  have hA : ∀ q : Nat, s.heap.size ≤ q → va_A w s.heap.size q := fun q h => Or.inr h
  generalize va_A w s.heap.size = A at hD hE hA ⊢
  have hS : va_S A s.heap s.heap [] := va_S.rf
  have hl := lv_entry ([.ref (a 28), .long (lN c9)]) (n := 3) (Nat.le_of_ble_eq_true rfl)
  rw [lg_entry_eq]
  generalize (lg_sl ([.ref (a 28), .long (lN c9)]) ++ List.replicate (3 - (lg_sl ([.ref (a 28), .long (lN c9)])).length) Slot.unset).toArray = ls at hl ⊢
  have hl : lv_has ls 3 [(0, .ref (a 28)), (1, .long (lN c9))] := hl
  refine lv_aload_n hx hb dX3_hasRoom_0 rfl (lv_at hl 0 rfl) ?_
  refine c_get (v := .int (nI ht)) (C := RX3) (Tc := TX3) (N := 5) (ci := 3) hx hb hq pin_wsX30 hown hE hP hO 29 (sg_29 G h0 a _ _ _ _ _) rfl 2 (by decide) (hq _ pw_417) (fun _ h9 => h9) rfl dX3_hasRoom_1 ?_
  refine lv_i2l hx hb dX3_hasRoom_4 rfl ?_
  refine lv_topl (fun x1 e2 => ?_)
  rw [show x1 = lN ht from e2.trans (nI_l (by omega))]
  refine lv_lload_n hx hb dX3_hasRoom_5 rfl (lv_at hl 1 rfl) ?_
  refine lv_ladd hx hb dX3_hasRoom_6 ?_
  refine lv_topl (fun x3 e4 => ?_)
  rw [show x3 = lN (ht + c9) from e4.trans (lN_add _ _)]
  refine lv_aload_n hx hb dX3_hasRoom_7 rfl (lv_at hl 0 rfl) ?_
  refine c_get (v := .int (nI lm)) (C := RX3) (Tc := TX3) (N := 5) (ci := 3) hx hb hq pin_wsX30 hown hE hP hO 29 (sg_29 G h0 a _ _ _ _ _) rfl 4 (by decide) (hq _ pw_422) (fun _ h9 => h9) rfl dX3_hasRoom_8 ?_
  refine lv_i2l hx hb dX3_hasRoom_11 rfl ?_
  refine lv_topl (fun x5 e6 => ?_)
  rw [show x5 = lN lm from e6.trans (nI_l (by omega))]
  refine W.lcmp hx hb dX3_hasRoom_12 ?_
  refine lv_topi (fun x7 e8 => ?_)
  refine lv_if_gt (tgt := 20) hx hb dX3_hasRoom_13 (by decide) (fun c10 => ?_) (fun c10 => ?_)
  · have hrm : ¬ ht + c9 ≤ lm := fun z => by have z1 := (lN_lt2 (a := lm) (b := ht + c9) (by omega) (by omega)).mp ((lg_cmp_gt _ _).mp (by rw [← e8]; exact c10)); omega
    refine lv_iconst (v := 0) hx hb dX3_hasRoom_20 (by decide) ?_
    have hz11 : 0 ≤ 1 := (by omega)
    have hz12 : If (0 = 1) (ht + c9 ≤ lm) := (fun z => absurd z (by decide))
    have hz13 : If (0 = 0) (¬ ht + c9 ≤ lm) := (fun _ => hrm)
    have hO : OKW G h0 a (upd (upd F 26 (nI ht)) 28 (nI lm)) R Z B J T Pi w := hO.to rfl
    exact W.zret (v := 0) hx hb hr rfl (fun t99 ht99 hW99 => ⟨⟨_, (w, 0), rfl, ⟨rfl, hz11, hz12, hz13, hO⟩, by rw [ht99]; exact hP, hD⟩, hS.F ht99⟩) hS.2.2 dX3_hasRoom_21
  · have hrm : ht + c9 ≤ lm := Nat.le_of_not_lt (fun z => c10 (by rw [e8]; exact (lg_cmp_gt _ _).mpr ((lN_lt2 (a := lm) (b := ht + c9) (by omega) (by omega)).mpr z)))
    refine lv_iconst (v := 1) hx hb dX3_hasRoom_16 (by decide) ?_
    refine lv_goto (tgt := 21) hx hb dX3_hasRoom_17 (by decide) ?_
    have hz14 : 1 ≤ 1 := (by omega)
    have hz15 : If (1 = 1) (ht + c9 ≤ lm) := (fun _ => hrm)
    have hz16 : If (1 = 0) (¬ ht + c9 ≤ lm) := (fun z => absurd z (by decide))
    have hO : OKW G h0 a (upd (upd F 26 (nI ht)) 28 (nI lm)) R Z B J T Pi w := hO.to rfl
    exact W.zret (v := 1) hx hb hr rfl (fun t99 ht99 hW99 => ⟨⟨_, (w, 1), rfl, ⟨rfl, hz14, hz15, hz16, hO⟩, by rw [ht99]; exact hP, hD⟩, hS.F ht99⟩) hS.2.2 dX3_hasRoom_21
set_option maxHeartbeats 2000000 in
set_option maxRecDepth 100000 in
theorem Y_fillL (l : Launch) (G : pT) (h0 : Nat) (a : Nat → Nat) (F : Nat → Int32) (R : Nat → Value) (Z : Int64) (B : Nat → Nat → Int32) (J : Nat → Nat → Int64) (T : Nat → Nat) (Pi : Nat → va_E → Prop) (w : va_W) (x : Int64) (f9 : Nat) (t9 : Nat) (sp : Nat) (op : Nat) (hsp : (sp = 34 ∧ op = 35) ∨ (sp = 35 ∧ op = 34)) (hft : f9 ≤ t9 ∧ t9 ≤ 3008) (hO : OKW G h0 a F R Z B J T Pi w) : PM l G pX0 yJ7_fill_bad5a cJ7_fill_bad5a 6 none ({ frames := 3, cells := 0, slots := 0, locals := 82 }) [.ref (a sp), .int (nI f9), .int (nI t9), .long x] w (fun (v : Option Value) (u : va_W × ((Nat → Nat → Int64))) => v = none ∧ (∀ i : Nat, f9 ≤ i → i < t9 → u.2 sp i = x) ∧ (∀ i : Nat, i < f9 → u.2 sp i = J sp i) ∧ (u.2 29 = J 29) ∧ (u.2 op = J op) ∧ (OKW G h0 a F R Z B u.2 T Pi u.1)) (fun u => u.1) := by
  intro sz
  refine Met.ofW (cc := cJ7_fill_bad5a) (maxL := 6) (ret := none) (by decide) rfl ?_
  intro p e s m args below meth c s₁ B9 hml hv
  obtain ⟨rfl, hsz, hP, hD0, hE, hX⟩ := hv
  have hx := B9.exec
  have hb := B9.bytes
  have hr := B9.returns
  have hts := atoms_spec (ws := Cond.code yJ7_fill_bad5a cJ7_fill_bad5a 6 none :: pw) B9.pre
  have hq : ∀ w ∈ pw, w.before _ s = true := fun w h => hts w (List.mem_cons_of_mem _ h)
  have hown : s.vm.findClass RJ7 = some m.cls := findClass_of_methodNamed B9.named
  have hlocks := B9.notSynchronized
  subst hsz
  have hD := hD0.self (sz := s.heap.size)
  have hA : ∀ q : Nat, s.heap.size ≤ q → va_A w s.heap.size q := fun q h => Or.inr h
  generalize va_A w s.heap.size = A at hD hE hA ⊢
  have hS : va_S A s.heap s.heap [] := va_S.rf
  have hl := lv_entry ([.ref (a sp), .int (nI f9), .int (nI t9), .long x]) (n := 6) (Nat.le_of_ble_eq_true rfl)
  rw [lg_entry_eq]
  generalize (lg_sl ([.ref (a sp), .int (nI f9), .int (nI t9), .long x]) ++ List.replicate (6 - (lg_sl ([.ref (a sp), .int (nI f9), .int (nI t9), .long x])).length) Slot.unset).toArray = ls at hl ⊢
  have hl : lv_has ls 6 [(0, .ref (a sp)), (1, .int (nI f9)), (2, .int (nI t9)), (3, .long x)] := hl
  rcases hsp with ⟨rfl, rfl⟩ | ⟨rfl, rfl⟩
  · skip
    refine lv_aload_n hx hb dJ7_fill_bad5a_0 rfl (lv_at hl 0 rfl) ?_
    refine c_len (n := 0) (t0 := 2) (v := 3008) hx hb hE hP hO 30 (sg_30 G h0 a _ _ _ _ _) rfl rfl dJ7_fill_bad5a_1 ?_
    refine lv_iload_n hx hb dJ7_fill_bad5a_2 rfl (lv_at hl 1 rfl) ?_
    refine lv_iload_n hx hb dJ7_fill_bad5a_3 rfl (lv_at hl 2 rfl) ?_
    refine pc_SN (G := G) (As := [.int (nI 3008), .int (nI f9), .int (nI t9)]) (rest := []) hx hb hml hown hq hE hX pX0_al hP hS hA hl.1 (s_range l G 3008 f9 t9 (by omega)) (gS pw_431 pw_432 pw_433 pw_426) hS_J7_rangeCheck_23922 rfl (Nat.le_of_ble_eq_true rfl) dJ7_fill_bad5a_4 ⟨Nat.le_of_ble_eq_true rfl, Nat.le_of_ble_eq_true rfl⟩ ⟨Nat.le_of_ble_eq_true rfl, Nat.le_of_ble_eq_true rfl⟩ (fun v3 u1 H locs hw2 hP hS => ?_)
    obtain rfl : v3 = none := hw2
    refine W.widen (k := 0) (n := 0) (Nat.le_of_ble_eq_true rfl) (Nat.le_of_ble_eq_true rfl) ?_
    refine W.eq (g2 := F0 m 7 ls []) rfl ?_
    refine lv_iload_n hx hb dJ7_fill_bad5a_7 rfl (lv_at hl 1 rfl) ?_
    refine lv_istore (lv' := [(5, .int (nI f9)), (0, .ref (a 34)), (1, .int (nI f9)), (2, .int (nI t9)), (3, .long x)]) hx hb dJ7_fill_bad5a_8 hl (by decide) rfl (fun ls hl => ?_)
    have loop_i : ∀ (n_i : Nat) (i2 : Nat) (J2 : Nat → Nat → Int64) (H : Heap) (locs : List Loc) (ls : Array Slot) (w : va_W), i2 ≤ t9 → t9 + 1 ≤ i2 + n_i → (f9 ≤ i2) → (∀ i : Nat, f9 ≤ i → i < i2 → J2 34 i = x) → (∀ i : Nat, i < f9 → J2 34 i = J 34 i) → (J2 29 = J 29) → (J2 35 = J 35) → va_P G.1 pCl w H → va_D A w → va_S A s.heap H locs → OKW G h0 a F R Z B J2 T Pi w → lv_has ls 6 [(5, .int (nI i2)), (3, .long x), (2, .int (nI t9)), (1, .int (nI f9)), (0, .ref (a 34))] → W p l e (headSpec (Cond.code yJ7_fill_bad5a cJ7_fill_bad5a 6 none :: pw) ({ frames := 3, cells := 0, slots := 0, locals := 82 } : Room)).room s m ([.ref (a 34), .int (nI f9), .int (nI t9), .long x] : List Value).toArray below meth c H locs 0 0 (MQ below (pQ G A (fun (v : Option Value) (u : va_W × ((Nat → Nat → Int64))) => v = none ∧ (∀ i : Nat, f9 ≤ i → i < t9 → u.2 34 i = x) ∧ (∀ i : Nat, i < f9 → u.2 34 i = J 34 i) ∧ (u.2 29 = J 29) ∧ (u.2 35 = J 35) ∧ (OKW G h0 a F R Z B u.2 T Pi u.1)) (fun u => u.1)) ([.ref (a 34), .int (nI f9), .int (nI t9), .long x] : List Value).toArray s ({ frames := 3, cells := 0, slots := 0, locals := 82 } : Room).cells ({ frames := 3, cells := 0, slots := 0, locals := 82 } : Room).slots A) (F0 m 10 ls []) := by
      intro n_i
      induction n_i with
      | zero => intro i2 J2 H locs ls w hk_i hn_i; omega
      | succ n_i ih_i =>
        intro i2 J2 H locs ls w hk_i hn_i hi2 hj0 hj1 hj2 hj3 hP hD hS hO hl
        refine lv_iload hx hb dJ7_fill_bad5a_10 (lv_at hl 0 rfl) ?_
        refine lv_iload_n hx hb dJ7_fill_bad5a_12 rfl (lv_at hl 2 rfl) ?_
        refine lv_icmp_ge (tgt := 27) hx hb dJ7_fill_bad5a_13 (by decide) (fun c4 => ?_) (fun c4 => ?_)
        · have n5 : t9 ≤ i2 := (nI_leI (a := t9) (b := i2) (by omega) (by omega)).mp c4
          have hz6 : ∀ i : Nat, f9 ≤ i → i < t9 → J2 34 i = x := (fun i h1 h2 => hj0 i h1 (by omega))
          have hz7 : ∀ i : Nat, i < f9 → J2 34 i = J 34 i := hj1
          have hz8 : J2 29 = J 29 := hj2
          have hz9 : J2 35 = J 35 := hj3
          have hO : OKW G h0 a F R Z B J2 T Pi w := hO.to rfl
          exact W.vret hx hb hr (fun t99 ht99 hW99 => ⟨⟨_, (w, J2), rfl, ⟨rfl, hz6, hz7, hz8, hz9, hO⟩, by rw [ht99]; exact hP, hD⟩, hS.F ht99⟩) hS.2.2 dJ7_fill_bad5a_27
        · have n10 : ¬ (t9 ≤ i2) := fun h9 => c4 ((nI_leI (a := t9) (b := i2) (by omega) (by omega)).mpr h9)
          refine lv_aload_n hx hb dJ7_fill_bad5a_16 rfl (lv_at hl 4 rfl) ?_
          refine lv_iload hx hb dJ7_fill_bad5a_17 (lv_at hl 0 rfl) ?_
          refine lv_lload_n hx hb dJ7_fill_bad5a_19 rfl (lv_at hl 1 rfl) ?_
          refine c_stl (f := (J2 34)) (n := 3008) (t0 := 2) hx hb hE hP hD hS hO 30 (sg_30 G h0 a _ _ _ _ _) rfl (vp_in_nI (by omega) (by decide)) (sj_34 G h0 a _ _ _ _ _ _) dJ7_fill_bad5a_20 (fun H locs w hP hD hS hO => ?_)
          rw [(nI_clamp (show i2 < 2 ^ 31 by omega))] at hO
          refine lv_iinc (v := (nI (i2 + 1))) (lv' := [(5, .int (nI (i2 + 1))), (3, .long x), (2, .int (nI t9)), (1, .int (nI f9)), (0, .ref (a 34))]) hx hb dJ7_fill_bad5a_21 hl (k := 0) rfl (nI_1 i2) (by decide) rfl (fun ls hl => ?_)
          refine lv_goto (tgt := 10) hx hb dJ7_fill_bad5a_24 (by decide) ?_
          have hO : OKW G h0 a F R Z B (updJ J2 34 (vp_updL (J2 34) i2 x)) T Pi w := hO.to rfl
          exact ih_i (i2 + 1) (updJ J2 34 (vp_updL (J2 34) i2 x)) _ _ _ _ (by omega) (by omega) (by omega) (fil_1 hj0) (fil_2 hj1 hi2) hj2 hj3 hP hD hS hO (lv_sub hl [0, 1, 2, 3, 4] rfl)
    have hO : OKW G h0 a F R Z B J T Pi w := hO.to rfl
    exact loop_i (t9 + 1) f9 J _ _ _ _ (by omega) (by omega) (by omega) (fun i h1 h2 => absurd h2 (by omega)) (fun _ _ => rfl) rfl rfl hP hD hS hO (lv_sub hl [0, 4, 3, 2, 1] rfl)
  · skip
    refine lv_aload_n hx hb dJ7_fill_bad5a_0 rfl (lv_at hl 0 rfl) ?_
    refine c_len (n := 0) (t0 := 2) (v := 3008) hx hb hE hP hO 31 (sg_31 G h0 a _ _ _ _ _) rfl rfl dJ7_fill_bad5a_1 ?_
    refine lv_iload_n hx hb dJ7_fill_bad5a_2 rfl (lv_at hl 1 rfl) ?_
    refine lv_iload_n hx hb dJ7_fill_bad5a_3 rfl (lv_at hl 2 rfl) ?_
    refine pc_SN (G := G) (As := [.int (nI 3008), .int (nI f9), .int (nI t9)]) (rest := []) hx hb hml hown hq hE hX pX0_al hP hS hA hl.1 (s_range l G 3008 f9 t9 (by omega)) (gS pw_431 pw_432 pw_433 pw_426) hS_J7_rangeCheck_23922 rfl (Nat.le_of_ble_eq_true rfl) dJ7_fill_bad5a_4 ⟨Nat.le_of_ble_eq_true rfl, Nat.le_of_ble_eq_true rfl⟩ ⟨Nat.le_of_ble_eq_true rfl, Nat.le_of_ble_eq_true rfl⟩ (fun v13 u11 H locs hw12 hP hS => ?_)
    obtain rfl : v13 = none := hw12
    refine W.widen (k := 0) (n := 0) (Nat.le_of_ble_eq_true rfl) (Nat.le_of_ble_eq_true rfl) ?_
    refine W.eq (g2 := F0 m 7 ls []) rfl ?_
    refine lv_iload_n hx hb dJ7_fill_bad5a_7 rfl (lv_at hl 1 rfl) ?_
    refine lv_istore (lv' := [(5, .int (nI f9)), (0, .ref (a 35)), (1, .int (nI f9)), (2, .int (nI t9)), (3, .long x)]) hx hb dJ7_fill_bad5a_8 hl (by decide) rfl (fun ls hl => ?_)
    have loop_i : ∀ (n_i : Nat) (i2 : Nat) (J2 : Nat → Nat → Int64) (H : Heap) (locs : List Loc) (ls : Array Slot) (w : va_W), i2 ≤ t9 → t9 + 1 ≤ i2 + n_i → (f9 ≤ i2) → (∀ i : Nat, f9 ≤ i → i < i2 → J2 35 i = x) → (∀ i : Nat, i < f9 → J2 35 i = J 35 i) → (J2 29 = J 29) → (J2 34 = J 34) → va_P G.1 pCl w H → va_D A w → va_S A s.heap H locs → OKW G h0 a F R Z B J2 T Pi w → lv_has ls 6 [(5, .int (nI i2)), (3, .long x), (2, .int (nI t9)), (1, .int (nI f9)), (0, .ref (a 35))] → W p l e (headSpec (Cond.code yJ7_fill_bad5a cJ7_fill_bad5a 6 none :: pw) ({ frames := 3, cells := 0, slots := 0, locals := 82 } : Room)).room s m ([.ref (a 35), .int (nI f9), .int (nI t9), .long x] : List Value).toArray below meth c H locs 0 0 (MQ below (pQ G A (fun (v : Option Value) (u : va_W × ((Nat → Nat → Int64))) => v = none ∧ (∀ i : Nat, f9 ≤ i → i < t9 → u.2 35 i = x) ∧ (∀ i : Nat, i < f9 → u.2 35 i = J 35 i) ∧ (u.2 29 = J 29) ∧ (u.2 34 = J 34) ∧ (OKW G h0 a F R Z B u.2 T Pi u.1)) (fun u => u.1)) ([.ref (a 35), .int (nI f9), .int (nI t9), .long x] : List Value).toArray s ({ frames := 3, cells := 0, slots := 0, locals := 82 } : Room).cells ({ frames := 3, cells := 0, slots := 0, locals := 82 } : Room).slots A) (F0 m 10 ls []) := by
      intro n_i
      induction n_i with
      | zero => intro i2 J2 H locs ls w hk_i hn_i; omega
      | succ n_i ih_i =>
        intro i2 J2 H locs ls w hk_i hn_i hi2 hj0 hj1 hj2 hj3 hP hD hS hO hl
        refine lv_iload hx hb dJ7_fill_bad5a_10 (lv_at hl 0 rfl) ?_
        refine lv_iload_n hx hb dJ7_fill_bad5a_12 rfl (lv_at hl 2 rfl) ?_
        refine lv_icmp_ge (tgt := 27) hx hb dJ7_fill_bad5a_13 (by decide) (fun c14 => ?_) (fun c14 => ?_)
        · have n15 : t9 ≤ i2 := (nI_leI (a := t9) (b := i2) (by omega) (by omega)).mp c14
          have hz16 : ∀ i : Nat, f9 ≤ i → i < t9 → J2 35 i = x := (fun i h1 h2 => hj0 i h1 (by omega))
          have hz17 : ∀ i : Nat, i < f9 → J2 35 i = J 35 i := hj1
          have hz18 : J2 29 = J 29 := hj2
          have hz19 : J2 34 = J 34 := hj3
          have hO : OKW G h0 a F R Z B J2 T Pi w := hO.to rfl
          exact W.vret hx hb hr (fun t99 ht99 hW99 => ⟨⟨_, (w, J2), rfl, ⟨rfl, hz16, hz17, hz18, hz19, hO⟩, by rw [ht99]; exact hP, hD⟩, hS.F ht99⟩) hS.2.2 dJ7_fill_bad5a_27
        · have n20 : ¬ (t9 ≤ i2) := fun h9 => c14 ((nI_leI (a := t9) (b := i2) (by omega) (by omega)).mpr h9)
          refine lv_aload_n hx hb dJ7_fill_bad5a_16 rfl (lv_at hl 4 rfl) ?_
          refine lv_iload hx hb dJ7_fill_bad5a_17 (lv_at hl 0 rfl) ?_
          refine lv_lload_n hx hb dJ7_fill_bad5a_19 rfl (lv_at hl 1 rfl) ?_
          refine c_stl (f := (J2 35)) (n := 3008) (t0 := 2) hx hb hE hP hD hS hO 31 (sg_31 G h0 a _ _ _ _ _) rfl (vp_in_nI (by omega) (by decide)) (sj_35 G h0 a _ _ _ _ _ _) dJ7_fill_bad5a_20 (fun H locs w hP hD hS hO => ?_)
          rw [(nI_clamp (show i2 < 2 ^ 31 by omega))] at hO
          refine lv_iinc (v := (nI (i2 + 1))) (lv' := [(5, .int (nI (i2 + 1))), (3, .long x), (2, .int (nI t9)), (1, .int (nI f9)), (0, .ref (a 35))]) hx hb dJ7_fill_bad5a_21 hl (k := 0) rfl (nI_1 i2) (by decide) rfl (fun ls hl => ?_)
          refine lv_goto (tgt := 10) hx hb dJ7_fill_bad5a_24 (by decide) ?_
          have hO : OKW G h0 a F R Z B (updJ J2 35 (vp_updL (J2 35) i2 x)) T Pi w := hO.to rfl
          exact ih_i (i2 + 1) (updJ J2 35 (vp_updL (J2 35) i2 x)) _ _ _ _ (by omega) (by omega) (by omega) (fil_1 hj0) (fil_2 hj1 hi2) hj2 hj3 hP hD hS hO (lv_sub hl [0, 1, 2, 3, 4] rfl)
    have hO : OKW G h0 a F R Z B J T Pi w := hO.to rfl
    exact loop_i (t9 + 1) f9 J _ _ _ _ (by omega) (by omega) (by omega) (fun i h1 h2 => absurd h2 (by omega)) (fun _ _ => rfl) rfl rfl hP hD hS hO (lv_sub hl [0, 4, 3, 2, 1] rfl)
set_option maxHeartbeats 6000000 in
set_option maxRecDepth 100000 in
theorem Y_hmake (l : Launch) (G : pT) (h0 : Nat) (a : Nat → Nat) (F : Nat → Int32) (R : Nat → Value) (Z : Int64) (B : Nat → Nat → Int32) (J : Nat → Nat → Int64) (T : Nat → Nat) (Pi : Nat → va_E → Prop) (w : va_W) (d9 : Nat) (c9 : Nat) (sp : Nat) (op : Nat) (ht : Nat) (hsp : (sp = 34 ∧ op = 35) ∨ (sp = 35 ∧ op = 34)) (hht : 8 ≤ ht ∧ ht ≤ 3008) (hc9 : 1 ≤ c9 ∧ ht + c9 ≤ 3008 ∧ d9 < 128) (hO : OKW G h0 a (upd F 26 (nI ht)) (updR (updR R 7 (.ref (a sp))) 8 (.ref (a op))) Z B J T Pi w) : PM l G pX0 yX3_make cX3_make 3 (some .long) ({ frames := 4, cells := 0, slots := 0, locals := 107 }) [.ref (a 28), .int (nI d9), .int (nI c9)] w (fun (v : Option Value) (u : va_W × ((Nat → Nat → Int64))) => v = some (.long (rfV ht)) ∧ (u.2 sp ht = hdV c9 d9) ∧ (∀ i : Nat, 1 ≤ i → i < c9 → u.2 sp (ht + i) = 0) ∧ (∀ i : Nat, i < ht → u.2 sp i = J sp i) ∧ (u.2 29 = J 29) ∧ (u.2 op = J op) ∧ (OKW G h0 a (upd F 26 (nI (ht + c9))) (updR (updR R 7 (.ref (a sp))) 8 (.ref (a op))) Z B u.2 T Pi u.1)) (fun u => u.1) := by
  intro sz
  refine Met.ofW (cc := cX3_make) (maxL := 3) (ret := (some .long)) (by decide) rfl ?_
  intro p e s m args below meth c s₁ B9 hml hv
  obtain ⟨rfl, hsz, hP, hD0, hE, hX⟩ := hv
  have hx := B9.exec
  have hb := B9.bytes
  have hr := B9.returns
  have hts := atoms_spec (ws := Cond.code yX3_make cX3_make 3 (some .long) :: pw) B9.pre
  have hq : ∀ w ∈ pw, w.before _ s = true := fun w h => hts w (List.mem_cons_of_mem _ h)
  have hown : s.vm.findClass RX3 = some m.cls := findClass_of_methodNamed B9.named
  have hlocks := B9.notSynchronized
  subst hsz
  have hD := hD0.self (sz := s.heap.size)
  have hA : ∀ q : Nat, s.heap.size ≤ q → va_A w s.heap.size q := fun q h => Or.inr h
  generalize va_A w s.heap.size = A at hD hE hA ⊢
  have hS : va_S A s.heap s.heap [] := va_S.rf
  have hl := lv_entry ([.ref (a 28), .int (nI d9), .int (nI c9)]) (n := 3) (Nat.le_of_ble_eq_true rfl)
  rw [lg_entry_eq]
  generalize (lg_sl ([.ref (a 28), .int (nI d9), .int (nI c9)]) ++ List.replicate (3 - (lg_sl ([.ref (a 28), .int (nI d9), .int (nI c9)])).length) Slot.unset).toArray = ls at hl ⊢
  have hl : lv_has ls 3 [(0, .ref (a 28)), (1, .int (nI d9)), (2, .int (nI c9))] := hl
  rcases hsp with ⟨rfl, rfl⟩ | ⟨rfl, rfl⟩
  · skip
    refine lv_iload_n hx hb dX3_make_0 rfl (lv_at hl 2 rfl) ?_
    refine lv_if_le (tgt := 18) hx hb dX3_make_1 (by decide) (fun c1 => (by have n2 : c9 ≤ 0 := (nI_leI (a := c9) (b := 0) (by omega) (by omega)).mp c1; omega)) (fun c1 => ?_)
    refine lv_iload_n hx hb dX3_make_4 rfl (lv_at hl 2 rfl) ?_
    refine lv_aload_n hx hb dX3_make_5 rfl (lv_at hl 0 rfl) ?_
    refine c_get (v := .ref (a 34)) (C := RX3) (Tc := TX3) (N := 5) (ci := 3) hx hb hq pin_wsX30 hown hE hP hO 29 (sg_29 G h0 a _ _ _ _ _) rfl 0 (by decide) (hq _ pw_415) (fun _ h9 => h9) rfl dX3_make_6 ?_
    refine c_len (n := 0) (t0 := 2) (v := 3008) hx hb hE hP hO 30 (sg_30 G h0 a _ _ _ _ _) rfl rfl dX3_make_9 ?_
    refine lv_aload_n hx hb dX3_make_10 rfl (lv_at hl 0 rfl) ?_
    refine c_get (v := .int (nI ht)) (C := RX3) (Tc := TX3) (N := 5) (ci := 3) hx hb hq pin_wsX30 hown hE hP hO 29 (sg_29 G h0 a _ _ _ _ _) rfl 2 (by decide) (hq _ pw_417) (fun _ h9 => h9) rfl dX3_make_11 ?_
    refine lv_isub hx hb dX3_make_14 ?_
    refine lv_topi (fun x3 e4 => ?_)
    obtain rfl : x3 = nI (3008 - ht) := e4.trans (nI_subN (a := ht) (b := 3008) (by omega))
    refine lv_icmp_le (tgt := 20) hx hb dX3_make_15 (by decide) (fun c5 => ?_) (fun c5 => (by have n6 : ¬ (c9 ≤ (3008 - ht)) := fun h9 => c5 ((nI_leI (a := c9) (b := (3008 - ht)) (by omega) (by omega)).mpr h9); omega))
    refine lv_aload_n hx hb dX3_make_20 rfl (lv_at hl 0 rfl) ?_
    refine c_get (v := .ref (a 34)) (C := RX3) (Tc := TX3) (N := 5) (ci := 3) hx hb hq pin_wsX30 hown hE hP hO 29 (sg_29 G h0 a _ _ _ _ _) rfl 0 (by decide) (hq _ pw_415) (fun _ h9 => h9) rfl dX3_make_21 ?_
    refine lv_aload_n hx hb dX3_make_24 rfl (lv_at hl 0 rfl) ?_
    refine c_get (v := .int (nI ht)) (C := RX3) (Tc := TX3) (N := 5) (ci := 3) hx hb hq pin_wsX30 hown hE hP hO 29 (sg_29 G h0 a _ _ _ _ _) rfl 2 (by decide) (hq _ pw_417) (fun _ h9 => h9) rfl dX3_make_25 ?_
    refine lv_aload_n hx hb dX3_make_28 rfl (lv_at hl 0 rfl) ?_
    refine c_get (v := .int (nI ht)) (C := RX3) (Tc := TX3) (N := 5) (ci := 3) hx hb hq pin_wsX30 hown hE hP hO 29 (sg_29 G h0 a _ _ _ _ _) rfl 2 (by decide) (hq _ pw_417) (fun _ h9 => h9) rfl dX3_make_29 ?_
    refine lv_iload_n hx hb dX3_make_32 rfl (lv_at hl 2 rfl) ?_
    refine lv_iadd hx hb dX3_make_33 ?_
    refine lv_topi (fun x7 e8 => ?_)
    obtain rfl : x7 = nI (ht + c9) := e8.trans (nI_add (ht) (c9))
    refine lv_lconst (v := 0) hx hb dX3_make_34 (by decide) ?_
    have hO : OKW G h0 a (upd F 26 (nI ht)) (updR (updR R 7 (.ref (a 34))) 8 (.ref (a 35))) Z B J T Pi w := hO.to rfl
    refine pc_S0 (G := G) (As := [.ref (a 34), .int (nI ht), .int (nI (ht + c9)), .long 0]) (rest := []) hx hb hml hown hq hE hX pX0_al hP hD hS hA hl.1 (Y_fillL l G h0 a (upd F 26 (nI ht)) (updR (updR R 7 (.ref (a 34))) 8 (.ref (a 35))) Z B J T Pi w 0 ht (ht + c9) 34 35 (by omega) (by omega) hO) (gS pw_435 pw_436 pw_433 pw_430) hS_J7_fill_bad5a rfl (Nat.le_of_ble_eq_true rfl) dX3_make_35 ⟨Nat.le_of_ble_eq_true rfl, Nat.le_of_ble_eq_true rfl⟩ ⟨Nat.le_of_ble_eq_true rfl, Nat.le_of_ble_eq_true rfl⟩ (fun v11 u9 H locs hw10 hP hD hS => ?_)
    obtain ⟨w, J12⟩ := u9
    obtain ⟨hw10, h13, h14, h15, h16, hO⟩ := hw10
    have h13 : ∀ i : Nat, ht ≤ i → i < (ht + c9) → J12 34 i = 0 := h13
    have h14 : ∀ i : Nat, i < ht → J12 34 i = J 34 i := h14
    have h15 : J12 29 = (J 29) := h15
    have h16 : J12 35 = J 35 := h16
    obtain rfl : v11 = none := hw10
    have hO : OKW G h0 a (upd F 26 (nI ht)) (updR (updR R 7 (.ref (a 34))) 8 (.ref (a 35))) Z B J12 T Pi w := hO.to rfl
    refine W.widen (k := 0) (n := 0) (Nat.le_of_ble_eq_true rfl) (Nat.le_of_ble_eq_true rfl) ?_
    refine W.eq (g2 := F0 m 38 ls []) rfl ?_
    refine lv_aload_n hx hb dX3_make_38 rfl (lv_at hl 0 rfl) ?_
    refine c_get (v := .ref (a 34)) (C := RX3) (Tc := TX3) (N := 5) (ci := 3) hx hb hq pin_wsX30 hown hE hP hO 29 (sg_29 G h0 a _ _ _ _ _) rfl 0 (by decide) (hq _ pw_415) (fun _ h9 => h9) rfl dX3_make_39 ?_
    refine lv_aload_n hx hb dX3_make_42 rfl (lv_at hl 0 rfl) ?_
    refine c_get (v := .int (nI ht)) (C := RX3) (Tc := TX3) (N := 5) (ci := 3) hx hb hq pin_wsX30 hown hE hP hO 29 (sg_29 G h0 a _ _ _ _ _) rfl 2 (by decide) (hq _ pw_417) (fun _ h9 => h9) rfl dX3_make_43 ?_
    refine lv_iload_n hx hb dX3_make_46 rfl (lv_at hl 2 rfl) ?_
    refine lv_i2l hx hb dX3_make_47 rfl ?_
    refine lv_topl (fun x17 e18 => ?_)
    refine lv_bipush (v := 8) hx hb dX3_make_48 (by decide) ?_
    refine lv_lshl hx hb dX3_make_50 rfl ?_
    refine lv_topl (fun x19 e20 => ?_)
    refine lv_iload_n hx hb dX3_make_51 rfl (lv_at hl 1 rfl) ?_
    refine lv_i2l hx hb dX3_make_52 rfl ?_
    refine lv_topl (fun x21 e22 => ?_)
    refine lv_lor hx hb dX3_make_53 ?_
    refine lv_topl (fun x23 e24 => ?_)
    rw [show x23 = hdV c9 d9 from e24.trans (by rw [e20, e18, e22]; exact hdV_mk)]
    refine c_stl (f := (J12 34)) (n := 3008) (t0 := 2) hx hb hE hP hD hS hO 30 (sg_30 G h0 a _ _ _ _ _) rfl (vp_in_nI (by omega) (by decide)) (sj_34 G h0 a _ _ _ _ _ _) dX3_make_54 (fun H locs w hP hD hS hO => ?_)
    rw [(nI_clamp (show ht < 2 ^ 31 by omega))] at hO
    refine lv_aload_n hx hb dX3_make_55 rfl (lv_at hl 0 rfl) ?_
    refine lv_dup hx hb dX3_make_56 rfl ?_
    refine c_get (v := .int (nI ht)) (C := RX3) (Tc := TX3) (N := 5) (ci := 3) hx hb hq pin_wsX30 hown hE hP hO 29 (sg_29 G h0 a _ _ _ _ _) rfl 2 (by decide) (hq _ pw_417) (fun _ h9 => h9) rfl dX3_make_57 ?_
    refine lv_iload_n hx hb dX3_make_60 rfl (lv_at hl 2 rfl) ?_
    refine lv_iadd hx hb dX3_make_61 ?_
    refine lv_topi (fun x25 e26 => ?_)
    obtain rfl : x25 = nI (ht + c9) := e26.trans (nI_add (ht) (c9))
    refine c_put (v := .int (nI (ht + c9))) (ty := .int) (C := RX3) (Tc := TX3) (N := 5) (ci := 3) hx hb hq pin_wsX30 tyX3 tyX3_ok nmX3 hown hE hP hD hS hO 29 (sg_29 G h0 a _ _ _ _ _) rfl 2 (by decide) (hq _ pw_417) (fun _ h9 => h9) rfl (by decide +kernel) rfl rfl (Nat.le_of_ble_eq_true rfl) (sf_26 G h0 a _ _ _ _ _ (nI (ht + c9))) dX3_make_62 (fun H locs w hP hD hS hO => ?_)
    refine lv_ldc2 (v := 4294967296) hx hb hown (hq _ pw_424) dX3_make_65 ?_
    refine lv_aload_n hx hb dX3_make_68 rfl (lv_at hl 0 rfl) ?_
    refine c_get (v := .int (nI (ht + c9))) (C := RX3) (Tc := TX3) (N := 5) (ci := 3) hx hb hq pin_wsX30 hown hE hP hO 29 (sg_29 G h0 a _ _ _ _ _) rfl 2 (by decide) (hq _ pw_417) (fun _ h9 => h9) rfl dX3_make_69 ?_
    refine lv_iload_n hx hb dX3_make_72 rfl (lv_at hl 2 rfl) ?_
    refine lv_isub hx hb dX3_make_73 ?_
    refine lv_topi (fun x27 e28 => ?_)
    obtain rfl : x27 = nI ((ht + c9) - c9) := e28.trans (nI_subN (a := c9) (b := (ht + c9)) (by omega))
    rw [show ht + c9 - c9 = ht by omega]
    refine lv_i2l hx hb dX3_make_74 rfl ?_
    refine lv_topl (fun x29 e30 => ?_)
    refine lv_lor hx hb dX3_make_75 ?_
    refine lv_topl (fun x31 e32 => ?_)
    rw [show x31 = rfV ht from e32.trans (by rw [e30]; rfl)]
    have hz33 : (updJ J12 34 (vp_updL (J12 34) ht (hdV c9 d9))) 34 ht = hdV c9 d9 := (if_pos rfl)
    have hz34 : ∀ i : Nat, 1 ≤ i → i < c9 → (updJ J12 34 (vp_updL (J12 34) ht (hdV c9 d9))) 34 (ht + i) = 0 := (fun i h1 h2 => (if_neg (by omega)).trans (h13 (ht + i) (by omega) (by omega)))
    have hz35 : ∀ i : Nat, i < ht → (updJ J12 34 (vp_updL (J12 34) ht (hdV c9 d9))) 34 i = J 34 i := (fun i h1 => (if_neg (by omega)).trans (h14 i h1))
    have hz36 : (updJ J12 34 (vp_updL (J12 34) ht (hdV c9 d9))) 29 = J 29 := h15
    have hz37 : (updJ J12 34 (vp_updL (J12 34) ht (hdV c9 d9))) 35 = J 35 := h16
    have hO : OKW G h0 a (upd F 26 (nI (ht + c9))) (updR (updR R 7 (.ref (a 34))) 8 (.ref (a 35))) Z B (updJ J12 34 (vp_updL (J12 34) ht (hdV c9 d9))) T Pi w := hO.to rfl
    exact W.lret (v := (rfV ht)) hx hb hr (fun t99 ht99 hW99 => ⟨⟨_, (w, (updJ J12 34 (vp_updL (J12 34) ht (hdV c9 d9)))), rfl, ⟨rfl, hz33, hz34, hz35, hz36, hz37, hO⟩, by rw [ht99]; exact hP, hD⟩, hS.F ht99⟩) hS.2.2 dX3_make_76
  · skip
    refine lv_iload_n hx hb dX3_make_0 rfl (lv_at hl 2 rfl) ?_
    refine lv_if_le (tgt := 18) hx hb dX3_make_1 (by decide) (fun c38 => (by have n39 : c9 ≤ 0 := (nI_leI (a := c9) (b := 0) (by omega) (by omega)).mp c38; omega)) (fun c38 => ?_)
    refine lv_iload_n hx hb dX3_make_4 rfl (lv_at hl 2 rfl) ?_
    refine lv_aload_n hx hb dX3_make_5 rfl (lv_at hl 0 rfl) ?_
    refine c_get (v := .ref (a 35)) (C := RX3) (Tc := TX3) (N := 5) (ci := 3) hx hb hq pin_wsX30 hown hE hP hO 29 (sg_29 G h0 a _ _ _ _ _) rfl 0 (by decide) (hq _ pw_415) (fun _ h9 => h9) rfl dX3_make_6 ?_
    refine c_len (n := 0) (t0 := 2) (v := 3008) hx hb hE hP hO 31 (sg_31 G h0 a _ _ _ _ _) rfl rfl dX3_make_9 ?_
    refine lv_aload_n hx hb dX3_make_10 rfl (lv_at hl 0 rfl) ?_
    refine c_get (v := .int (nI ht)) (C := RX3) (Tc := TX3) (N := 5) (ci := 3) hx hb hq pin_wsX30 hown hE hP hO 29 (sg_29 G h0 a _ _ _ _ _) rfl 2 (by decide) (hq _ pw_417) (fun _ h9 => h9) rfl dX3_make_11 ?_
    refine lv_isub hx hb dX3_make_14 ?_
    refine lv_topi (fun x40 e41 => ?_)
    obtain rfl : x40 = nI (3008 - ht) := e41.trans (nI_subN (a := ht) (b := 3008) (by omega))
    refine lv_icmp_le (tgt := 20) hx hb dX3_make_15 (by decide) (fun c42 => ?_) (fun c42 => (by have n43 : ¬ (c9 ≤ (3008 - ht)) := fun h9 => c42 ((nI_leI (a := c9) (b := (3008 - ht)) (by omega) (by omega)).mpr h9); omega))
    refine lv_aload_n hx hb dX3_make_20 rfl (lv_at hl 0 rfl) ?_
    refine c_get (v := .ref (a 35)) (C := RX3) (Tc := TX3) (N := 5) (ci := 3) hx hb hq pin_wsX30 hown hE hP hO 29 (sg_29 G h0 a _ _ _ _ _) rfl 0 (by decide) (hq _ pw_415) (fun _ h9 => h9) rfl dX3_make_21 ?_
    refine lv_aload_n hx hb dX3_make_24 rfl (lv_at hl 0 rfl) ?_
    refine c_get (v := .int (nI ht)) (C := RX3) (Tc := TX3) (N := 5) (ci := 3) hx hb hq pin_wsX30 hown hE hP hO 29 (sg_29 G h0 a _ _ _ _ _) rfl 2 (by decide) (hq _ pw_417) (fun _ h9 => h9) rfl dX3_make_25 ?_
    refine lv_aload_n hx hb dX3_make_28 rfl (lv_at hl 0 rfl) ?_
    refine c_get (v := .int (nI ht)) (C := RX3) (Tc := TX3) (N := 5) (ci := 3) hx hb hq pin_wsX30 hown hE hP hO 29 (sg_29 G h0 a _ _ _ _ _) rfl 2 (by decide) (hq _ pw_417) (fun _ h9 => h9) rfl dX3_make_29 ?_
    refine lv_iload_n hx hb dX3_make_32 rfl (lv_at hl 2 rfl) ?_
    refine lv_iadd hx hb dX3_make_33 ?_
    refine lv_topi (fun x44 e45 => ?_)
    obtain rfl : x44 = nI (ht + c9) := e45.trans (nI_add (ht) (c9))
    refine lv_lconst (v := 0) hx hb dX3_make_34 (by decide) ?_
    have hO : OKW G h0 a (upd F 26 (nI ht)) (updR (updR R 7 (.ref (a 35))) 8 (.ref (a 34))) Z B J T Pi w := hO.to rfl
    refine pc_S0 (G := G) (As := [.ref (a 35), .int (nI ht), .int (nI (ht + c9)), .long 0]) (rest := []) hx hb hml hown hq hE hX pX0_al hP hD hS hA hl.1 (Y_fillL l G h0 a (upd F 26 (nI ht)) (updR (updR R 7 (.ref (a 35))) 8 (.ref (a 34))) Z B J T Pi w 0 ht (ht + c9) 35 34 (by omega) (by omega) hO) (gS pw_435 pw_436 pw_433 pw_430) hS_J7_fill_bad5a rfl (Nat.le_of_ble_eq_true rfl) dX3_make_35 ⟨Nat.le_of_ble_eq_true rfl, Nat.le_of_ble_eq_true rfl⟩ ⟨Nat.le_of_ble_eq_true rfl, Nat.le_of_ble_eq_true rfl⟩ (fun v48 u46 H locs hw47 hP hD hS => ?_)
    obtain ⟨w, J49⟩ := u46
    obtain ⟨hw47, h50, h51, h52, h53, hO⟩ := hw47
    have h50 : ∀ i : Nat, ht ≤ i → i < (ht + c9) → J49 35 i = 0 := h50
    have h51 : ∀ i : Nat, i < ht → J49 35 i = J 35 i := h51
    have h52 : J49 29 = (J 29) := h52
    have h53 : J49 34 = J 34 := h53
    obtain rfl : v48 = none := hw47
    have hO : OKW G h0 a (upd F 26 (nI ht)) (updR (updR R 7 (.ref (a 35))) 8 (.ref (a 34))) Z B J49 T Pi w := hO.to rfl
    refine W.widen (k := 0) (n := 0) (Nat.le_of_ble_eq_true rfl) (Nat.le_of_ble_eq_true rfl) ?_
    refine W.eq (g2 := F0 m 38 ls []) rfl ?_
    refine lv_aload_n hx hb dX3_make_38 rfl (lv_at hl 0 rfl) ?_
    refine c_get (v := .ref (a 35)) (C := RX3) (Tc := TX3) (N := 5) (ci := 3) hx hb hq pin_wsX30 hown hE hP hO 29 (sg_29 G h0 a _ _ _ _ _) rfl 0 (by decide) (hq _ pw_415) (fun _ h9 => h9) rfl dX3_make_39 ?_
    refine lv_aload_n hx hb dX3_make_42 rfl (lv_at hl 0 rfl) ?_
    refine c_get (v := .int (nI ht)) (C := RX3) (Tc := TX3) (N := 5) (ci := 3) hx hb hq pin_wsX30 hown hE hP hO 29 (sg_29 G h0 a _ _ _ _ _) rfl 2 (by decide) (hq _ pw_417) (fun _ h9 => h9) rfl dX3_make_43 ?_
    refine lv_iload_n hx hb dX3_make_46 rfl (lv_at hl 2 rfl) ?_
    refine lv_i2l hx hb dX3_make_47 rfl ?_
    refine lv_topl (fun x54 e55 => ?_)
    refine lv_bipush (v := 8) hx hb dX3_make_48 (by decide) ?_
    refine lv_lshl hx hb dX3_make_50 rfl ?_
    refine lv_topl (fun x56 e57 => ?_)
    refine lv_iload_n hx hb dX3_make_51 rfl (lv_at hl 1 rfl) ?_
    refine lv_i2l hx hb dX3_make_52 rfl ?_
    refine lv_topl (fun x58 e59 => ?_)
    refine lv_lor hx hb dX3_make_53 ?_
    refine lv_topl (fun x60 e61 => ?_)
    rw [show x60 = hdV c9 d9 from e61.trans (by rw [e57, e55, e59]; exact hdV_mk)]
    refine c_stl (f := (J49 35)) (n := 3008) (t0 := 2) hx hb hE hP hD hS hO 31 (sg_31 G h0 a _ _ _ _ _) rfl (vp_in_nI (by omega) (by decide)) (sj_35 G h0 a _ _ _ _ _ _) dX3_make_54 (fun H locs w hP hD hS hO => ?_)
    rw [(nI_clamp (show ht < 2 ^ 31 by omega))] at hO
    refine lv_aload_n hx hb dX3_make_55 rfl (lv_at hl 0 rfl) ?_
    refine lv_dup hx hb dX3_make_56 rfl ?_
    refine c_get (v := .int (nI ht)) (C := RX3) (Tc := TX3) (N := 5) (ci := 3) hx hb hq pin_wsX30 hown hE hP hO 29 (sg_29 G h0 a _ _ _ _ _) rfl 2 (by decide) (hq _ pw_417) (fun _ h9 => h9) rfl dX3_make_57 ?_
    refine lv_iload_n hx hb dX3_make_60 rfl (lv_at hl 2 rfl) ?_
    refine lv_iadd hx hb dX3_make_61 ?_
    refine lv_topi (fun x62 e63 => ?_)
    obtain rfl : x62 = nI (ht + c9) := e63.trans (nI_add (ht) (c9))
    refine c_put (v := .int (nI (ht + c9))) (ty := .int) (C := RX3) (Tc := TX3) (N := 5) (ci := 3) hx hb hq pin_wsX30 tyX3 tyX3_ok nmX3 hown hE hP hD hS hO 29 (sg_29 G h0 a _ _ _ _ _) rfl 2 (by decide) (hq _ pw_417) (fun _ h9 => h9) rfl (by decide +kernel) rfl rfl (Nat.le_of_ble_eq_true rfl) (sf_26 G h0 a _ _ _ _ _ (nI (ht + c9))) dX3_make_62 (fun H locs w hP hD hS hO => ?_)
    refine lv_ldc2 (v := 4294967296) hx hb hown (hq _ pw_424) dX3_make_65 ?_
    refine lv_aload_n hx hb dX3_make_68 rfl (lv_at hl 0 rfl) ?_
    refine c_get (v := .int (nI (ht + c9))) (C := RX3) (Tc := TX3) (N := 5) (ci := 3) hx hb hq pin_wsX30 hown hE hP hO 29 (sg_29 G h0 a _ _ _ _ _) rfl 2 (by decide) (hq _ pw_417) (fun _ h9 => h9) rfl dX3_make_69 ?_
    refine lv_iload_n hx hb dX3_make_72 rfl (lv_at hl 2 rfl) ?_
    refine lv_isub hx hb dX3_make_73 ?_
    refine lv_topi (fun x64 e65 => ?_)
    obtain rfl : x64 = nI ((ht + c9) - c9) := e65.trans (nI_subN (a := c9) (b := (ht + c9)) (by omega))
    rw [show ht + c9 - c9 = ht by omega]
    refine lv_i2l hx hb dX3_make_74 rfl ?_
    refine lv_topl (fun x66 e67 => ?_)
    refine lv_lor hx hb dX3_make_75 ?_
    refine lv_topl (fun x68 e69 => ?_)
    rw [show x68 = rfV ht from e69.trans (by rw [e67]; rfl)]
    have hz70 : (updJ J49 35 (vp_updL (J49 35) ht (hdV c9 d9))) 35 ht = hdV c9 d9 := (if_pos rfl)
    have hz71 : ∀ i : Nat, 1 ≤ i → i < c9 → (updJ J49 35 (vp_updL (J49 35) ht (hdV c9 d9))) 35 (ht + i) = 0 := (fun i h1 h2 => (if_neg (by omega)).trans (h50 (ht + i) (by omega) (by omega)))
    have hz72 : ∀ i : Nat, i < ht → (updJ J49 35 (vp_updL (J49 35) ht (hdV c9 d9))) 35 i = J 35 i := (fun i h1 => (if_neg (by omega)).trans (h51 i h1))
    have hz73 : (updJ J49 35 (vp_updL (J49 35) ht (hdV c9 d9))) 29 = J 29 := h52
    have hz74 : (updJ J49 35 (vp_updL (J49 35) ht (hdV c9 d9))) 34 = J 34 := h53
    have hO : OKW G h0 a (upd F 26 (nI (ht + c9))) (updR (updR R 7 (.ref (a 35))) 8 (.ref (a 34))) Z B (updJ J49 35 (vp_updL (J49 35) ht (hdV c9 d9))) T Pi w := hO.to rfl
    exact W.lret (v := (rfV ht)) hx hb hr (fun t99 ht99 hW99 => ⟨⟨_, (w, (updJ J49 35 (vp_updL (J49 35) ht (hdV c9 d9)))), rfl, ⟨rfl, hz70, hz71, hz72, hz73, hz74, hO⟩, by rw [ht99]; exact hP, hD⟩, hS.F ht99⟩) hS.2.2 dX3_make_76

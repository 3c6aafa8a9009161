def CoQ (bt : Nat → Nat → Prop) (nd t u r : Nat) : Prop := r = 63 ∨ (r = u ∧ (t = u ∨ fitK bt nd t u)) ∨ (r = t ∧ fitK bt nd u t)
set_option maxHeartbeats 2000000 in
set_option maxRecDepth 100000 in
theorem Y_kindAt (l : Launch) (G : pT) (h0 : Nat) (a : Nat → Nat) (F : Nat → Int32) (R : Nat → Value) (Z : Int64) (B : Nat → Nat → Int32) (J : Nat → Nat → Int64) (T : Nat → Nat) (Pi : Nat → va_E → Prop) (w : va_W) (x : Int32) (sz : Nat) (hsz : sz ≤ 5000) (hO : OKW G h0 a (upd F 2 (nI sz)) R Z B J T Pi w) : PM l G pX0 yX10_kindAt cX10_kindAt 2 (some .int) ({ frames := 2, cells := 0, slots := 0, locals := 60 }) [.ref (a 1), .int x] w (fun (v : Option Value) (u : va_W × (Unit)) => v = some (.int (tkN (B 7) sz 67 x)) ∧ (OKW G h0 a (upd F 2 (nI sz)) R Z B J T Pi u.1)) (fun u => u.1) := by
  intro sz
  refine Met.ofW (cc := cX10_kindAt) (maxL := 2) (ret := (some .int)) (by decide) rfl ?_
  intro p e s m args below meth c s₁ B9 hml hv
  obtain ⟨rfl, hsz, hP, hD0, hE, hX⟩ := hv
  have hx := B9.exec
  have hb := B9.bytes
  have hr := B9.returns
  have hts := atoms_spec (ws := Cond.code yX10_kindAt cX10_kindAt 2 (some .int) :: pw) B9.pre
  have hq : ∀ w ∈ pw, w.before _ s = true := fun w h => hts w (List.mem_cons_of_mem _ h)
  have hown : s.vm.findClass RX10 = some m.cls := findClass_of_methodNamed B9.named
  have hlocks := B9.notSynchronized
  subst hsz
  have hD := hD0.self (sz := s.heap.size)
  have hA : ∀ q : Nat, s.heap.size ≤ q → va_A w s.heap.size q := fun q h => Or.inr h
  generalize va_A w s.heap.size = A at hD hE hA ⊢
  have hS : va_S A s.heap s.heap [] := va_S.rf
  have hl := lv_entry ([.ref (a 1), .int x]) (n := 2) (Nat.le_of_ble_eq_true rfl)
  rw [lg_entry_eq]
  generalize (lg_sl ([.ref (a 1), .int x]) ++ List.replicate (2 - (lg_sl ([.ref (a 1), .int x])).length) Slot.unset).toArray = ls at hl ⊢
  have hl : lv_has ls 2 [(0, .ref (a 1)), (1, .int x)] := hl
  refine lv_iload_n hx hb dX10_kindAt_0 rfl (lv_at hl 1 rfl) ?_
  refine lv_if_lt (tgt := 21) hx hb dX10_kindAt_1 (by decide) (fun c1 => ?_) (fun c1 => ?_)
  · refine lv_bipush (v := 67) hx hb dX10_kindAt_21 (by decide) ?_
    have hO : OKW G h0 a (upd F 2 (nI sz)) R Z B J T Pi w := hO.to rfl
    exact W.iret (v := 67) hx hb hr (fun t99 ht99 hW99 => ⟨⟨_, (w, ()), rfl, ⟨(congrArg (fun z => some (Value.int z)) (tkN_out (Or.inl c1)).symm), hO⟩, by rw [ht99]; exact hP, hD⟩, hS.F ht99⟩) hS.2.2 dX10_kindAt_23
  · obtain ⟨t9, ht_t9, hb_t9⟩ := nI_nn2 c1
    rw [ht_t9] at hl
    refine lv_iload_n hx hb dX10_kindAt_4 rfl (lv_at hl 1 rfl) ?_
    refine lv_aload_n hx hb dX10_kindAt_5 rfl (lv_at hl 0 rfl) ?_
    refine c_get (v := .int (nI sz)) (C := RX10) (Tc := TX10) (N := 15) (ci := 7) hx hb hq pin_wsX100 hown hE hP hO 2 (sg_2 G h0 a _ _ _ _ _) rfl 8 (by decide) (hq _ pw_37) (fun _ h9 => h9) rfl dX10_kindAt_6 ?_
    refine lv_icmp_ge (tgt := 21) hx hb dX10_kindAt_9 (by decide) (fun c2 => ?_) (fun c2 => ?_)
    · have n3 : sz ≤ t9 := (nI_leI (a := sz) (b := t9) (by omega) (by omega)).mp c2
      refine lv_bipush (v := 67) hx hb dX10_kindAt_21 (by decide) ?_
      have hO : OKW G h0 a (upd F 2 (nI sz)) R Z B J T Pi w := hO.to rfl
      exact W.iret (v := 67) hx hb hr (fun t99 ht99 hW99 => ⟨⟨_, (w, ()), rfl, ⟨(congrArg (fun z => some (Value.int z)) (by rw [ht_t9]; exact (tkN_out (Or.inr c2)).symm)), hO⟩, by rw [ht99]; exact hP, hD⟩, hS.F ht99⟩) hS.2.2 dX10_kindAt_23
    · have n4 : ¬ (sz ≤ t9) := fun h9 => c2 ((nI_leI (a := sz) (b := t9) (by omega) (by omega)).mpr h9)
      refine lv_aload_n hx hb dX10_kindAt_12 rfl (lv_at hl 0 rfl) ?_
      refine c_get (v := .ref (a 7)) (C := RX10) (Tc := TX10) (N := 15) (ci := 7) hx hb hq pin_wsX100 hown hE hP hO 2 (sg_2 G h0 a _ _ _ _ _) rfl 3 (by decide) (hq _ pw_127) (fun _ h9 => h9) rfl dX10_kindAt_13 ?_
      refine lv_iload_n hx hb dX10_kindAt_16 rfl (lv_at hl 1 rfl) ?_
      refine c_ldi (f := (B 7)) (n := 5000) (t0 := 0) hx hb hE hP hO 4 (sg_4 G h0 a _ _ _ _ _) rfl (vp_in_nI (by omega) (by decide)) dX10_kindAt_17 ?_
      rw [(nI_clamp (show t9 < 2 ^ 31 by omega))]
      refine lv_goto (tgt := 23) hx hb dX10_kindAt_18 (by decide) ?_
      have hO : OKW G h0 a (upd F 2 (nI sz)) R Z B J T Pi w := hO.to rfl
      exact W.iret (v := ((B 7) t9)) hx hb hr (fun t99 ht99 hW99 => ⟨⟨_, (w, ()), rfl, ⟨(congrArg (fun z => some (Value.int z)) (by rw [ht_t9]; exact (tkN_in (by omega) (by omega)).symm)), hO⟩, by rw [ht99]; exact hP, hD⟩, hS.F ht99⟩) hS.2.2 dX10_kindAt_23
set_option maxHeartbeats 2000000 in
set_option maxRecDepth 100000 in
theorem Y_valueAt (l : Launch) (G : pT) (h0 : Nat) (a : Nat → Nat) (F : Nat → Int32) (R : Nat → Value) (Z : Int64) (B : Nat → Nat → Int32) (J : Nat → Nat → Int64) (T : Nat → Nat) (Pi : Nat → va_E → Prop) (w : va_W) (x : Int32) (sz : Nat) (hsz : sz ≤ 5000) (hO : OKW G h0 a (upd F 2 (nI sz)) R Z B J T Pi w) : PM l G pX0 yX10_valueAt cX10_valueAt 2 (some .int) ({ frames := 2, cells := 0, slots := 0, locals := 60 }) [.ref (a 1), .int x] w (fun (v : Option Value) (u : va_W × (Unit)) => v = some (.int (tkN (B 9) sz (-1) x)) ∧ (OKW G h0 a (upd F 2 (nI sz)) R Z B J T Pi u.1)) (fun u => u.1) := by
  intro sz
  refine Met.ofW (cc := cX10_valueAt) (maxL := 2) (ret := (some .int)) (by decide) rfl ?_
  intro p e s m args below meth c s₁ B9 hml hv
  obtain ⟨rfl, hsz, hP, hD0, hE, hX⟩ := hv
  have hx := B9.exec
  have hb := B9.bytes
  have hr := B9.returns
  have hts := atoms_spec (ws := Cond.code yX10_valueAt cX10_valueAt 2 (some .int) :: pw) B9.pre
  have hq : ∀ w ∈ pw, w.before _ s = true := fun w h => hts w (List.mem_cons_of_mem _ h)
  have hown : s.vm.findClass RX10 = some m.cls := findClass_of_methodNamed B9.named
  have hlocks := B9.notSynchronized
  subst hsz
  have hD := hD0.self (sz := s.heap.size)
  have hA : ∀ q : Nat, s.heap.size ≤ q → va_A w s.heap.size q := fun q h => Or.inr h
  generalize va_A w s.heap.size = A at hD hE hA ⊢
  have hS : va_S A s.heap s.heap [] := va_S.rf
  have hl := lv_entry ([.ref (a 1), .int x]) (n := 2) (Nat.le_of_ble_eq_true rfl)
  rw [lg_entry_eq]
  generalize (lg_sl ([.ref (a 1), .int x]) ++ List.replicate (2 - (lg_sl ([.ref (a 1), .int x])).length) Slot.unset).toArray = ls at hl ⊢
  have hl : lv_has ls 2 [(0, .ref (a 1)), (1, .int x)] := hl
  refine lv_iload_n hx hb dX10_valueAt_0 rfl (lv_at hl 1 rfl) ?_
  refine lv_if_lt (tgt := 21) hx hb dX10_valueAt_1 (by decide) (fun c1 => ?_) (fun c1 => ?_)
  · refine lv_iconst (v := (-1)) hx hb dX10_valueAt_21 (by decide) ?_
    have hO : OKW G h0 a (upd F 2 (nI sz)) R Z B J T Pi w := hO.to rfl
    exact W.iret (v := (-1)) hx hb hr (fun t99 ht99 hW99 => ⟨⟨_, (w, ()), rfl, ⟨(congrArg (fun z => some (Value.int z)) (tkN_out (Or.inl c1)).symm), hO⟩, by rw [ht99]; exact hP, hD⟩, hS.F ht99⟩) hS.2.2 dX10_valueAt_22
  · obtain ⟨t9, ht_t9, hb_t9⟩ := nI_nn2 c1
    rw [ht_t9] at hl
    refine lv_iload_n hx hb dX10_valueAt_4 rfl (lv_at hl 1 rfl) ?_
    refine lv_aload_n hx hb dX10_valueAt_5 rfl (lv_at hl 0 rfl) ?_
    refine c_get (v := .int (nI sz)) (C := RX10) (Tc := TX10) (N := 15) (ci := 7) hx hb hq pin_wsX100 hown hE hP hO 2 (sg_2 G h0 a _ _ _ _ _) rfl 8 (by decide) (hq _ pw_37) (fun _ h9 => h9) rfl dX10_valueAt_6 ?_
    refine lv_icmp_ge (tgt := 21) hx hb dX10_valueAt_9 (by decide) (fun c2 => ?_) (fun c2 => ?_)
    · have n3 : sz ≤ t9 := (nI_leI (a := sz) (b := t9) (by omega) (by omega)).mp c2
      refine lv_iconst (v := (-1)) hx hb dX10_valueAt_21 (by decide) ?_
      have hO : OKW G h0 a (upd F 2 (nI sz)) R Z B J T Pi w := hO.to rfl
      exact W.iret (v := (-1)) hx hb hr (fun t99 ht99 hW99 => ⟨⟨_, (w, ()), rfl, ⟨(congrArg (fun z => some (Value.int z)) (by rw [ht_t9]; exact (tkN_out (Or.inr c2)).symm)), hO⟩, by rw [ht99]; exact hP, hD⟩, hS.F ht99⟩) hS.2.2 dX10_valueAt_22
    · have n4 : ¬ (sz ≤ t9) := fun h9 => c2 ((nI_leI (a := sz) (b := t9) (by omega) (by omega)).mpr h9)
      refine lv_aload_n hx hb dX10_valueAt_12 rfl (lv_at hl 0 rfl) ?_
      refine c_get (v := .ref (a 9)) (C := RX10) (Tc := TX10) (N := 15) (ci := 7) hx hb hq pin_wsX100 hown hE hP hO 2 (sg_2 G h0 a _ _ _ _ _) rfl 5 (by decide) (hq _ pw_40) (fun _ h9 => h9) rfl dX10_valueAt_13 ?_
      refine lv_iload_n hx hb dX10_valueAt_16 rfl (lv_at hl 1 rfl) ?_
      refine c_ldi (f := (B 9)) (n := 5000) (t0 := 0) hx hb hE hP hO 6 (sg_6 G h0 a _ _ _ _ _) rfl (vp_in_nI (by omega) (by decide)) dX10_valueAt_17 ?_
      rw [(nI_clamp (show t9 < 2 ^ 31 by omega))]
      refine lv_goto (tgt := 22) hx hb dX10_valueAt_18 (by decide) ?_
      have hO : OKW G h0 a (upd F 2 (nI sz)) R Z B J T Pi w := hO.to rfl
      exact W.iret (v := ((B 9) t9)) hx hb hr (fun t99 ht99 hW99 => ⟨⟨_, (w, ()), rfl, ⟨(congrArg (fun z => some (Value.int z)) (by rw [ht_t9]; exact (tkN_in (by omega) (by omega)).symm)), hO⟩, by rw [ht99]; exact hP, hD⟩, hS.F ht99⟩) hS.2.2 dX10_valueAt_22
set_option maxHeartbeats 2000000 in
set_option maxRecDepth 100000 in
theorem Y_typeAt (l : Launch) (G : pT) (h0 : Nat) (a : Nat → Nat) (F : Nat → Int32) (R : Nat → Value) (Z : Int64) (B : Nat → Nat → Int32) (J : Nat → Nat → Int64) (T : Nat → Nat) (Pi : Nat → va_E → Prop) (w : va_W) (x : Int32) (sz : Nat) (nd : Nat) (hsz : sz ≤ 5000) (htr : TyR (B 11) nd sz) (hO : OKW G h0 a (upd F 2 (nI sz)) R Z B J T Pi w) : PM l G pX0 yX10_typeAt cX10_typeAt 2 (some .int) ({ frames := 2, cells := 0, slots := 0, locals := 60 }) [.ref (a 1), .int x] w (fun (v : Option Value) (u : va_W × (Unit)) => v = some (.int (nI (tyN (B 11) sz x))) ∧ (OKW G h0 a (upd F 2 (nI sz)) R Z B J T Pi u.1)) (fun u => u.1) := by
  intro sz
  refine Met.ofW (cc := cX10_typeAt) (maxL := 2) (ret := (some .int)) (by decide) rfl ?_
  intro p e s m args below meth c s₁ B9 hml hv
  obtain ⟨rfl, hsz, hP, hD0, hE, hX⟩ := hv
  have hx := B9.exec
  have hb := B9.bytes
  have hr := B9.returns
  have hts := atoms_spec (ws := Cond.code yX10_typeAt cX10_typeAt 2 (some .int) :: pw) B9.pre
  have hq : ∀ w ∈ pw, w.before _ s = true := fun w h => hts w (List.mem_cons_of_mem _ h)
  have hown : s.vm.findClass RX10 = some m.cls := findClass_of_methodNamed B9.named
  have hlocks := B9.notSynchronized
  subst hsz
  have hD := hD0.self (sz := s.heap.size)
  have hA : ∀ q : Nat, s.heap.size ≤ q → va_A w s.heap.size q := fun q h => Or.inr h
  generalize va_A w s.heap.size = A at hD hE hA ⊢
  have hS : va_S A s.heap s.heap [] := va_S.rf
  have hl := lv_entry ([.ref (a 1), .int x]) (n := 2) (Nat.le_of_ble_eq_true rfl)
  rw [lg_entry_eq]
  generalize (lg_sl ([.ref (a 1), .int x]) ++ List.replicate (2 - (lg_sl ([.ref (a 1), .int x])).length) Slot.unset).toArray = ls at hl ⊢
  have hl : lv_has ls 2 [(0, .ref (a 1)), (1, .int x)] := hl
  refine lv_iload_n hx hb dX10_typeAt_0 rfl (lv_at hl 1 rfl) ?_
  refine lv_if_lt (tgt := 21) hx hb dX10_typeAt_1 (by decide) (fun c1 => ?_) (fun c1 => ?_)
  · refine lv_bipush (v := 63) hx hb dX10_typeAt_21 (by decide) ?_
    have hO : OKW G h0 a (upd F 2 (nI sz)) R Z B J T Pi w := hO.to rfl
    exact W.iret (v := 63) hx hb hr (fun t99 ht99 hW99 => ⟨⟨_, (w, ()), rfl, ⟨(congrArg (fun z => some (Value.int z)) (by rw [tyN_out (Or.inl c1)]; rfl)), hO⟩, by rw [ht99]; exact hP, hD⟩, hS.F ht99⟩) hS.2.2 dX10_typeAt_23
  · obtain ⟨t9, ht_t9, hb_t9⟩ := nI_nn2 c1
    rw [ht_t9] at hl
    refine lv_iload_n hx hb dX10_typeAt_4 rfl (lv_at hl 1 rfl) ?_
    refine lv_aload_n hx hb dX10_typeAt_5 rfl (lv_at hl 0 rfl) ?_
    refine c_get (v := .int (nI sz)) (C := RX10) (Tc := TX10) (N := 15) (ci := 7) hx hb hq pin_wsX100 hown hE hP hO 2 (sg_2 G h0 a _ _ _ _ _) rfl 8 (by decide) (hq _ pw_37) (fun _ h9 => h9) rfl dX10_typeAt_6 ?_
    refine lv_icmp_ge (tgt := 21) hx hb dX10_typeAt_9 (by decide) (fun c2 => ?_) (fun c2 => ?_)
    · have n3 : sz ≤ t9 := (nI_leI (a := sz) (b := t9) (by omega) (by omega)).mp c2
      refine lv_bipush (v := 63) hx hb dX10_typeAt_21 (by decide) ?_
      have hO : OKW G h0 a (upd F 2 (nI sz)) R Z B J T Pi w := hO.to rfl
      exact W.iret (v := 63) hx hb hr (fun t99 ht99 hW99 => ⟨⟨_, (w, ()), rfl, ⟨(congrArg (fun z => some (Value.int z)) (by rw [ht_t9, tyN_out (Or.inr c2)]; rfl)), hO⟩, by rw [ht99]; exact hP, hD⟩, hS.F ht99⟩) hS.2.2 dX10_typeAt_23
    · have n4 : ¬ (sz ≤ t9) := fun h9 => c2 ((nI_leI (a := sz) (b := t9) (by omega) (by omega)).mpr h9)
      refine lv_aload_n hx hb dX10_typeAt_12 rfl (lv_at hl 0 rfl) ?_
      refine c_get (v := .ref (a 11)) (C := RX10) (Tc := TX10) (N := 15) (ci := 7) hx hb hq pin_wsX100 hown hE hP hO 2 (sg_2 G h0 a _ _ _ _ _) rfl 7 (by decide) (hq _ pw_38) (fun _ h9 => h9) rfl dX10_typeAt_13 ?_
      refine lv_iload_n hx hb dX10_typeAt_16 rfl (lv_at hl 1 rfl) ?_
      refine c_ldi (f := (B 11)) (n := 5000) (t0 := 0) hx hb hE hP hO 8 (sg_8 G h0 a _ _ _ _ _) rfl (vp_in_nI (by omega) (by decide)) dX10_typeAt_17 ?_
      rw [(nI_clamp (show t9 < 2 ^ 31 by omega))]
      refine lv_goto (tgt := 23) hx hb dX10_typeAt_18 (by decide) ?_
      have hO : OKW G h0 a (upd F 2 (nI sz)) R Z B J T Pi w := hO.to rfl
      exact W.iret (v := ((B 11) t9)) hx hb hr (fun t99 ht99 hW99 => ⟨⟨_, (w, ()), rfl, ⟨(congrArg (fun z => some (Value.int z)) (by rw [ht_t9]; exact (htr.at (by omega) (by omega)).1)), hO⟩, by rw [ht99]; exact hP, hD⟩, hS.F ht99⟩) hS.2.2 dX10_typeAt_23
set_option maxHeartbeats 20000000 in
set_option maxRecDepth 100000 in
theorem Y_common (l : Launch) (G : pT) (h0 : Nat) (a : Nat → Nat) (F : Nat → Int32) (R : Nat → Value) (Z : Int64) (B : Nat → Nat → Int32) (J : Nat → Nat → Int64) (K : PK) (w : va_W) (pq : Nat) (dr : Nat) (ml : Nat) (nd : Nat) (t9 : Nat) (u9 : Nat) (g : Nat → Nat → Nat) (hpb : PgB K g (a 1) pq dr ml nd) (hdc : DcR K g dr nd) (ht9 : t9 < 128 ∧ u9 < 128) (hO : OKP G h0 a F R Z B J K w) : PM l G pX0 yX9_common cX9_common 3 (some .int) ({ frames := 4, cells := 0, slots := 0, locals := 104 }) [.ref pq, .int (nI t9), .int (nI u9)] w (fun (v : Option Value) (u : va_W × (Nat)) => v = some (.int (nI u.2)) ∧ (CoQ (btK K dr) nd t9 u9 u.2) ∧ (OKP G h0 a F R Z B J K u.1)) (fun u => u.1) := by
  intro sz
  refine Met.ofW (cc := cX9_common) (maxL := 3) (ret := (some .int)) (by decide) rfl ?_
  intro p e s m args below meth c s₁ B9 hml hv
  obtain ⟨rfl, hsz, hP, hD0, hE, hX⟩ := hv
  have hx := B9.exec
  have hb := B9.bytes
  have hr := B9.returns
  have hts := atoms_spec (ws := Cond.code yX9_common cX9_common 3 (some .int) :: pw) B9.pre
  have hq : ∀ w ∈ pw, w.before _ s = true := fun w h => hts w (List.mem_cons_of_mem _ h)
  have hown : s.vm.findClass RX9 = some m.cls := findClass_of_methodNamed B9.named
  have hlocks := B9.notSynchronized
  subst hsz
  have hD := hD0.self (sz := s.heap.size)
  have hA : ∀ q : Nat, s.heap.size ≤ q → va_A w s.heap.size q := fun q h => Or.inr h
  generalize va_A w s.heap.size = A at hD hE hA ⊢
  have hS : va_S A s.heap s.heap [] := va_S.rf
  have hl := lv_entry ([.ref pq, .int (nI t9), .int (nI u9)]) (n := 3) (Nat.le_of_ble_eq_true rfl)
  rw [lg_entry_eq]
  generalize (lg_sl ([.ref pq, .int (nI t9), .int (nI u9)]) ++ List.replicate (3 - (lg_sl ([.ref pq, .int (nI t9), .int (nI u9)])).length) Slot.unset).toArray = ls at hl ⊢
  have hl : lv_has ls 3 [(0, .ref pq), (1, .int (nI t9)), (2, .int (nI u9))] := hl
  have hp1 := hpb.1
  have hp2 := hpb.2.1
  have hp3 := hpb.2.2.1
  have hp4 := hpb.2.2.2.1
  have hp5 := hpb.2.2.2.2.1
  have hp6 := hpb.2.2.2.2.2.1
  have hp8 := hpb.2.2.2.2.2.2.2.1
  have hp9 := hpb.2.2.2.2.2.2.2.2
  refine lv_iload_n hx hb dX9_common_0 rfl (lv_at hl 1 rfl) ?_
  refine lv_iload_n hx hb dX9_common_1 rfl (lv_at hl 2 rfl) ?_
  refine lv_icmp_eq (tgt := 28) hx hb dX9_common_2 (by decide) (fun c1 => ?_) (fun c1 => ?_)
  · have n2 : t9 = u9 := (nI_eq (a := t9) (b := u9) (by omega) (by omega)).mp c1
    refine lv_iload_n hx hb dX9_common_28 rfl (lv_at hl 2 rfl) ?_
    have hz3 : CoQ (btK K dr) nd t9 u9 u9 := (Or.inr (Or.inl ⟨rfl, Or.inl (by omega)⟩))
    have hO : OKP G h0 a F R Z B J K w := hO.to rfl
    exact W.iret (v := (nI u9)) hx hb hr (fun t99 ht99 hW99 => ⟨⟨_, (w, u9), rfl, ⟨rfl, hz3, hO⟩, by rw [ht99]; exact hP, hD⟩, hS.F ht99⟩) hS.2.2 dX9_common_29
  · have n4 : ¬ (t9 = u9) := fun h9 => c1 ((nI_eq (a := t9) (b := u9) (by omega) (by omega)).mpr h9)
    refine lv_iload_n hx hb dX9_common_5 rfl (lv_at hl 1 rfl) ?_
    have hO : OKW G h0 a F R Z B J K.1 (fun q99 x99 => x99 = rep G a K q99) w := hO.to rfl
    refine pc_S0 (G := G) (As := [.int (nI t9)]) (rest := []) hx hb hml hown hq hE hX pX0_al hP hD hS hA hl.1 (Y_isRefT l G h0 a F R Z B J K.1 (fun q99 x99 => x99 = rep G a K q99) w t9 (by omega) hO) (gS pw_104 pw_105 pw_106 pw_100) hS_X9_isReference rfl (Nat.le_of_ble_eq_true rfl) dX9_common_6 ⟨Nat.le_of_ble_eq_true rfl, Nat.le_of_ble_eq_true rfl⟩ ⟨Nat.le_of_ble_eq_true rfl, Nat.le_of_ble_eq_true rfl⟩ (fun v7 u5 H locs hw6 hP hD hS => ?_)
    obtain ⟨w, r8⟩ := u5
    obtain ⟨hw6, h9, h10, hO⟩ := hw6
    have h9 : r8 ≤ 1 := h9
    have h10 : r8 = 1 ↔ ¬ (t9 = 60 ∨ t9 = 61 ∨ t9 = 63) := h10
    obtain rfl : v7 = some (.int (nI r8)) := hw6
    have hO : OKP G h0 a F R Z B J K w := hO.to rfl
    refine W.widen (k := 0) (n := 0) (Nat.le_of_ble_eq_true rfl) (Nat.le_of_ble_eq_true rfl) ?_
    refine W.eq (g2 := F0 m 9 ls [.int (nI r8)]) rfl ?_
    refine lv_if_eq (tgt := 30) hx hb dX9_common_9 (by decide) (fun c11 => ?_) (fun c11 => ?_)
    · have n12 : r8 = 0 := (nI_eq (a := r8) (b := 0) (by omega) (by omega)).mp c11
      refine lv_iload_n hx hb dX9_common_30 rfl (lv_at hl 1 rfl) ?_
      have hO : OKW G h0 a F R Z B J K.1 (fun q99 x99 => x99 = rep G a K q99) w := hO.to rfl
      refine pc_S0 (G := G) (As := [.int (nI t9)]) (rest := []) hx hb hml hown hq hE hX pX0_al hP hD hS hA hl.1 (Y_isRefT l G h0 a F R Z B J K.1 (fun q99 x99 => x99 = rep G a K q99) w t9 (by omega) hO) (gS pw_104 pw_105 pw_106 pw_100) hS_X9_isReference rfl (Nat.le_of_ble_eq_true rfl) dX9_common_31 ⟨Nat.le_of_ble_eq_true rfl, Nat.le_of_ble_eq_true rfl⟩ ⟨Nat.le_of_ble_eq_true rfl, Nat.le_of_ble_eq_true rfl⟩ (fun v15 u13 H locs hw14 hP hD hS => ?_)
      obtain ⟨w, r16⟩ := u13
      obtain ⟨hw14, h17, h18, hO⟩ := hw14
      have h17 : r16 ≤ 1 := h17
      have h18 : r16 = 1 ↔ ¬ (t9 = 60 ∨ t9 = 61 ∨ t9 = 63) := h18
      obtain rfl : v15 = some (.int (nI r16)) := hw14
      have hO : OKP G h0 a F R Z B J K w := hO.to rfl
      refine W.widen (k := 0) (n := 0) (Nat.le_of_ble_eq_true rfl) (Nat.le_of_ble_eq_true rfl) ?_
      refine W.eq (g2 := F0 m 34 ls [.int (nI r16)]) rfl ?_
      refine lv_if_eq (tgt := 57) hx hb dX9_common_34 (by decide) (fun c19 => ?_) (fun c19 => ?_)
      · have n20 : r16 = 0 := (nI_eq (a := r16) (b := 0) (by omega) (by omega)).mp c19
        refine lv_bipush (v := 63) hx hb dX9_common_57 (by decide) ?_
        have hz21 : CoQ (btK K dr) nd t9 u9 63 := (Or.inl rfl)
        have hO : OKP G h0 a F R Z B J K w := hO.to rfl
        exact W.iret (v := 63) hx hb hr (fun t99 ht99 hW99 => ⟨⟨_, (w, 63), rfl, ⟨rfl, hz21, hO⟩, by rw [ht99]; exact hP, hD⟩, hS.F ht99⟩) hS.2.2 dX9_common_59
      · have n22 : ¬ (r16 = 0) := fun h9 => c19 ((nI_eq (a := r16) (b := 0) (by omega) (by omega)).mpr h9)
        refine lv_iload_n hx hb dX9_common_37 rfl (lv_at hl 2 rfl) ?_
        have hO : OKW G h0 a F R Z B J K.1 (fun q99 x99 => x99 = rep G a K q99) w := hO.to rfl
        refine pc_S0 (G := G) (As := [.int (nI u9)]) (rest := []) hx hb hml hown hq hE hX pX0_al hP hD hS hA hl.1 (Y_isRefT l G h0 a F R Z B J K.1 (fun q99 x99 => x99 = rep G a K q99) w u9 (by omega) hO) (gS pw_104 pw_105 pw_106 pw_100) hS_X9_isReference rfl (Nat.le_of_ble_eq_true rfl) dX9_common_38 ⟨Nat.le_of_ble_eq_true rfl, Nat.le_of_ble_eq_true rfl⟩ ⟨Nat.le_of_ble_eq_true rfl, Nat.le_of_ble_eq_true rfl⟩ (fun v25 u23 H locs hw24 hP hD hS => ?_)
        obtain ⟨w, r26⟩ := u23
        obtain ⟨hw24, h27, h28, hO⟩ := hw24
        have h27 : r26 ≤ 1 := h27
        have h28 : r26 = 1 ↔ ¬ (u9 = 60 ∨ u9 = 61 ∨ u9 = 63) := h28
        obtain rfl : v25 = some (.int (nI r26)) := hw24
        have hO : OKP G h0 a F R Z B J K w := hO.to rfl
        refine W.widen (k := 0) (n := 0) (Nat.le_of_ble_eq_true rfl) (Nat.le_of_ble_eq_true rfl) ?_
        refine W.eq (g2 := F0 m 41 ls [.int (nI r26)]) rfl ?_
        refine lv_if_eq (tgt := 57) hx hb dX9_common_41 (by decide) (fun c29 => ?_) (fun c29 => ?_)
        · have n30 : r26 = 0 := (nI_eq (a := r26) (b := 0) (by omega) (by omega)).mp c29
          refine lv_bipush (v := 63) hx hb dX9_common_57 (by decide) ?_
          have hz31 : CoQ (btK K dr) nd t9 u9 63 := (Or.inl rfl)
          have hO : OKP G h0 a F R Z B J K w := hO.to rfl
          exact W.iret (v := 63) hx hb hr (fun t99 ht99 hW99 => ⟨⟨_, (w, 63), rfl, ⟨rfl, hz31, hO⟩, by rw [ht99]; exact hP, hD⟩, hS.F ht99⟩) hS.2.2 dX9_common_59
        · have n32 : ¬ (r26 = 0) := fun h9 => c29 ((nI_eq (a := r26) (b := 0) (by omega) (by omega)).mpr h9)
          refine lv_aload_n hx hb dX9_common_44 rfl (lv_at hl 0 rfl) ?_
          refine lv_iload_n hx hb dX9_common_45 rfl (lv_at hl 2 rfl) ?_
          refine lv_iload_n hx hb dX9_common_46 rfl (lv_at hl 1 rfl) ?_
          have hO : OKP G h0 a F R Z B J K w := hO.to rfl
          obtain ⟨qr36, hqr37⟩ := p_recv hO (by rw [hp1]; decide) (rep_7 hp1)
          refine pc_V0 (G := G) (As := [.int (nI u9), .int (nI t9)]) (rest := []) hx hb hml hown hq hE hX pX0_al hP hD hS hA hl.1 (Y_fits l G h0 a F R Z B J K w pq dr ml nd u9 t9 g hpb hdc (by omega) hO) (gV pw_136 pw_112 pw_113 pw_106 pw_103) hV_X9_fits qr36 6 hqr37 rfl rfl rfl (Nat.le_of_ble_eq_true rfl) dX9_common_47 ⟨Nat.le_of_ble_eq_true rfl, Nat.le_of_ble_eq_true rfl⟩ ⟨Nat.le_of_ble_eq_true rfl, Nat.le_of_ble_eq_true rfl⟩ (fun v35 u33 H locs hw34 hP hD hS => ?_)
          obtain ⟨w, r38⟩ := u33
          obtain ⟨hw34, h39, h40, hO⟩ := hw34
          have h39 : r38 ≤ 1 := h39
          have h40 : r38 = 1 ↔ fitK (btK K dr) nd u9 t9 := h40
          obtain rfl : v35 = some (.int (nI r38)) := hw34
          have hO : OKP G h0 a F R Z B J K w := hO.to rfl
          refine W.widen (k := 0) (n := 0) (Nat.le_of_ble_eq_true rfl) (Nat.le_of_ble_eq_true rfl) ?_
          refine W.eq (g2 := F0 m 50 ls [.int (nI r38)]) rfl ?_
          refine lv_if_eq (tgt := 57) hx hb dX9_common_50 (by decide) (fun c41 => ?_) (fun c41 => ?_)
          · have n42 : r38 = 0 := (nI_eq (a := r38) (b := 0) (by omega) (by omega)).mp c41
            refine lv_bipush (v := 63) hx hb dX9_common_57 (by decide) ?_
            have hz43 : CoQ (btK K dr) nd t9 u9 63 := (Or.inl rfl)
            have hO : OKP G h0 a F R Z B J K w := hO.to rfl
            exact W.iret (v := 63) hx hb hr (fun t99 ht99 hW99 => ⟨⟨_, (w, 63), rfl, ⟨rfl, hz43, hO⟩, by rw [ht99]; exact hP, hD⟩, hS.F ht99⟩) hS.2.2 dX9_common_59
          · have n44 : ¬ (r38 = 0) := fun h9 => c41 ((nI_eq (a := r38) (b := 0) (by omega) (by omega)).mpr h9)
            refine lv_iload_n hx hb dX9_common_53 rfl (lv_at hl 1 rfl) ?_
            refine lv_goto (tgt := 59) hx hb dX9_common_54 (by decide) ?_
            have hz45 : CoQ (btK K dr) nd t9 u9 t9 := (Or.inr (Or.inr ⟨rfl, h40.mp (by omega)⟩))
            have hO : OKP G h0 a F R Z B J K w := hO.to rfl
            exact W.iret (v := (nI t9)) hx hb hr (fun t99 ht99 hW99 => ⟨⟨_, (w, t9), rfl, ⟨rfl, hz45, hO⟩, by rw [ht99]; exact hP, hD⟩, hS.F ht99⟩) hS.2.2 dX9_common_59
    · have n46 : ¬ (r8 = 0) := fun h9 => c11 ((nI_eq (a := r8) (b := 0) (by omega) (by omega)).mpr h9)
      refine lv_iload_n hx hb dX9_common_12 rfl (lv_at hl 2 rfl) ?_
      have hO : OKW G h0 a F R Z B J K.1 (fun q99 x99 => x99 = rep G a K q99) w := hO.to rfl
      refine pc_S0 (G := G) (As := [.int (nI u9)]) (rest := []) hx hb hml hown hq hE hX pX0_al hP hD hS hA hl.1 (Y_isRefT l G h0 a F R Z B J K.1 (fun q99 x99 => x99 = rep G a K q99) w u9 (by omega) hO) (gS pw_104 pw_105 pw_106 pw_100) hS_X9_isReference rfl (Nat.le_of_ble_eq_true rfl) dX9_common_13 ⟨Nat.le_of_ble_eq_true rfl, Nat.le_of_ble_eq_true rfl⟩ ⟨Nat.le_of_ble_eq_true rfl, Nat.le_of_ble_eq_true rfl⟩ (fun v49 u47 H locs hw48 hP hD hS => ?_)
      obtain ⟨w, r50⟩ := u47
      obtain ⟨hw48, h51, h52, hO⟩ := hw48
      have h51 : r50 ≤ 1 := h51
      have h52 : r50 = 1 ↔ ¬ (u9 = 60 ∨ u9 = 61 ∨ u9 = 63) := h52
      obtain rfl : v49 = some (.int (nI r50)) := hw48
      have hO : OKP G h0 a F R Z B J K w := hO.to rfl
      refine W.widen (k := 0) (n := 0) (Nat.le_of_ble_eq_true rfl) (Nat.le_of_ble_eq_true rfl) ?_
      refine W.eq (g2 := F0 m 16 ls [.int (nI r50)]) rfl ?_
      refine lv_if_eq (tgt := 30) hx hb dX9_common_16 (by decide) (fun c53 => ?_) (fun c53 => ?_)
      · have n54 : r50 = 0 := (nI_eq (a := r50) (b := 0) (by omega) (by omega)).mp c53
        refine lv_iload_n hx hb dX9_common_30 rfl (lv_at hl 1 rfl) ?_
        have hO : OKW G h0 a F R Z B J K.1 (fun q99 x99 => x99 = rep G a K q99) w := hO.to rfl
        refine pc_S0 (G := G) (As := [.int (nI t9)]) (rest := []) hx hb hml hown hq hE hX pX0_al hP hD hS hA hl.1 (Y_isRefT l G h0 a F R Z B J K.1 (fun q99 x99 => x99 = rep G a K q99) w t9 (by omega) hO) (gS pw_104 pw_105 pw_106 pw_100) hS_X9_isReference rfl (Nat.le_of_ble_eq_true rfl) dX9_common_31 ⟨Nat.le_of_ble_eq_true rfl, Nat.le_of_ble_eq_true rfl⟩ ⟨Nat.le_of_ble_eq_true rfl, Nat.le_of_ble_eq_true rfl⟩ (fun v57 u55 H locs hw56 hP hD hS => ?_)
        obtain ⟨w, r58⟩ := u55
        obtain ⟨hw56, h59, h60, hO⟩ := hw56
        have h59 : r58 ≤ 1 := h59
        have h60 : r58 = 1 ↔ ¬ (t9 = 60 ∨ t9 = 61 ∨ t9 = 63) := h60
        obtain rfl : v57 = some (.int (nI r58)) := hw56
        have hO : OKP G h0 a F R Z B J K w := hO.to rfl
        refine W.widen (k := 0) (n := 0) (Nat.le_of_ble_eq_true rfl) (Nat.le_of_ble_eq_true rfl) ?_
        refine W.eq (g2 := F0 m 34 ls [.int (nI r58)]) rfl ?_
        refine lv_if_eq (tgt := 57) hx hb dX9_common_34 (by decide) (fun c61 => ?_) (fun c61 => ?_)
        · have n62 : r58 = 0 := (nI_eq (a := r58) (b := 0) (by omega) (by omega)).mp c61
          refine lv_bipush (v := 63) hx hb dX9_common_57 (by decide) ?_
          have hz63 : CoQ (btK K dr) nd t9 u9 63 := (Or.inl rfl)
          have hO : OKP G h0 a F R Z B J K w := hO.to rfl
          exact W.iret (v := 63) hx hb hr (fun t99 ht99 hW99 => ⟨⟨_, (w, 63), rfl, ⟨rfl, hz63, hO⟩, by rw [ht99]; exact hP, hD⟩, hS.F ht99⟩) hS.2.2 dX9_common_59
        · have n64 : ¬ (r58 = 0) := fun h9 => c61 ((nI_eq (a := r58) (b := 0) (by omega) (by omega)).mpr h9)
          refine lv_iload_n hx hb dX9_common_37 rfl (lv_at hl 2 rfl) ?_
          have hO : OKW G h0 a F R Z B J K.1 (fun q99 x99 => x99 = rep G a K q99) w := hO.to rfl
          refine pc_S0 (G := G) (As := [.int (nI u9)]) (rest := []) hx hb hml hown hq hE hX pX0_al hP hD hS hA hl.1 (Y_isRefT l G h0 a F R Z B J K.1 (fun q99 x99 => x99 = rep G a K q99) w u9 (by omega) hO) (gS pw_104 pw_105 pw_106 pw_100) hS_X9_isReference rfl (Nat.le_of_ble_eq_true rfl) dX9_common_38 ⟨Nat.le_of_ble_eq_true rfl, Nat.le_of_ble_eq_true rfl⟩ ⟨Nat.le_of_ble_eq_true rfl, Nat.le_of_ble_eq_true rfl⟩ (fun v67 u65 H locs hw66 hP hD hS => ?_)
          obtain ⟨w, r68⟩ := u65
          obtain ⟨hw66, h69, h70, hO⟩ := hw66
          have h69 : r68 ≤ 1 := h69
          have h70 : r68 = 1 ↔ ¬ (u9 = 60 ∨ u9 = 61 ∨ u9 = 63) := h70
          obtain rfl : v67 = some (.int (nI r68)) := hw66
          have hO : OKP G h0 a F R Z B J K w := hO.to rfl
          refine W.widen (k := 0) (n := 0) (Nat.le_of_ble_eq_true rfl) (Nat.le_of_ble_eq_true rfl) ?_
          refine W.eq (g2 := F0 m 41 ls [.int (nI r68)]) rfl ?_
          refine lv_if_eq (tgt := 57) hx hb dX9_common_41 (by decide) (fun c71 => ?_) (fun c71 => ?_)
          · have n72 : r68 = 0 := (nI_eq (a := r68) (b := 0) (by omega) (by omega)).mp c71
            refine lv_bipush (v := 63) hx hb dX9_common_57 (by decide) ?_
            have hz73 : CoQ (btK K dr) nd t9 u9 63 := (Or.inl rfl)
            have hO : OKP G h0 a F R Z B J K w := hO.to rfl
            exact W.iret (v := 63) hx hb hr (fun t99 ht99 hW99 => ⟨⟨_, (w, 63), rfl, ⟨rfl, hz73, hO⟩, by rw [ht99]; exact hP, hD⟩, hS.F ht99⟩) hS.2.2 dX9_common_59
          · have n74 : ¬ (r68 = 0) := fun h9 => c71 ((nI_eq (a := r68) (b := 0) (by omega) (by omega)).mpr h9)
            refine lv_aload_n hx hb dX9_common_44 rfl (lv_at hl 0 rfl) ?_
            refine lv_iload_n hx hb dX9_common_45 rfl (lv_at hl 2 rfl) ?_
            refine lv_iload_n hx hb dX9_common_46 rfl (lv_at hl 1 rfl) ?_
            have hO : OKP G h0 a F R Z B J K w := hO.to rfl
            obtain ⟨qr78, hqr79⟩ := p_recv hO (by rw [hp1]; decide) (rep_7 hp1)
            refine pc_V0 (G := G) (As := [.int (nI u9), .int (nI t9)]) (rest := []) hx hb hml hown hq hE hX pX0_al hP hD hS hA hl.1 (Y_fits l G h0 a F R Z B J K w pq dr ml nd u9 t9 g hpb hdc (by omega) hO) (gV pw_136 pw_112 pw_113 pw_106 pw_103) hV_X9_fits qr78 6 hqr79 rfl rfl rfl (Nat.le_of_ble_eq_true rfl) dX9_common_47 ⟨Nat.le_of_ble_eq_true rfl, Nat.le_of_ble_eq_true rfl⟩ ⟨Nat.le_of_ble_eq_true rfl, Nat.le_of_ble_eq_true rfl⟩ (fun v77 u75 H locs hw76 hP hD hS => ?_)
            obtain ⟨w, r80⟩ := u75
            obtain ⟨hw76, h81, h82, hO⟩ := hw76
            have h81 : r80 ≤ 1 := h81
            have h82 : r80 = 1 ↔ fitK (btK K dr) nd u9 t9 := h82
            obtain rfl : v77 = some (.int (nI r80)) := hw76
            have hO : OKP G h0 a F R Z B J K w := hO.to rfl
            refine W.widen (k := 0) (n := 0) (Nat.le_of_ble_eq_true rfl) (Nat.le_of_ble_eq_true rfl) ?_
            refine W.eq (g2 := F0 m 50 ls [.int (nI r80)]) rfl ?_
            refine lv_if_eq (tgt := 57) hx hb dX9_common_50 (by decide) (fun c83 => ?_) (fun c83 => ?_)
            · have n84 : r80 = 0 := (nI_eq (a := r80) (b := 0) (by omega) (by omega)).mp c83
              refine lv_bipush (v := 63) hx hb dX9_common_57 (by decide) ?_
              have hz85 : CoQ (btK K dr) nd t9 u9 63 := (Or.inl rfl)
              have hO : OKP G h0 a F R Z B J K w := hO.to rfl
              exact W.iret (v := 63) hx hb hr (fun t99 ht99 hW99 => ⟨⟨_, (w, 63), rfl, ⟨rfl, hz85, hO⟩, by rw [ht99]; exact hP, hD⟩, hS.F ht99⟩) hS.2.2 dX9_common_59
            · have n86 : ¬ (r80 = 0) := fun h9 => c83 ((nI_eq (a := r80) (b := 0) (by omega) (by omega)).mpr h9)
              refine lv_iload_n hx hb dX9_common_53 rfl (lv_at hl 1 rfl) ?_
              refine lv_goto (tgt := 59) hx hb dX9_common_54 (by decide) ?_
              have hz87 : CoQ (btK K dr) nd t9 u9 t9 := (Or.inr (Or.inr ⟨rfl, h82.mp (by omega)⟩))
              have hO : OKP G h0 a F R Z B J K w := hO.to rfl
              exact W.iret (v := (nI t9)) hx hb hr (fun t99 ht99 hW99 => ⟨⟨_, (w, t9), rfl, ⟨rfl, hz87, hO⟩, by rw [ht99]; exact hP, hD⟩, hS.F ht99⟩) hS.2.2 dX9_common_59
      · have n88 : ¬ (r50 = 0) := fun h9 => c53 ((nI_eq (a := r50) (b := 0) (by omega) (by omega)).mpr h9)
        refine lv_aload_n hx hb dX9_common_19 rfl (lv_at hl 0 rfl) ?_
        refine lv_iload_n hx hb dX9_common_20 rfl (lv_at hl 1 rfl) ?_
        refine lv_iload_n hx hb dX9_common_21 rfl (lv_at hl 2 rfl) ?_
        have hO : OKP G h0 a F R Z B J K w := hO.to rfl
        obtain ⟨qr92, hqr93⟩ := p_recv hO (by rw [hp1]; decide) (rep_7 hp1)
        refine pc_V0 (G := G) (As := [.int (nI t9), .int (nI u9)]) (rest := []) hx hb hml hown hq hE hX pX0_al hP hD hS hA hl.1 (Y_fits l G h0 a F R Z B J K w pq dr ml nd t9 u9 g hpb hdc (by omega) hO) (gV pw_136 pw_112 pw_113 pw_106 pw_103) hV_X9_fits qr92 6 hqr93 rfl rfl rfl (Nat.le_of_ble_eq_true rfl) dX9_common_22 ⟨Nat.le_of_ble_eq_true rfl, Nat.le_of_ble_eq_true rfl⟩ ⟨Nat.le_of_ble_eq_true rfl, Nat.le_of_ble_eq_true rfl⟩ (fun v91 u89 H locs hw90 hP hD hS => ?_)
        obtain ⟨w, r94⟩ := u89
        obtain ⟨hw90, h95, h96, hO⟩ := hw90
        have h95 : r94 ≤ 1 := h95
        have h96 : r94 = 1 ↔ fitK (btK K dr) nd t9 u9 := h96
        obtain rfl : v91 = some (.int (nI r94)) := hw90
        have hO : OKP G h0 a F R Z B J K w := hO.to rfl
        refine W.widen (k := 0) (n := 0) (Nat.le_of_ble_eq_true rfl) (Nat.le_of_ble_eq_true rfl) ?_
        refine W.eq (g2 := F0 m 25 ls [.int (nI r94)]) rfl ?_
        refine lv_if_eq (tgt := 30) hx hb dX9_common_25 (by decide) (fun c97 => ?_) (fun c97 => ?_)
        · have n98 : r94 = 0 := (nI_eq (a := r94) (b := 0) (by omega) (by omega)).mp c97
          refine lv_iload_n hx hb dX9_common_30 rfl (lv_at hl 1 rfl) ?_
          have hO : OKW G h0 a F R Z B J K.1 (fun q99 x99 => x99 = rep G a K q99) w := hO.to rfl
          refine pc_S0 (G := G) (As := [.int (nI t9)]) (rest := []) hx hb hml hown hq hE hX pX0_al hP hD hS hA hl.1 (Y_isRefT l G h0 a F R Z B J K.1 (fun q99 x99 => x99 = rep G a K q99) w t9 (by omega) hO) (gS pw_104 pw_105 pw_106 pw_100) hS_X9_isReference rfl (Nat.le_of_ble_eq_true rfl) dX9_common_31 ⟨Nat.le_of_ble_eq_true rfl, Nat.le_of_ble_eq_true rfl⟩ ⟨Nat.le_of_ble_eq_true rfl, Nat.le_of_ble_eq_true rfl⟩ (fun v101 u99 H locs hw100 hP hD hS => ?_)
          obtain ⟨w, r102⟩ := u99
          obtain ⟨hw100, h103, h104, hO⟩ := hw100
          have h103 : r102 ≤ 1 := h103
          have h104 : r102 = 1 ↔ ¬ (t9 = 60 ∨ t9 = 61 ∨ t9 = 63) := h104
          obtain rfl : v101 = some (.int (nI r102)) := hw100
          have hO : OKP G h0 a F R Z B J K w := hO.to rfl
          refine W.widen (k := 0) (n := 0) (Nat.le_of_ble_eq_true rfl) (Nat.le_of_ble_eq_true rfl) ?_
          refine W.eq (g2 := F0 m 34 ls [.int (nI r102)]) rfl ?_
          refine lv_if_eq (tgt := 57) hx hb dX9_common_34 (by decide) (fun c105 => ?_) (fun c105 => ?_)
          · have n106 : r102 = 0 := (nI_eq (a := r102) (b := 0) (by omega) (by omega)).mp c105
            refine lv_bipush (v := 63) hx hb dX9_common_57 (by decide) ?_
            have hz107 : CoQ (btK K dr) nd t9 u9 63 := (Or.inl rfl)
            have hO : OKP G h0 a F R Z B J K w := hO.to rfl
            exact W.iret (v := 63) hx hb hr (fun t99 ht99 hW99 => ⟨⟨_, (w, 63), rfl, ⟨rfl, hz107, hO⟩, by rw [ht99]; exact hP, hD⟩, hS.F ht99⟩) hS.2.2 dX9_common_59
          · have n108 : ¬ (r102 = 0) := fun h9 => c105 ((nI_eq (a := r102) (b := 0) (by omega) (by omega)).mpr h9)
            refine lv_iload_n hx hb dX9_common_37 rfl (lv_at hl 2 rfl) ?_
            have hO : OKW G h0 a F R Z B J K.1 (fun q99 x99 => x99 = rep G a K q99) w := hO.to rfl
            refine pc_S0 (G := G) (As := [.int (nI u9)]) (rest := []) hx hb hml hown hq hE hX pX0_al hP hD hS hA hl.1 (Y_isRefT l G h0 a F R Z B J K.1 (fun q99 x99 => x99 = rep G a K q99) w u9 (by omega) hO) (gS pw_104 pw_105 pw_106 pw_100) hS_X9_isReference rfl (Nat.le_of_ble_eq_true rfl) dX9_common_38 ⟨Nat.le_of_ble_eq_true rfl, Nat.le_of_ble_eq_true rfl⟩ ⟨Nat.le_of_ble_eq_true rfl, Nat.le_of_ble_eq_true rfl⟩ (fun v111 u109 H locs hw110 hP hD hS => ?_)
            obtain ⟨w, r112⟩ := u109
            obtain ⟨hw110, h113, h114, hO⟩ := hw110
            have h113 : r112 ≤ 1 := h113
            have h114 : r112 = 1 ↔ ¬ (u9 = 60 ∨ u9 = 61 ∨ u9 = 63) := h114
            obtain rfl : v111 = some (.int (nI r112)) := hw110
            have hO : OKP G h0 a F R Z B J K w := hO.to rfl
            refine W.widen (k := 0) (n := 0) (Nat.le_of_ble_eq_true rfl) (Nat.le_of_ble_eq_true rfl) ?_
            refine W.eq (g2 := F0 m 41 ls [.int (nI r112)]) rfl ?_
            refine lv_if_eq (tgt := 57) hx hb dX9_common_41 (by decide) (fun c115 => ?_) (fun c115 => ?_)
            · have n116 : r112 = 0 := (nI_eq (a := r112) (b := 0) (by omega) (by omega)).mp c115
              refine lv_bipush (v := 63) hx hb dX9_common_57 (by decide) ?_
              have hz117 : CoQ (btK K dr) nd t9 u9 63 := (Or.inl rfl)
              have hO : OKP G h0 a F R Z B J K w := hO.to rfl
              exact W.iret (v := 63) hx hb hr (fun t99 ht99 hW99 => ⟨⟨_, (w, 63), rfl, ⟨rfl, hz117, hO⟩, by rw [ht99]; exact hP, hD⟩, hS.F ht99⟩) hS.2.2 dX9_common_59
            · have n118 : ¬ (r112 = 0) := fun h9 => c115 ((nI_eq (a := r112) (b := 0) (by omega) (by omega)).mpr h9)
              refine lv_aload_n hx hb dX9_common_44 rfl (lv_at hl 0 rfl) ?_
              refine lv_iload_n hx hb dX9_common_45 rfl (lv_at hl 2 rfl) ?_
              refine lv_iload_n hx hb dX9_common_46 rfl (lv_at hl 1 rfl) ?_
              have hO : OKP G h0 a F R Z B J K w := hO.to rfl
              obtain ⟨qr122, hqr123⟩ := p_recv hO (by rw [hp1]; decide) (rep_7 hp1)
              refine pc_V0 (G := G) (As := [.int (nI u9), .int (nI t9)]) (rest := []) hx hb hml hown hq hE hX pX0_al hP hD hS hA hl.1 (Y_fits l G h0 a F R Z B J K w pq dr ml nd u9 t9 g hpb hdc (by omega) hO) (gV pw_136 pw_112 pw_113 pw_106 pw_103) hV_X9_fits qr122 6 hqr123 rfl rfl rfl (Nat.le_of_ble_eq_true rfl) dX9_common_47 ⟨Nat.le_of_ble_eq_true rfl, Nat.le_of_ble_eq_true rfl⟩ ⟨Nat.le_of_ble_eq_true rfl, Nat.le_of_ble_eq_true rfl⟩ (fun v121 u119 H locs hw120 hP hD hS => ?_)
              obtain ⟨w, r124⟩ := u119
              obtain ⟨hw120, h125, h126, hO⟩ := hw120
              have h125 : r124 ≤ 1 := h125
              have h126 : r124 = 1 ↔ fitK (btK K dr) nd u9 t9 := h126
              obtain rfl : v121 = some (.int (nI r124)) := hw120
              have hO : OKP G h0 a F R Z B J K w := hO.to rfl
              refine W.widen (k := 0) (n := 0) (Nat.le_of_ble_eq_true rfl) (Nat.le_of_ble_eq_true rfl) ?_
              refine W.eq (g2 := F0 m 50 ls [.int (nI r124)]) rfl ?_
              refine lv_if_eq (tgt := 57) hx hb dX9_common_50 (by decide) (fun c127 => ?_) (fun c127 => ?_)
              · have n128 : r124 = 0 := (nI_eq (a := r124) (b := 0) (by omega) (by omega)).mp c127
                refine lv_bipush (v := 63) hx hb dX9_common_57 (by decide) ?_
                have hz129 : CoQ (btK K dr) nd t9 u9 63 := (Or.inl rfl)
                have hO : OKP G h0 a F R Z B J K w := hO.to rfl
                exact W.iret (v := 63) hx hb hr (fun t99 ht99 hW99 => ⟨⟨_, (w, 63), rfl, ⟨rfl, hz129, hO⟩, by rw [ht99]; exact hP, hD⟩, hS.F ht99⟩) hS.2.2 dX9_common_59
              · have n130 : ¬ (r124 = 0) := fun h9 => c127 ((nI_eq (a := r124) (b := 0) (by omega) (by omega)).mpr h9)
                refine lv_iload_n hx hb dX9_common_53 rfl (lv_at hl 1 rfl) ?_
                refine lv_goto (tgt := 59) hx hb dX9_common_54 (by decide) ?_
                have hz131 : CoQ (btK K dr) nd t9 u9 t9 := (Or.inr (Or.inr ⟨rfl, h126.mp (by omega)⟩))
                have hO : OKP G h0 a F R Z B J K w := hO.to rfl
                exact W.iret (v := (nI t9)) hx hb hr (fun t99 ht99 hW99 => ⟨⟨_, (w, t9), rfl, ⟨rfl, hz131, hO⟩, by rw [ht99]; exact hP, hD⟩, hS.F ht99⟩) hS.2.2 dX9_common_59
        · have n132 : ¬ (r94 = 0) := fun h9 => c97 ((nI_eq (a := r94) (b := 0) (by omega) (by omega)).mpr h9)
          refine lv_iload_n hx hb dX9_common_28 rfl (lv_at hl 2 rfl) ?_
          have hz133 : CoQ (btK K dr) nd t9 u9 u9 := (Or.inr (Or.inl ⟨rfl, Or.inr (h96.mp (by omega))⟩))
          have hO : OKP G h0 a F R Z B J K w := hO.to rfl
          exact W.iret (v := (nI u9)) hx hb hr (fun t99 ht99 hW99 => ⟨⟨_, (w, u9), rfl, ⟨rfl, hz133, hO⟩, by rw [ht99]; exact hP, hD⟩, hS.F ht99⟩) hS.2.2 dX9_common_29
set_option maxHeartbeats 6000000 in
set_option maxRecDepth 100000 in
theorem Y_fit (l : Launch) (G : pT) (h0 : Nat) (a : Nat → Nat) (F : Nat → Int32) (R : Nat → Value) (Z : Int64) (B : Nat → Nat → Int32) (J : Nat → Nat → Int64) (K : PK) (w : va_W) (pq : Nat) (dr : Nat) (ml : Nat) (nd : Nat) (q : Nat) (sz : Nat) (t9 : Nat) (u9 : Nat) (g : Nat → Nat → Nat) (pb : PNb) (hsz : sz ≤ 5000) (hpb : PgB K g (a 1) pq dr ml nd) (hdc : DcR K g dr nd) (hqT : K.1 q = 1) (ht9 : t9 < 128 ∧ u9 < 128) (hn37 : nd ≤ 37) (hfo : FiO pb K dr nd) (hO : OKP G h0 a (upd F 2 (nI sz)) (updR R 2 (.ref pq)) Z B J K w) (hl0 : l.stackTraces = false) : PBn l G pX0 yX0_fit cX0_fit 4 none ({ frames := 7, cells := 1, slots := 6, locals := 122 }) [.ref (a 4), .ref q, .int (nI t9), .int (nI u9)] w (fun (v : Option Value) (u : va_W × (Unit)) => v = none ∧ (FtQ pb t9 u9) ∧ (OKP G h0 a (upd F 2 (nI sz)) (updR R 2 (.ref pq)) Z B J K u.1)) (fun u => u.1) (fun (u : va_W × (Unit)) => 0) (fun (u : va_W × (Unit)) => 0) (fun (u : va_W × (Nat → Int32) × (Nat → Value) × (Nat → Nat → Int32)) => ThQ G h0 a (upd F 2 (nI sz)) (updR R 2 (.ref pq)) Z B J u) (fun u => u.1) := by
  intro sz
  refine vx_ofW (cc := cX0_fit) (maxL := 4) (ret := none) (by decide) rfl ?_
  intro p e s m args below meth c s₁ B9 hml hnt hv
  obtain ⟨rfl, hsz, hP, hD0, hE, hX⟩ := hv
  have hx := B9.exec
  have hb := B9.bytes
  have hr := B9.returns
  have hts := atoms_spec (ws := Cond.code yX0_fit cX0_fit 4 none :: pw) B9.pre
  have hq : ∀ w ∈ pw, w.before _ s = true := fun w h => hts w (List.mem_cons_of_mem _ h)
  have hown : s.vm.findClass RX0 = some m.cls := findClass_of_methodNamed B9.named
  have hlocks := B9.notSynchronized
  subst hsz
  have hD := hD0.self (sz := s.heap.size)
  have hA : ∀ q : Nat, s.heap.size ≤ q → va_A w s.heap.size q := fun q h => Or.inr h
  generalize va_A w s.heap.size = A at hD hE hA ⊢
  have hS : va_S A s.heap s.heap [] := va_S.rf
  have hl := lv_entry ([.ref (a 4), .ref q, .int (nI t9), .int (nI u9)]) (n := 4) (Nat.le_of_ble_eq_true rfl)
  rw [lg_entry_eq]
  generalize (lg_sl ([.ref (a 4), .ref q, .int (nI t9), .int (nI u9)]) ++ List.replicate (4 - (lg_sl ([.ref (a 4), .ref q, .int (nI t9), .int (nI u9)])).length) Slot.unset).toArray = ls at hl ⊢
  have hl : lv_has ls 4 [(0, .ref (a 4)), (1, .ref q), (2, .int (nI t9)), (3, .int (nI u9))] := hl
  have hp1 := hpb.1
  have hp2 := hpb.2.1
  have hp3 := hpb.2.2.1
  have hp4 := hpb.2.2.2.1
  have hp5 := hpb.2.2.2.2.1
  have hp6 := hpb.2.2.2.2.2.1
  have hp8 := hpb.2.2.2.2.2.2.2.1
  have hp9 := hpb.2.2.2.2.2.2.2.2
  refine lv_aload_n hx hb dX0_fit_0 rfl (lv_at hl 0 rfl) ?_
  refine c_get (v := .ref pq) (C := RX0) (Tc := TX0) (N := 13) (ci := 0) hx hb hq pin_wsX00 hown hE hP hO 24 (sg_24 G h0 a _ _ _ _ _) rfl 6 (by decide) (hq _ pw_110) (fun _ h9 => h9) rfl dX0_fit_1 ?_
  refine lv_iload_n hx hb dX0_fit_4 rfl (lv_at hl 2 rfl) ?_
  refine lv_iload_n hx hb dX0_fit_5 rfl (lv_at hl 3 rfl) ?_
  have hO : OKP G h0 a (upd F 2 (nI sz)) (updR R 2 (.ref pq)) Z B J K w := hO.to rfl
  obtain ⟨qr4, hqr5⟩ := p_recv hO (by rw [hp1]; decide) (rep_7 hp1)
  refine pc_V0 (G := G) (As := [.int (nI t9), .int (nI u9)]) (rest := []) hx hb hml hown hq hE hX pX0_al hP hD hS hA hl.1 (Y_fits l G h0 a (upd F 2 (nI sz)) (updR R 2 (.ref pq)) Z B J K w pq dr ml nd t9 u9 g hpb hdc (by omega) hO) (gV pw_111 pw_112 pw_113 pw_106 pw_103) hV_X9_fits qr4 6 hqr5 rfl rfl rfl (Nat.le_of_ble_eq_true rfl) dX0_fit_6 ⟨(by show 0 + 0 ≤ 1; omega), (by show 0 + 0 ≤ 6; omega)⟩ ⟨Nat.le_of_ble_eq_true rfl, Nat.le_of_ble_eq_true rfl⟩ (fun v3 u1 H locs hw2 hP hD hS => ?_)
  obtain ⟨w, r6⟩ := u1
  obtain ⟨hw2, h7, h8, hO⟩ := hw2
  have h7 : r6 ≤ 1 := h7
  have h8 : r6 = 1 ↔ fitK (btK K dr) nd t9 u9 := h8
  obtain rfl : v3 = some (.int (nI r6)) := hw2
  have hO : OKP G h0 a (upd F 2 (nI sz)) (updR R 2 (.ref pq)) Z B J K w := hO.to rfl
  refine W.widen (k := 0) (n := 0) (Nat.le_of_ble_eq_true rfl) (Nat.le_of_ble_eq_true rfl) ?_
  refine W.eq (g2 := F0 m 9 ls [.int (nI r6)]) rfl ?_
  refine lv_if_ne (tgt := 25) hx hb dX0_fit_9 (by decide) (fun c9 => ?_) (fun c9 => ?_)
  · have n10 : ¬ (r6 = 0) := fun h9 => c9 ((nI_eq (a := r6) (b := 0) (by omega) (by omega)).mpr h9)
    refine W_size (fun hz1 hz2 => ?_)
    refine vx_ret ?_
    have hz11 : FtQ pb t9 u9 := (FtQ.of hn37 hfo (h8.mp (by omega)) ht9.1 ht9.2)
    have hO : OKP G h0 a (upd F 2 (nI sz)) (updR R 2 (.ref pq)) Z B J K w := hO.to rfl
    refine W.widen (k := 1) (n := 6) (by omega) (by omega) ?_
    have hzz1 : H.size ≤ s.heap.size + (0) := (by have z : 0 ≤ 0 := (by omega); omega)
    have hzz2 : hSl H ≤ hSl s.heap + (0) := (by have z : 0 ≤ 0 := (by omega); omega)
    exact W.vret hx hb hr (fun t99 ht99 hW99 => ⟨⟨_, (w, ()), rfl, ⟨rfl, hz11, hO⟩, by rw [ht99]; exact hP, hD, by rw [ht99]; exact hzz1, by rw [ht99]; exact hzz2⟩, hS.F ht99⟩) hS.2.2 dX0_fit_25
  · have n12 : r6 = 0 := (nI_eq (a := r6) (b := 0) (by omega) (by omega)).mp c9
    refine lv_aload_n hx hb dX0_fit_12 rfl (lv_at hl 0 rfl) ?_
    refine c_get (v := .ref (a 1)) (C := RX0) (Tc := TX0) (N := 13) (ci := 0) hx hb hq pin_wsX00 hown hE hP hO 24 (sg_24 G h0 a _ _ _ _ _) rfl 0 (by decide) (hq _ pw_4) (fun _ h9 => h9) rfl dX0_fit_13 ?_
    refine lv_bipush (v := 11) hx hb dX0_fit_16 (by decide) ?_
    refine lv_aload_n hx hb dX0_fit_18 rfl (lv_at hl 1 rfl) ?_
    refine p_get (v := .int (K.2.1 2 q)) (C := RX7) (Tc := TX7) (N := 11) (ci := 13) hx hb hq pin_wsX70 hown hE hP hO (by rw [hqT]; decide) (rep_1 hqT) rfl 2 (by decide) (hq _ pw_82) (fun _ h9 => h9) rfl dX0_fit_19 ?_
    have hO : OKW G h0 a (upd (upd F 2 (nI sz)) 2 (nI sz)) (updR R 2 (.ref pq)) Z B J K.1 (fun q99 x99 => x99 = rep G a K q99) w := hO.to rfl
    obtain ⟨_, qr16, hqr17⟩ := hO.2.1 2 _ (sg_2 G h0 a _ _ _ _ _)
    refine pn_V0 (G := G) (As := [.int 11, .int (K.2.1 2 q)]) (rest := []) hx hb hml hown hq hE hX pX0_al hP hD hS hA hl.1 (K_fail l G h0 a (upd F 2 (nI sz)) (updR R 2 (.ref pq)) Z B J K.1 (fun q99 x99 => x99 = rep G a K q99) w 11 (K.2.1 2 q) sz (by omega) hO hl0) (gV pw_64 pw_65 pw_66 pw_59 pw_43) hV_X10_fail qr16 7 hqr17 rfl rfl rfl (Nat.le_of_ble_eq_true rfl) dX0_fit_22 ⟨(by show 0 + 1 ≤ 1; omega), (by show 0 + 6 ≤ 6; omega)⟩ ⟨Nat.le_of_ble_eq_true rfl, Nat.le_of_ble_eq_true rfl⟩ (fun v15 u13 H locs hw14 hP hD hS => hw14.elim) (fun ux ce9 q9 H9 locs9 hux hP9 hD9 hS9 hce hcv hcl => pb_out ux (ThQ.up (Thx.same Thx.rfl rfl) RhX.rfl hux) hnt hlocks hce hcv hcl hP9 hD9 hS9 (by show 0 + 1 ≤ 1; omega) (by show 0 + 6 ≤ 6; omega))
set_option maxHeartbeats 6000000 in
set_option maxRecDepth 100000 in
theorem Y_elementType (l : Launch) (G : pT) (h0 : Nat) (a : Nat → Nat) (F : Nat → Int32) (R : Nat → Value) (Z : Int64) (B : Nat → Nat → Int32) (J : Nat → Nat → Int64) (K : PK) (w : va_W) (q : Nat) (sz : Nat) (t9 : Nat) (hsz : sz ≤ 5000) (hqT : K.1 q = 1) (ht9 : t9 < 128) (hO : OKP G h0 a (upd F 2 (nI sz)) R Z B J K w) (hl0 : l.stackTraces = false) : PBn l G pX0 yX0_elementType cX0_elementType 3 (some .int) ({ frames := 7, cells := 1, slots := 6, locals := 122 }) [.ref (a 4), .ref q, .int (nI t9)] w (fun (v : Option Value) (u : va_W × (Unit)) => v = some (.int (nI (t9 - 64))) ∧ (64 ≤ t9) ∧ (OKP G h0 a (upd F 2 (nI sz)) R Z B J K u.1)) (fun u => u.1) (fun (u : va_W × (Unit)) => 0) (fun (u : va_W × (Unit)) => 0) (fun (u : va_W × (Nat → Int32) × (Nat → Value) × (Nat → Nat → Int32)) => ThQ G h0 a (upd F 2 (nI sz)) R Z B J u) (fun u => u.1) := by
  intro sz
  refine vx_ofW (cc := cX0_elementType) (maxL := 3) (ret := (some .int)) (by decide) rfl ?_
  intro p e s m args below meth c s₁ B9 hml hnt hv
  obtain ⟨rfl, hsz, hP, hD0, hE, hX⟩ := hv
  have hx := B9.exec
  have hb := B9.bytes
  have hr := B9.returns
  have hts := atoms_spec (ws := Cond.code yX0_elementType cX0_elementType 3 (some .int) :: pw) B9.pre
  have hq : ∀ w ∈ pw, w.before _ s = true := fun w h => hts w (List.mem_cons_of_mem _ h)
  have hown : s.vm.findClass RX0 = some m.cls := findClass_of_methodNamed B9.named
  have hlocks := B9.notSynchronized
  subst hsz
  have hD := hD0.self (sz := s.heap.size)
  have hA : ∀ q : Nat, s.heap.size ≤ q → va_A w s.heap.size q := fun q h => Or.inr h
  generalize va_A w s.heap.size = A at hD hE hA ⊢
  have hS : va_S A s.heap s.heap [] := va_S.rf
  have hl := lv_entry ([.ref (a 4), .ref q, .int (nI t9)]) (n := 3) (Nat.le_of_ble_eq_true rfl)
  rw [lg_entry_eq]
  generalize (lg_sl ([.ref (a 4), .ref q, .int (nI t9)]) ++ List.replicate (3 - (lg_sl ([.ref (a 4), .ref q, .int (nI t9)])).length) Slot.unset).toArray = ls at hl ⊢
  have hl : lv_has ls 3 [(0, .ref (a 4)), (1, .ref q), (2, .int (nI t9))] := hl
  refine lv_iload_n hx hb dX0_elementType_0 rfl (lv_at hl 2 rfl) ?_
  refine lv_bipush (v := 64) hx hb dX0_elementType_1 (by decide) ?_
  refine lv_icmp_ge (tgt := 19) hx hb dX0_elementType_3 (by decide) (fun c1 => ?_) (fun c1 => ?_)
  · have n2 : 64 ≤ t9 := (nI_leI (a := 64) (b := t9) (by omega) (by omega)).mp c1
    refine lv_iload_n hx hb dX0_elementType_19 rfl (lv_at hl 2 rfl) ?_
    refine lv_bipush (v := 64) hx hb dX0_elementType_20 (by decide) ?_
    refine lv_isub hx hb dX0_elementType_22 ?_
    refine lv_topi (fun x3 e4 => ?_)
    refine W_size (fun hz1 hz2 => ?_)
    refine vx_ret ?_
    have hz5 : 64 ≤ t9 := (by omega)
    have hO : OKP G h0 a (upd F 2 (nI sz)) R Z B J K w := hO.to rfl
    refine W.widen (k := 1) (n := 6) (by omega) (by omega) ?_
    have hzz1 : s.heap.size ≤ s.heap.size + (0) := (by have z : 0 ≤ 0 := (by omega); omega)
    have hzz2 : hSl s.heap ≤ hSl s.heap + (0) := (by have z : 0 ≤ 0 := (by omega); omega)
    exact W.iret (v := x3) hx hb hr (fun t99 ht99 hW99 => ⟨⟨_, (w, ()), rfl, ⟨(congrArg (fun z => some (Value.int z)) (e4.trans (nI_subN (a := 64) (b := t9) (by omega)))), hz5, hO⟩, by rw [ht99]; exact hP, hD, by rw [ht99]; exact hzz1, by rw [ht99]; exact hzz2⟩, hS.F ht99⟩) hS.2.2 dX0_elementType_23
  · have n6 : ¬ (64 ≤ t9) := fun h9 => c1 ((nI_leI (a := 64) (b := t9) (by omega) (by omega)).mpr h9)
    refine lv_aload_n hx hb dX0_elementType_6 rfl (lv_at hl 0 rfl) ?_
    refine c_get (v := .ref (a 1)) (C := RX0) (Tc := TX0) (N := 13) (ci := 0) hx hb hq pin_wsX00 hown hE hP hO 24 (sg_24 G h0 a _ _ _ _ _) rfl 0 (by decide) (hq _ pw_4) (fun _ h9 => h9) rfl dX0_elementType_7 ?_
    refine lv_bipush (v := 11) hx hb dX0_elementType_10 (by decide) ?_
    refine lv_aload_n hx hb dX0_elementType_12 rfl (lv_at hl 1 rfl) ?_
    refine p_get (v := .int (K.2.1 2 q)) (C := RX7) (Tc := TX7) (N := 11) (ci := 13) hx hb hq pin_wsX70 hown hE hP hO (by rw [hqT]; decide) (rep_1 hqT) rfl 2 (by decide) (hq _ pw_82) (fun _ h9 => h9) rfl dX0_elementType_13 ?_
    have hO : OKW G h0 a (upd (upd F 2 (nI sz)) 2 (nI sz)) R Z B J K.1 (fun q99 x99 => x99 = rep G a K q99) w := hO.to rfl
    obtain ⟨_, qr10, hqr11⟩ := hO.2.1 2 _ (sg_2 G h0 a _ _ _ _ _)
    refine pn_V0 (G := G) (As := [.int 11, .int (K.2.1 2 q)]) (rest := []) hx hb hml hown hq hE hX pX0_al hP hD hS hA hl.1 (K_fail l G h0 a (upd F 2 (nI sz)) R Z B J K.1 (fun q99 x99 => x99 = rep G a K q99) w 11 (K.2.1 2 q) sz (by omega) hO hl0) (gV pw_64 pw_65 pw_66 pw_59 pw_43) hV_X10_fail qr10 7 hqr11 rfl rfl rfl (Nat.le_of_ble_eq_true rfl) dX0_elementType_16 ⟨(by show 0 + 1 ≤ 1; omega), (by show 0 + 6 ≤ 6; omega)⟩ ⟨Nat.le_of_ble_eq_true rfl, Nat.le_of_ble_eq_true rfl⟩ (fun v9 u7 H locs hw8 hP hD hS => hw8.elim) (fun ux ce9 q9 H9 locs9 hux hP9 hD9 hS9 hce hcv hcl => pb_out ux (ThQ.up (Thx.same Thx.rfl rfl) RhX.rfl hux) hnt hlocks hce hcv hcl hP9 hD9 hS9 (by show 0 + 1 ≤ 1; omega) (by show 0 + 6 ≤ 6; omega))
set_option maxHeartbeats 2000000 in
set_option maxRecDepth 100000 in
theorem Y_give (l : Launch) (G : pT) (h0 : Nat) (a : Nat → Nat) (F : Nat → Int32) (R : Nat → Value) (Z : Int64) (B : Nat → Nat → Int32) (J : Nat → Nat → Int64) (T : Nat → Nat) (Pi : Nat → va_E → Prop) (w : va_W) (x1 : Int32) (x2 : Int32) (x3 : Int32) (cs : Nat) (hd : Nat) (hc9 : cs < 10000) (hO : OKW G h0 a (upd (upd F 5 (nI cs)) 7 (nI hd)) R Z B J T Pi w) : PM l G pX0 yX0_give cX0_give 4 (some .int) ({ frames := 3, cells := 0, slots := 0, locals := 83 }) [.ref (a 4), .int x1, .int x2, .int x3] w (fun (v : Option Value) (u : va_W × (Unit)) => v = some (.int x3) ∧ (OKW G h0 a (upd (upd F 5 (nI (cs + 1))) 7 (nI hd)) R Z (updA (updA (updA (updA B 16 (upd (B 16) cs x1)) 17 (upd (B 17) cs x2)) 18 (upd (B 18) cs 0)) 19 (upd (B 19) cs (nI hd))) J T Pi u.1)) (fun u => u.1) := by
  intro sz
  refine Met.ofW (cc := cX0_give) (maxL := 4) (ret := (some .int)) (by decide) rfl ?_
  intro p e s m args below meth c s₁ B9 hml hv
  obtain ⟨rfl, hsz, hP, hD0, hE, hX⟩ := hv
  have hx := B9.exec
  have hb := B9.bytes
  have hr := B9.returns
  have hts := atoms_spec (ws := Cond.code yX0_give cX0_give 4 (some .int) :: pw) B9.pre
  have hq : ∀ w ∈ pw, w.before _ s = true := fun w h => hts w (List.mem_cons_of_mem _ h)
  have hown : s.vm.findClass RX0 = some m.cls := findClass_of_methodNamed B9.named
  have hlocks := B9.notSynchronized
  subst hsz
  have hD := hD0.self (sz := s.heap.size)
  have hA : ∀ q : Nat, s.heap.size ≤ q → va_A w s.heap.size q := fun q h => Or.inr h
  generalize va_A w s.heap.size = A at hD hE hA ⊢
  have hS : va_S A s.heap s.heap [] := va_S.rf
  have hl := lv_entry ([.ref (a 4), .int x1, .int x2, .int x3]) (n := 4) (Nat.le_of_ble_eq_true rfl)
  rw [lg_entry_eq]
  generalize (lg_sl ([.ref (a 4), .int x1, .int x2, .int x3]) ++ List.replicate (4 - (lg_sl ([.ref (a 4), .int x1, .int x2, .int x3])).length) Slot.unset).toArray = ls at hl ⊢
  have hl : lv_has ls 4 [(0, .ref (a 4)), (1, .int x1), (2, .int x2), (3, .int x3)] := hl
  refine lv_aload_n hx hb dX0_give_0 rfl (lv_at hl 0 rfl) ?_
  refine c_get (v := .ref (a 2)) (C := RX0) (Tc := TX0) (N := 13) (ci := 0) hx hb hq pin_wsX00 hown hE hP hO 24 (sg_24 G h0 a _ _ _ _ _) rfl 1 (by decide) (hq _ pw_5) (fun _ h9 => h9) rfl dX0_give_1 ?_
  refine lv_iload_n hx hb dX0_give_4 rfl (lv_at hl 1 rfl) ?_
  refine lv_iload_n hx hb dX0_give_5 rfl (lv_at hl 2 rfl) ?_
  refine lv_iconst (v := 0) hx hb dX0_give_6 (by decide) ?_
  have hO : OKW G h0 a (upd (upd (upd (upd F 5 (nI cs)) 7 (nI hd)) 5 (nI cs)) 7 (nI hd)) R Z B J T Pi w := hO.to rfl
  obtain ⟨_, qr4, hqr5⟩ := hO.2.1 13 _ (sg_13 G h0 a _ _ _ _ _)
  refine pc_V0 (G := G) (As := [.int x1, .int x2, .int 0]) (rest := []) hx hb hml hown hq hE hX pX0_al hP hD hS hA hl.1 (Y_emit l G h0 a (upd (upd F 5 (nI cs)) 7 (nI hd)) R Z B J T Pi w x1 x2 0 cs hd (by omega) hO) (gV pw_129 pw_130 pw_131 pw_70 pw_115) hV_X1_emit qr4 1 hqr5 rfl rfl rfl (Nat.le_of_ble_eq_true rfl) dX0_give_7 ⟨Nat.le_of_ble_eq_true rfl, Nat.le_of_ble_eq_true rfl⟩ ⟨Nat.le_of_ble_eq_true rfl, Nat.le_of_ble_eq_true rfl⟩ (fun v3 u1 H locs hw2 hP hD hS => ?_)
  obtain ⟨w, _⟩ := u1
  obtain ⟨hw2, hO⟩ := hw2
  obtain rfl : v3 = none := hw2
  have hO : OKW G h0 a (upd (upd F 5 (nI (cs + 1))) 7 (nI hd)) R Z (updA (updA (updA (updA B 16 (upd ((B 16)) cs x1)) 17 (upd ((B 17)) cs x2)) 18 (upd ((B 18)) cs 0)) 19 (upd ((B 19)) cs (nI hd))) J T Pi w := hO.to rfl
  refine W.widen (k := 0) (n := 0) (Nat.le_of_ble_eq_true rfl) (Nat.le_of_ble_eq_true rfl) ?_
  refine W.eq (g2 := F0 m 10 ls []) rfl ?_
  refine lv_iload_n hx hb dX0_give_10 rfl (lv_at hl 3 rfl) ?_
  have hO : OKW G h0 a (upd (upd F 5 (nI (cs + 1))) 7 (nI hd)) R Z (updA (updA (updA (updA B 16 (upd (B 16) cs x1)) 17 (upd (B 17) cs x2)) 18 (upd (B 18) cs 0)) 19 (upd (B 19) cs (nI hd))) J T Pi w := hO.to rfl
  exact W.iret (v := x3) hx hb hr (fun t99 ht99 hW99 => ⟨⟨_, (w, ()), rfl, ⟨rfl, hO⟩, by rw [ht99]; exact hP, hD⟩, hS.F ht99⟩) hS.2.2 dX0_give_11
set_option maxHeartbeats 6000000 in
set_option maxRecDepth 100000 in
theorem Y_fieldOf (l : Launch) (G : pT) (h0 : Nat) (a : Nat → Nat) (F : Nat → Int32) (R : Nat → Value) (Z : Int64) (B : Nat → Nat → Int32) (J : Nat → Nat → Int64) (K : PK) (w : va_W) (d0 : Nat) (lq : Nat) (nl : Nat) (cp9 : Nat) (itl : Nat → Nat) (x : Int32) (hd0 : K.1 d0 = 4) (hlq : K.2.2.1 11 d0 = some lq) (hlc : LsC G K lq 1 nl itl cp9) (hnl : nl ≤ 5000) (hO : OKP G h0 a F R Z B J K w) : PM l G pX0 yX2_fieldOf cX2_fieldOf 3 (some (.object "JinjaTongue$Node")) ({ frames := 5, cells := 0, slots := 0, locals := 124 }) [.ref d0, .int x] w (fun (v : Option Value) (u : va_W × (Option Nat)) => v = some ((va_rf u.2)) ∧ (∀ d : Nat, u.2 = some d → ∃ i9 : Nat, i9 < nl ∧ itl i9 = d ∧ K.2.1 3 d = x) ∧ (OKP G h0 a F R Z B J K u.1)) (fun u => u.1) := by
  intro sz
  refine Met.ofW (cc := cX2_fieldOf) (maxL := 3) (ret := (some (.object "JinjaTongue$Node"))) (by decide) rfl ?_
  intro p e s m args below meth c s₁ B9 hml hv
  obtain ⟨rfl, hsz, hP, hD0, hE, hX⟩ := hv
  have hx := B9.exec
  have hb := B9.bytes
  have hr := B9.returns
  have hts := atoms_spec (ws := Cond.code yX2_fieldOf cX2_fieldOf 3 (some (.object "JinjaTongue$Node")) :: pw) B9.pre
  have hq : ∀ w ∈ pw, w.before _ s = true := fun w h => hts w (List.mem_cons_of_mem _ h)
  have hown : s.vm.findClass RX2 = some m.cls := findClass_of_methodNamed B9.named
  have hlocks := B9.notSynchronized
  subst hsz
  have hD := hD0.self (sz := s.heap.size)
  have hA : ∀ q : Nat, s.heap.size ≤ q → va_A w s.heap.size q := fun q h => Or.inr h
  generalize va_A w s.heap.size = A at hD hE hA ⊢
  have hS : va_S A s.heap s.heap [] := va_S.rf
  have hl := lv_entry ([.ref d0, .int x]) (n := 3) (Nat.le_of_ble_eq_true rfl)
  rw [lg_entry_eq]
  generalize (lg_sl ([.ref d0, .int x]) ++ List.replicate (3 - (lg_sl ([.ref d0, .int x])).length) Slot.unset).toArray = ls at hl ⊢
  have hl : lv_has ls 3 [(0, .ref d0), (1, .int x)] := hl
  refine lv_iconst (v := 0) hx hb dX2_fieldOf_0 (by decide) ?_
  refine lv_istore_n (lv' := [(2, .int 0), (0, .ref d0), (1, .int x)]) hx hb dX2_fieldOf_1 rfl hl (by decide) rfl (fun ls hl => ?_)
  have loop_i : ∀ (n_i : Nat) (i2 : Nat) (H : Heap) (locs : List Loc) (ls : Array Slot) (w : va_W), i2 ≤ nl → nl + 1 ≤ i2 + n_i → va_P G.1 pCl w H → va_D A w → va_S A s.heap H locs → OKP G h0 a F R Z B J K w → lv_has ls 3 [(2, .int (nI i2)), (1, .int x), (0, .ref d0)] → W p l e (headSpec (Cond.code yX2_fieldOf cX2_fieldOf 3 (some (.object "JinjaTongue$Node")) :: pw) ({ frames := 5, cells := 0, slots := 0, locals := 124 } : Room)).room s m ([.ref d0, .int x] : List Value).toArray below meth c H locs 0 0 (MQ below (pQ G A (fun (v : Option Value) (u : va_W × (Option Nat)) => v = some ((va_rf u.2)) ∧ (∀ d : Nat, u.2 = some d → ∃ i9 : Nat, i9 < nl ∧ itl i9 = d ∧ K.2.1 3 d = x) ∧ (OKP G h0 a F R Z B J K u.1)) (fun u => u.1)) ([.ref d0, .int x] : List Value).toArray s ({ frames := 5, cells := 0, slots := 0, locals := 124 } : Room).cells ({ frames := 5, cells := 0, slots := 0, locals := 124 } : Room).slots A) (F0 m 2 ls []) := by
    intro n_i
    induction n_i with
    | zero => intro i2 H locs ls w hk_i hn_i; omega
    | succ n_i ih_i =>
      intro i2 H locs ls w hk_i hn_i hP hD hS hO hl
      refine lv_iload_n hx hb dX2_fieldOf_2 rfl (lv_at hl 0 rfl) ?_
      refine lv_aload_n hx hb dX2_fieldOf_3 rfl (lv_at hl 2 rfl) ?_
      refine p_get (v := .ref lq) (C := RX2) (Tc := TX2) (N := 13) (ci := 2) hx hb hq pin_wsX20 hown hE hP hO (by rw [hd0]; decide) (rep_4 hd0) rfl 11 (by decide) (hq _ pw_138) (fun _ h9 => h9) (congrArg (fun z => some (va_rf z)) hlq) dX2_fieldOf_4 ?_
      have hO : OKP G h0 a F R Z B J K w := hO.to rfl
      obtain ⟨qr4, hqr5⟩ := p_recv hO (by rw [hlc.1]; decide) (rep_5 hlc.1)
      refine pc_V0 (G := G) (As := []) (rest := [.int (nI i2)]) hx hb hml hown hq hE hX pX0_al hP hD hS hA hl.1 (L_size l G h0 a F R Z B J K w lq 1 nl itl hlc.ls hO) (gV pw_123 pw_87 pw_88 pw_32 pw_16) hV_Jx4a65c_size_8abf5 qr4 10 hqr5 rfl rfl rfl (Nat.le_of_ble_eq_true rfl) dX2_fieldOf_7 ⟨Nat.le_of_ble_eq_true rfl, Nat.le_of_ble_eq_true rfl⟩ ⟨Nat.le_of_ble_eq_true rfl, Nat.le_of_ble_eq_true rfl⟩ (fun v3 u1 H locs hw2 hP hD hS => ?_)
      obtain ⟨w, _⟩ := u1
      obtain ⟨hw2, hO⟩ := hw2
      obtain rfl : v3 = some (.int (nI nl)) := hw2
      have hO : OKP G h0 a F R Z B J K w := hO.to rfl
      refine W.widen (k := 0) (n := 0) (Nat.le_of_ble_eq_true rfl) (Nat.le_of_ble_eq_true rfl) ?_
      refine W.eq (g2 := F0 m 10 ls [.int (nI nl), .int (nI i2)]) rfl ?_
      refine lv_icmp_ge (tgt := 49) hx hb dX2_fieldOf_10 (by decide) (fun c6 => ?_) (fun c6 => ?_)
      · have n7 : nl ≤ i2 := (nI_leI (a := nl) (b := i2) (by omega) (by omega)).mp c6
        refine lv_null hx hb dX2_fieldOf_49 ?_
        have hz8 : ∀ d : Nat, none = some d → ∃ i9 : Nat, i9 < nl ∧ itl i9 = d ∧ K.2.1 3 d = x := (fun d h => by cases h)
        have hO : OKP G h0 a F R Z B J K w := hO.to rfl
        exact W.aret (v := .null) hx hb hr (Or.inl ⟨_, rfl⟩) (Or.inl rfl) (fun t99 ht99 hW99 => ⟨⟨_, (w, none), rfl, ⟨rfl, hz8, hO⟩, by rw [ht99]; exact hP, hD⟩, hS.F ht99⟩) hS.2.2 dX2_fieldOf_50
      · have n9 : ¬ (nl ≤ i2) := fun h9 => c6 ((nI_leI (a := nl) (b := i2) (by omega) (by omega)).mpr h9)
        refine lv_aload_n hx hb dX2_fieldOf_13 rfl (lv_at hl 2 rfl) ?_
        refine p_get (v := .ref lq) (C := RX2) (Tc := TX2) (N := 13) (ci := 2) hx hb hq pin_wsX20 hown hE hP hO (by rw [hd0]; decide) (rep_4 hd0) rfl 11 (by decide) (hq _ pw_138) (fun _ h9 => h9) (congrArg (fun z => some (va_rf z)) hlq) dX2_fieldOf_14 ?_
        refine lv_iload_n hx hb dX2_fieldOf_17 rfl (lv_at hl 0 rfl) ?_
        have hO : OKP G h0 a F R Z B J K w := hO.to rfl
        obtain ⟨qr13, hqr14⟩ := p_recv hO (by rw [hlc.1]; decide) (rep_5 hlc.1)
        refine pc_V0 (G := G) (As := [.int (nI i2)]) (rest := []) hx hb hml hown hq hE hX pX0_al hP hD hS hA hl.1 (L_get l G h0 a F R Z B J K w lq 1 nl itl i2 hlc.ls (by omega) hO) (gV pw_124 pw_90 pw_91 pw_32 pw_25) hV_Jx4a65c_get_915e3 qr13 10 hqr14 rfl rfl rfl (Nat.le_of_ble_eq_true rfl) dX2_fieldOf_18 ⟨Nat.le_of_ble_eq_true rfl, Nat.le_of_ble_eq_true rfl⟩ ⟨Nat.le_of_ble_eq_true rfl, Nat.le_of_ble_eq_true rfl⟩ (fun v12 u10 H locs hw11 hP hD hS => ?_)
        obtain ⟨w, _⟩ := u10
        obtain ⟨hw11, hO⟩ := hw11
        obtain rfl : v12 = some (.ref (itl i2)) := hw11
        have hO : OKP G h0 a F R Z B J K w := hO.to rfl
        refine W.widen (k := 0) (n := 0) (Nat.le_of_ble_eq_true rfl) (Nat.le_of_ble_eq_true rfl) ?_
        refine W.eq (g2 := F0 m 21 ls [.ref (itl i2)]) rfl ?_
        have hf15 : K.1 (itl i2) = 1 := hlc.T (by omega)
        refine p_cast (C := RX7) (Tc := TX7) (N := 11) (ci := 13) hx hb hown (hq _ pw_139) hE hP hO (by rw [hf15]; decide) (rep_1 hf15) rfl dX2_fieldOf_21 ?_
        refine p_get (v := .int (K.2.1 3 (itl i2))) (C := RX7) (Tc := TX7) (N := 11) (ci := 13) hx hb hq pin_wsX70 hown hE hP hO (by rw [hf15]; decide) (rep_1 hf15) rfl 3 (by decide) (hq _ pw_140) (fun _ h9 => h9) rfl dX2_fieldOf_24 ?_
        refine lv_iload_n hx hb dX2_fieldOf_27 rfl (lv_at hl 1 rfl) ?_
        refine lv_icmp_ne (tgt := 43) hx hb dX2_fieldOf_28 (by decide) (fun c16 => ?_) (fun c16 => ?_)
        · refine lv_iinc (v := (nI (i2 + 1))) (lv' := [(2, .int (nI (i2 + 1))), (1, .int x), (0, .ref d0)]) hx hb dX2_fieldOf_43 hl (k := 0) rfl (nI_1 i2) (by decide) rfl (fun ls hl => ?_)
          refine lv_goto (tgt := 2) hx hb dX2_fieldOf_46 (by decide) ?_
          have hO : OKP G h0 a F R Z B J K w := hO.to rfl
          exact ih_i (i2 + 1) _ _ _ _ (by omega) (by omega) hP hD hS hO (lv_sub hl [0, 1, 2] rfl)
        · refine lv_aload_n hx hb dX2_fieldOf_31 rfl (lv_at hl 2 rfl) ?_
          refine p_get (v := .ref lq) (C := RX2) (Tc := TX2) (N := 13) (ci := 2) hx hb hq pin_wsX20 hown hE hP hO (by rw [hd0]; decide) (rep_4 hd0) rfl 11 (by decide) (hq _ pw_138) (fun _ h9 => h9) (congrArg (fun z => some (va_rf z)) hlq) dX2_fieldOf_32 ?_
          refine lv_iload_n hx hb dX2_fieldOf_35 rfl (lv_at hl 0 rfl) ?_
          have hO : OKP G h0 a F R Z B J K w := hO.to rfl
          obtain ⟨qr20, hqr21⟩ := p_recv hO (by rw [hlc.1]; decide) (rep_5 hlc.1)
          refine pc_V0 (G := G) (As := [.int (nI i2)]) (rest := []) hx hb hml hown hq hE hX pX0_al hP hD hS hA hl.1 (L_get l G h0 a F R Z B J K w lq 1 nl itl i2 hlc.ls (by omega) hO) (gV pw_124 pw_90 pw_91 pw_32 pw_25) hV_Jx4a65c_get_915e3 qr20 10 hqr21 rfl rfl rfl (Nat.le_of_ble_eq_true rfl) dX2_fieldOf_36 ⟨Nat.le_of_ble_eq_true rfl, Nat.le_of_ble_eq_true rfl⟩ ⟨Nat.le_of_ble_eq_true rfl, Nat.le_of_ble_eq_true rfl⟩ (fun v19 u17 H locs hw18 hP hD hS => ?_)
          obtain ⟨w, _⟩ := u17
          obtain ⟨hw18, hO⟩ := hw18
          obtain rfl : v19 = some (.ref (itl i2)) := hw18
          have hO : OKP G h0 a F R Z B J K w := hO.to rfl
          refine W.widen (k := 0) (n := 0) (Nat.le_of_ble_eq_true rfl) (Nat.le_of_ble_eq_true rfl) ?_
          refine W.eq (g2 := F0 m 39 ls [.ref (itl i2)]) rfl ?_
          have hf22 : K.1 (itl i2) = 1 := hlc.T (by omega)
          refine p_cast (C := RX7) (Tc := TX7) (N := 11) (ci := 13) hx hb hown (hq _ pw_139) hE hP hO (by rw [hf22]; decide) (rep_1 hf22) rfl dX2_fieldOf_39 ?_
          have hz23 : ∀ d : Nat, (some (itl i2)) = some d → ∃ i9 : Nat, i9 < nl ∧ itl i9 = d ∧ K.2.1 3 d = x := (fun d h => by cases h; exact ⟨i2, by omega, rfl, c16⟩)
          have hO : OKP G h0 a F R Z B J K w := hO.to rfl
          exact W.aret (v := .ref (itl i2)) hx hb hr (Or.inl ⟨_, rfl⟩) (Or.inr ⟨_, rfl⟩) (fun t99 ht99 hW99 => ⟨⟨_, (w, (some (itl i2))), rfl, ⟨rfl, hz23, hO⟩, by rw [ht99]; exact hP, hD⟩, hS.F ht99⟩) hS.2.2 dX2_fieldOf_42
  have hO : OKP G h0 a F R Z B J K w := hO.to rfl
  exact loop_i (nl + 1) 0 _ _ _ _ (by omega) (by omega) hP hD hS hO (lv_sub hl [0, 2, 1] rfl)
set_option maxHeartbeats 6000000 in
set_option maxRecDepth 100000 in
theorem Y_methodOf (l : Launch) (G : pT) (h0 : Nat) (a : Nat → Nat) (F : Nat → Int32) (R : Nat → Value) (Z : Int64) (B : Nat → Nat → Int32) (J : Nat → Nat → Int64) (K : PK) (w : va_W) (d0 : Nat) (lq : Nat) (nl : Nat) (cp9 : Nat) (itl : Nat → Nat) (x : Int32) (hd0 : K.1 d0 = 4) (hlq : K.2.2.1 12 d0 = some lq) (hlc : LsC G K lq 3 nl itl cp9) (hnl : nl ≤ 5000) (hO : OKP G h0 a F R Z B J K w) : PM l G pX0 yX2_methodOf cX2_methodOf 3 (some (.object "JinjaTongue$Method")) ({ frames := 5, cells := 0, slots := 0, locals := 124 }) [.ref d0, .int x] w (fun (v : Option Value) (u : va_W × (Option Nat)) => v = some ((va_rf u.2)) ∧ (∀ d : Nat, u.2 = some d → ∃ i9 : Nat, i9 < nl ∧ itl i9 = d ∧ K.2.1 6 d = x) ∧ (OKP G h0 a F R Z B J K u.1)) (fun u => u.1) := by
  intro sz
  refine Met.ofW (cc := cX2_methodOf) (maxL := 3) (ret := (some (.object "JinjaTongue$Method"))) (by decide) rfl ?_
  intro p e s m args below meth c s₁ B9 hml hv
  obtain ⟨rfl, hsz, hP, hD0, hE, hX⟩ := hv
  have hx := B9.exec
  have hb := B9.bytes
  have hr := B9.returns
  have hts := atoms_spec (ws := Cond.code yX2_methodOf cX2_methodOf 3 (some (.object "JinjaTongue$Method")) :: pw) B9.pre
  have hq : ∀ w ∈ pw, w.before _ s = true := fun w h => hts w (List.mem_cons_of_mem _ h)
  have hown : s.vm.findClass RX2 = some m.cls := findClass_of_methodNamed B9.named
  have hlocks := B9.notSynchronized
  subst hsz
  have hD := hD0.self (sz := s.heap.size)
  have hA : ∀ q : Nat, s.heap.size ≤ q → va_A w s.heap.size q := fun q h => Or.inr h
  generalize va_A w s.heap.size = A at hD hE hA ⊢
  have hS : va_S A s.heap s.heap [] := va_S.rf
  have hl := lv_entry ([.ref d0, .int x]) (n := 3) (Nat.le_of_ble_eq_true rfl)
  rw [lg_entry_eq]
  generalize (lg_sl ([.ref d0, .int x]) ++ List.replicate (3 - (lg_sl ([.ref d0, .int x])).length) Slot.unset).toArray = ls at hl ⊢
  have hl : lv_has ls 3 [(0, .ref d0), (1, .int x)] := hl
  refine lv_iconst (v := 0) hx hb dX2_methodOf_0 (by decide) ?_
  refine lv_istore_n (lv' := [(2, .int 0), (0, .ref d0), (1, .int x)]) hx hb dX2_methodOf_1 rfl hl (by decide) rfl (fun ls hl => ?_)
  have loop_i : ∀ (n_i : Nat) (i2 : Nat) (H : Heap) (locs : List Loc) (ls : Array Slot) (w : va_W), i2 ≤ nl → nl + 1 ≤ i2 + n_i → va_P G.1 pCl w H → va_D A w → va_S A s.heap H locs → OKP G h0 a F R Z B J K w → lv_has ls 3 [(2, .int (nI i2)), (1, .int x), (0, .ref d0)] → W p l e (headSpec (Cond.code yX2_methodOf cX2_methodOf 3 (some (.object "JinjaTongue$Method")) :: pw) ({ frames := 5, cells := 0, slots := 0, locals := 124 } : Room)).room s m ([.ref d0, .int x] : List Value).toArray below meth c H locs 0 0 (MQ below (pQ G A (fun (v : Option Value) (u : va_W × (Option Nat)) => v = some ((va_rf u.2)) ∧ (∀ d : Nat, u.2 = some d → ∃ i9 : Nat, i9 < nl ∧ itl i9 = d ∧ K.2.1 6 d = x) ∧ (OKP G h0 a F R Z B J K u.1)) (fun u => u.1)) ([.ref d0, .int x] : List Value).toArray s ({ frames := 5, cells := 0, slots := 0, locals := 124 } : Room).cells ({ frames := 5, cells := 0, slots := 0, locals := 124 } : Room).slots A) (F0 m 2 ls []) := by
    intro n_i
    induction n_i with
    | zero => intro i2 H locs ls w hk_i hn_i; omega
    | succ n_i ih_i =>
      intro i2 H locs ls w hk_i hn_i hP hD hS hO hl
      refine lv_iload_n hx hb dX2_methodOf_2 rfl (lv_at hl 0 rfl) ?_
      refine lv_aload_n hx hb dX2_methodOf_3 rfl (lv_at hl 2 rfl) ?_
      refine p_get (v := .ref lq) (C := RX2) (Tc := TX2) (N := 13) (ci := 2) hx hb hq pin_wsX20 hown hE hP hO (by rw [hd0]; decide) (rep_4 hd0) rfl 12 (by decide) (hq _ pw_120) (fun _ h9 => h9) (congrArg (fun z => some (va_rf z)) hlq) dX2_methodOf_4 ?_
      have hO : OKP G h0 a F R Z B J K w := hO.to rfl
      obtain ⟨qr4, hqr5⟩ := p_recv hO (by rw [hlc.1]; decide) (rep_5 hlc.1)
      refine pc_V0 (G := G) (As := []) (rest := [.int (nI i2)]) hx hb hml hown hq hE hX pX0_al hP hD hS hA hl.1 (L_size l G h0 a F R Z B J K w lq 3 nl itl hlc.ls hO) (gV pw_123 pw_87 pw_88 pw_32 pw_16) hV_Jx4a65c_size_8abf5 qr4 10 hqr5 rfl rfl rfl (Nat.le_of_ble_eq_true rfl) dX2_methodOf_7 ⟨Nat.le_of_ble_eq_true rfl, Nat.le_of_ble_eq_true rfl⟩ ⟨Nat.le_of_ble_eq_true rfl, Nat.le_of_ble_eq_true rfl⟩ (fun v3 u1 H locs hw2 hP hD hS => ?_)
      obtain ⟨w, _⟩ := u1
      obtain ⟨hw2, hO⟩ := hw2
      obtain rfl : v3 = some (.int (nI nl)) := hw2
      have hO : OKP G h0 a F R Z B J K w := hO.to rfl
      refine W.widen (k := 0) (n := 0) (Nat.le_of_ble_eq_true rfl) (Nat.le_of_ble_eq_true rfl) ?_
      refine W.eq (g2 := F0 m 10 ls [.int (nI nl), .int (nI i2)]) rfl ?_
      refine lv_icmp_ge (tgt := 49) hx hb dX2_methodOf_10 (by decide) (fun c6 => ?_) (fun c6 => ?_)
      · have n7 : nl ≤ i2 := (nI_leI (a := nl) (b := i2) (by omega) (by omega)).mp c6
        refine lv_null hx hb dX2_methodOf_49 ?_
        have hz8 : ∀ d : Nat, none = some d → ∃ i9 : Nat, i9 < nl ∧ itl i9 = d ∧ K.2.1 6 d = x := (fun d h => by cases h)
        have hO : OKP G h0 a F R Z B J K w := hO.to rfl
        exact W.aret (v := .null) hx hb hr (Or.inl ⟨_, rfl⟩) (Or.inl rfl) (fun t99 ht99 hW99 => ⟨⟨_, (w, none), rfl, ⟨rfl, hz8, hO⟩, by rw [ht99]; exact hP, hD⟩, hS.F ht99⟩) hS.2.2 dX2_methodOf_50
      · have n9 : ¬ (nl ≤ i2) := fun h9 => c6 ((nI_leI (a := nl) (b := i2) (by omega) (by omega)).mpr h9)
        refine lv_aload_n hx hb dX2_methodOf_13 rfl (lv_at hl 2 rfl) ?_
        refine p_get (v := .ref lq) (C := RX2) (Tc := TX2) (N := 13) (ci := 2) hx hb hq pin_wsX20 hown hE hP hO (by rw [hd0]; decide) (rep_4 hd0) rfl 12 (by decide) (hq _ pw_120) (fun _ h9 => h9) (congrArg (fun z => some (va_rf z)) hlq) dX2_methodOf_14 ?_
        refine lv_iload_n hx hb dX2_methodOf_17 rfl (lv_at hl 0 rfl) ?_
        have hO : OKP G h0 a F R Z B J K w := hO.to rfl
        obtain ⟨qr13, hqr14⟩ := p_recv hO (by rw [hlc.1]; decide) (rep_5 hlc.1)
        refine pc_V0 (G := G) (As := [.int (nI i2)]) (rest := []) hx hb hml hown hq hE hX pX0_al hP hD hS hA hl.1 (L_get l G h0 a F R Z B J K w lq 3 nl itl i2 hlc.ls (by omega) hO) (gV pw_124 pw_90 pw_91 pw_32 pw_25) hV_Jx4a65c_get_915e3 qr13 10 hqr14 rfl rfl rfl (Nat.le_of_ble_eq_true rfl) dX2_methodOf_18 ⟨Nat.le_of_ble_eq_true rfl, Nat.le_of_ble_eq_true rfl⟩ ⟨Nat.le_of_ble_eq_true rfl, Nat.le_of_ble_eq_true rfl⟩ (fun v12 u10 H locs hw11 hP hD hS => ?_)
        obtain ⟨w, _⟩ := u10
        obtain ⟨hw11, hO⟩ := hw11
        obtain rfl : v12 = some (.ref (itl i2)) := hw11
        have hO : OKP G h0 a F R Z B J K w := hO.to rfl
        refine W.widen (k := 0) (n := 0) (Nat.le_of_ble_eq_true rfl) (Nat.le_of_ble_eq_true rfl) ?_
        refine W.eq (g2 := F0 m 21 ls [.ref (itl i2)]) rfl ?_
        have hf15 : K.1 (itl i2) = 3 := hlc.T (by omega)
        refine p_cast (C := RX6) (Tc := TX6) (N := 12) (ci := 12) hx hb hown (hq _ pw_121) hE hP hO (by rw [hf15]; decide) (rep_3 hf15) rfl dX2_methodOf_21 ?_
        refine p_get (v := .int (K.2.1 6 (itl i2))) (C := RX6) (Tc := TX6) (N := 12) (ci := 12) hx hb hq pin_wsX60 hown hE hP hO (by rw [hf15]; decide) (rep_3 hf15) rfl 1 (by decide) (hq _ pw_122) (fun _ h9 => h9) rfl dX2_methodOf_24 ?_
        refine lv_iload_n hx hb dX2_methodOf_27 rfl (lv_at hl 1 rfl) ?_
        refine lv_icmp_ne (tgt := 43) hx hb dX2_methodOf_28 (by decide) (fun c16 => ?_) (fun c16 => ?_)
        · refine lv_iinc (v := (nI (i2 + 1))) (lv' := [(2, .int (nI (i2 + 1))), (1, .int x), (0, .ref d0)]) hx hb dX2_methodOf_43 hl (k := 0) rfl (nI_1 i2) (by decide) rfl (fun ls hl => ?_)
          refine lv_goto (tgt := 2) hx hb dX2_methodOf_46 (by decide) ?_
          have hO : OKP G h0 a F R Z B J K w := hO.to rfl
          exact ih_i (i2 + 1) _ _ _ _ (by omega) (by omega) hP hD hS hO (lv_sub hl [0, 1, 2] rfl)
        · refine lv_aload_n hx hb dX2_methodOf_31 rfl (lv_at hl 2 rfl) ?_
          refine p_get (v := .ref lq) (C := RX2) (Tc := TX2) (N := 13) (ci := 2) hx hb hq pin_wsX20 hown hE hP hO (by rw [hd0]; decide) (rep_4 hd0) rfl 12 (by decide) (hq _ pw_120) (fun _ h9 => h9) (congrArg (fun z => some (va_rf z)) hlq) dX2_methodOf_32 ?_
          refine lv_iload_n hx hb dX2_methodOf_35 rfl (lv_at hl 0 rfl) ?_
          have hO : OKP G h0 a F R Z B J K w := hO.to rfl
          obtain ⟨qr20, hqr21⟩ := p_recv hO (by rw [hlc.1]; decide) (rep_5 hlc.1)
          refine pc_V0 (G := G) (As := [.int (nI i2)]) (rest := []) hx hb hml hown hq hE hX pX0_al hP hD hS hA hl.1 (L_get l G h0 a F R Z B J K w lq 3 nl itl i2 hlc.ls (by omega) hO) (gV pw_124 pw_90 pw_91 pw_32 pw_25) hV_Jx4a65c_get_915e3 qr20 10 hqr21 rfl rfl rfl (Nat.le_of_ble_eq_true rfl) dX2_methodOf_36 ⟨Nat.le_of_ble_eq_true rfl, Nat.le_of_ble_eq_true rfl⟩ ⟨Nat.le_of_ble_eq_true rfl, Nat.le_of_ble_eq_true rfl⟩ (fun v19 u17 H locs hw18 hP hD hS => ?_)
          obtain ⟨w, _⟩ := u17
          obtain ⟨hw18, hO⟩ := hw18
          obtain rfl : v19 = some (.ref (itl i2)) := hw18
          have hO : OKP G h0 a F R Z B J K w := hO.to rfl
          refine W.widen (k := 0) (n := 0) (Nat.le_of_ble_eq_true rfl) (Nat.le_of_ble_eq_true rfl) ?_
          refine W.eq (g2 := F0 m 39 ls [.ref (itl i2)]) rfl ?_
          have hf22 : K.1 (itl i2) = 3 := hlc.T (by omega)
          refine p_cast (C := RX6) (Tc := TX6) (N := 12) (ci := 12) hx hb hown (hq _ pw_121) hE hP hO (by rw [hf22]; decide) (rep_3 hf22) rfl dX2_methodOf_39 ?_
          have hz23 : ∀ d : Nat, (some (itl i2)) = some d → ∃ i9 : Nat, i9 < nl ∧ itl i9 = d ∧ K.2.1 6 d = x := (fun d h => by cases h; exact ⟨i2, by omega, rfl, c16⟩)
          have hO : OKP G h0 a F R Z B J K w := hO.to rfl
          exact W.aret (v := .ref (itl i2)) hx hb hr (Or.inl ⟨_, rfl⟩) (Or.inr ⟨_, rfl⟩) (fun t99 ht99 hW99 => ⟨⟨_, (w, (some (itl i2))), rfl, ⟨rfl, hz23, hO⟩, by rw [ht99]; exact hP, hD⟩, hS.F ht99⟩) hS.2.2 dX2_methodOf_42
  have hO : OKP G h0 a F R Z B J K w := hO.to rfl
  exact loop_i (nl + 1) 0 _ _ _ _ (by omega) (by omega) hP hD hS hO (lv_sub hl [0, 2, 1] rfl)

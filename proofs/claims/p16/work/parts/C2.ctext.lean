def NmR (nm : Nat) (ns nl nn bk : Nat → Int32) : Prop := nm ≤ 2540 ∧ (∀ i : Nat, i < nm → ∃ p q : Nat, ns i = nI p ∧ nl i = nI q ∧ p + q ≤ 5220) ∧ (∀ i : Nat, i < nm → OrY (nn i) nm) ∧ ∀ b : Nat, b < 256 → OrY (bk b) nm
theorem OrY.up {x : Int32} {n m : Nat} (h : OrY x n) (g : n ≤ m) : OrY x m := h.imp id (fun ⟨q, e, l⟩ => ⟨q, e, by omega⟩)
theorem NmR.add {nm p q b : Nat} {ns nl nn bk : Nat → Int32} (h : NmR nm ns nl nn bk) (hn : nm < 2540) (hp : p + q ≤ 5220) (hb : b < 256) : NmR (nm + 1) (upd ns nm (nI p)) (upd nl nm (nI q)) (upd nn nm (bk b)) (upd bk b (nI nm)) := by
  obtain ⟨h1, h2, h3, h4⟩ := h
  refine ⟨by omega, fun i hi => ?_, fun i hi => ?_, fun c hc => ?_⟩
  · by_cases e : i = nm
    · subst e; exact ⟨p, q, upd_eq, upd_eq, hp⟩
    · obtain ⟨p1, q1, e1, e2, e3⟩ := h2 i (by omega)
      exact ⟨p1, q1, (if_neg e).trans e1, (if_neg e).trans e2, e3⟩
  · by_cases e : i = nm
    · subst e; rw [upd_eq]; exact (h4 b hb).up (by omega)
    · rw [show upd nn nm (bk b) i = nn i from if_neg e]; exact (h3 i (by omega)).up (by omega)
  · by_cases e : c = b
    · subst e; rw [upd_eq]; exact Or.inr ⟨nm, rfl, by omega⟩
    · rw [show upd bk b (nI nm) c = bk c from if_neg e]; exact (h4 c hc).up (by omega)
theorem dX10_kindAt_0 : decode cX10_kindAt 0 = .ok (.iload_n 1, 1) := by decide +kernel
theorem dX10_kindAt_1 : decode cX10_kindAt 1 = .ok (.ifCond .lt 20, 3) := by decide +kernel
theorem dX10_kindAt_21 : decode cX10_kindAt 21 = .ok (.bipush 67, 2) := by decide +kernel
theorem dX10_kindAt_23 : decode cX10_kindAt 23 = .ok (.ireturn, 1) := by decide +kernel
theorem dX10_kindAt_4 : decode cX10_kindAt 4 = .ok (.iload_n 1, 1) := by decide +kernel
theorem dX10_kindAt_5 : decode cX10_kindAt 5 = .ok (.aload_n 0, 1) := by decide +kernel
theorem dX10_kindAt_6 : decode cX10_kindAt 6 = .ok (.getfield 84, 3) := by decide +kernel
theorem dX10_kindAt_9 : decode cX10_kindAt 9 = .ok (.if_icmp .ge 12, 3) := by decide +kernel
theorem dX10_kindAt_12 : decode cX10_kindAt 12 = .ok (.aload_n 0, 1) := by decide +kernel
theorem dX10_kindAt_13 : decode cX10_kindAt 13 = .ok (.getfield 35, 3) := by decide +kernel
theorem dX10_kindAt_16 : decode cX10_kindAt 16 = .ok (.iload_n 1, 1) := by decide +kernel
theorem dX10_kindAt_17 : decode cX10_kindAt 17 = .ok (.iaload, 1) := by decide +kernel
theorem dX10_kindAt_18 : decode cX10_kindAt 18 = .ok (.goto 5, 3) := by decide +kernel
set_option maxHeartbeats 2000000 in
set_option maxRecDepth 100000 in
theorem K_kindAt (l : Launch) (G : pT) (h0 : Nat) (a : Nat → Nat) (F : Nat → Int32) (R : Nat → Value) (Z : Int64) (B : Nat → Nat → Int32) (J : Nat → Nat → Int64) (T : Nat → Nat) (Pi : Nat → va_E → Prop) (w : va_W) (x : Int32) (sz : Nat) (hsz : sz ≤ 5000) (hO : OKW G h0 a (upd F 2 (nI sz)) R Z B J T Pi w) : PM l G pX0 yX10_kindAt cX10_kindAt 2 (some .int) ({ frames := 2, cells := 0, slots := 0, locals := 60 }) [.ref (a 1), .int x] w (fun (v : Option Value) (u : va_W × (Int32)) => v = some (.int u.2) ∧ (u.2 = 67 ∨ ∃ t : Nat, x = nI t ∧ t < sz) ∧ (OKW G h0 a (upd F 2 (nI sz)) R Z B J T Pi u.1)) (fun u => u.1) := by
  intro sz
  refine Met.ofW (cc := cX10_kindAt) (maxL := 2) (ret := (some .int)) (by decide) rfl ?_
  intro p e s m args below meth c s₁ B9 hml hv
  obtain ⟨rfl, hsz, hP, hD0, hE, hX⟩ := hv
  have hx := B9.exec
  have hb := B9.bytes
  have hr := B9.returns
  have hts := atoms_spec (ws := Cond.code yX10_kindAt cX10_kindAt 2 (some .int) :: pw) B9.pre
  have hq : ∀ w ∈ pw, w.before _ s = true := fun w h => hts w (List.mem_cons_of_mem _ h)
  have hown : s.vm.findClass RX10 = some m.cls := findClass_of_methodNamed B9.named
  have hlocks := B9.notSynchronized
  subst hsz
  have hD := hD0.self (sz := s.heap.size)
  have hA : ∀ q : Nat, s.heap.size ≤ q → va_A w s.heap.size q := fun q h => Or.inr h
  generalize va_A w s.heap.size = A at hD hE hA ⊢
  have hS : va_S A s.heap s.heap [] := va_S.rf
  have hl := lv_entry ([.ref (a 1), .int x]) (n := 2) (Nat.le_of_ble_eq_true rfl)
  rw [lg_entry_eq]
  generalize (lg_sl ([.ref (a 1), .int x]) ++ List.replicate (2 - (lg_sl ([.ref (a 1), .int x])).length) Slot.unset).toArray = ls at hl ⊢
  have hl : lv_has ls 2 [(0, .ref (a 1)), (1, .int x)] := hl
  refine lv_iload_n hx hb dX10_kindAt_0 rfl (lv_at hl 1 rfl) ?_
  refine lv_if_lt (tgt := 21) hx hb dX10_kindAt_1 (by decide) (fun c1 => ?_) (fun c1 => ?_)
  · refine lv_bipush (v := 67) hx hb dX10_kindAt_21 (by decide) ?_
    have hz2 : (67 : Int32) = 67 ∨ ∃ t : Nat, x = nI t ∧ t < sz := (Or.inl rfl)
    have hO : OKW G h0 a (upd F 2 (nI sz)) R Z B J T Pi w := hO.to rfl
    exact W.iret (v := 67) hx hb hr (fun t99 ht99 hW99 => ⟨⟨_, (w, (67 : Int32)), rfl, ⟨rfl, hz2, hO⟩, by rw [ht99]; exact hP, hD⟩, hS.F ht99⟩) hS.2.2 dX10_kindAt_23
  · obtain ⟨t9, ht_t9, hb_t9⟩ := nI_nn2 c1
    rw [ht_t9] at hl
    refine lv_iload_n hx hb dX10_kindAt_4 rfl (lv_at hl 1 rfl) ?_
    refine lv_aload_n hx hb dX10_kindAt_5 rfl (lv_at hl 0 rfl) ?_
    refine c_get (v := .int (nI sz)) (C := RX10) (Tc := TX10) (N := 15) (ci := 7) hx hb hq pin_wsX100 hown hE hP hO 2 (sg_2 G h0 a _ _ _ _ _) rfl 8 (by decide) (hq _ pw_37) (fun _ h9 => h9) rfl dX10_kindAt_6 ?_
    refine lv_icmp_ge (tgt := 21) hx hb dX10_kindAt_9 (by decide) (fun c3 => ?_) (fun c3 => ?_)
    · have n4 : sz ≤ t9 := (nI_leI (a := sz) (b := t9) (by omega) (by omega)).mp c3
      refine lv_bipush (v := 67) hx hb dX10_kindAt_21 (by decide) ?_
      have hz5 : (67 : Int32) = 67 ∨ ∃ t : Nat, x = nI t ∧ t < sz := (Or.inl rfl)
      have hO : OKW G h0 a (upd F 2 (nI sz)) R Z B J T Pi w := hO.to rfl
      exact W.iret (v := 67) hx hb hr (fun t99 ht99 hW99 => ⟨⟨_, (w, (67 : Int32)), rfl, ⟨rfl, hz5, hO⟩, by rw [ht99]; exact hP, hD⟩, hS.F ht99⟩) hS.2.2 dX10_kindAt_23
    · have n6 : ¬ (sz ≤ t9) := fun h9 => c3 ((nI_leI (a := sz) (b := t9) (by omega) (by omega)).mpr h9)
      refine lv_aload_n hx hb dX10_kindAt_12 rfl (lv_at hl 0 rfl) ?_
      refine c_get (v := .ref (a 7)) (C := RX10) (Tc := TX10) (N := 15) (ci := 7) hx hb hq pin_wsX100 hown hE hP hO 2 (sg_2 G h0 a _ _ _ _ _) rfl 3 (by decide) (hq _ pw_127) (fun _ h9 => h9) rfl dX10_kindAt_13 ?_
      refine lv_iload_n hx hb dX10_kindAt_16 rfl (lv_at hl 1 rfl) ?_
      refine c_ldi (f := (B 7)) (n := 5000) (t0 := 0) hx hb hE hP hO 4 (sg_4 G h0 a _ _ _ _ _) rfl (vp_in_nI (by omega) (by decide)) dX10_kindAt_17 ?_
      rw [(nI_clamp (show t9 < 2 ^ 31 by omega))]
      refine lv_goto (tgt := 23) hx hb dX10_kindAt_18 (by decide) ?_
      have hz7 : ((B 7) t9) = 67 ∨ ∃ t : Nat, x = nI t ∧ t < sz := (Or.inr ⟨t9, ht_t9, by omega⟩)
      have hO : OKW G h0 a (upd F 2 (nI sz)) R Z B J T Pi w := hO.to rfl
      exact W.iret (v := ((B 7) t9)) hx hb hr (fun t99 ht99 hW99 => ⟨⟨_, (w, ((B 7) t9)), rfl, ⟨rfl, hz7, hO⟩, by rw [ht99]; exact hP, hD⟩, hS.F ht99⟩) hS.2.2 dX10_kindAt_23
theorem dX10_placeAt_0 : decode cX10_placeAt 0 = .ok (.iload_n 1, 1) := by decide +kernel
theorem dX10_placeAt_1 : decode cX10_placeAt 1 = .ok (.ifCond .lt 20, 3) := by decide +kernel
theorem dX10_placeAt_21 : decode cX10_placeAt 21 = .ok (.aload_n 0, 1) := by decide +kernel
theorem dX10_placeAt_22 : decode cX10_placeAt 22 = .ok (.getfield 76, 3) := by decide +kernel
theorem dX10_placeAt_25 : decode cX10_placeAt 25 = .ok (.ireturn, 1) := by decide +kernel
theorem dX10_placeAt_4 : decode cX10_placeAt 4 = .ok (.iload_n 1, 1) := by decide +kernel
theorem dX10_placeAt_5 : decode cX10_placeAt 5 = .ok (.aload_n 0, 1) := by decide +kernel
theorem dX10_placeAt_6 : decode cX10_placeAt 6 = .ok (.getfield 84, 3) := by decide +kernel
theorem dX10_placeAt_9 : decode cX10_placeAt 9 = .ok (.if_icmp .ge 12, 3) := by decide +kernel
theorem dX10_placeAt_12 : decode cX10_placeAt 12 = .ok (.aload_n 0, 1) := by decide +kernel
theorem dX10_placeAt_13 : decode cX10_placeAt 13 = .ok (.getfield 39, 3) := by decide +kernel
theorem dX10_placeAt_16 : decode cX10_placeAt 16 = .ok (.iload_n 1, 1) := by decide +kernel
theorem dX10_placeAt_17 : decode cX10_placeAt 17 = .ok (.iaload, 1) := by decide +kernel
theorem dX10_placeAt_18 : decode cX10_placeAt 18 = .ok (.goto 7, 3) := by decide +kernel
set_option maxHeartbeats 2000000 in
set_option maxRecDepth 100000 in
theorem K_placeAt (l : Launch) (G : pT) (h0 : Nat) (a : Nat → Nat) (F : Nat → Int32) (R : Nat → Value) (Z : Int64) (B : Nat → Nat → Int32) (J : Nat → Nat → Int64) (T : Nat → Nat) (Pi : Nat → va_E → Prop) (w : va_W) (x : Int32) (sz : Nat) (hsz : sz ≤ 5000) (hO : OKW G h0 a (upd F 2 (nI sz)) R Z B J T Pi w) : PM l G pX0 yX10_placeAt cX10_placeAt 2 (some .int) ({ frames := 2, cells := 0, slots := 0, locals := 60 }) [.ref (a 1), .int x] w (fun (v : Option Value) (u : va_W × (Int32)) => v = some (.int u.2) ∧ (OKW G h0 a (upd F 2 (nI sz)) R Z B J T Pi u.1)) (fun u => u.1) := by
  intro sz
  refine Met.ofW (cc := cX10_placeAt) (maxL := 2) (ret := (some .int)) (by decide) rfl ?_
  intro p e s m args below meth c s₁ B9 hml hv
  obtain ⟨rfl, hsz, hP, hD0, hE, hX⟩ := hv
  have hx := B9.exec
  have hb := B9.bytes
  have hr := B9.returns
  have hts := atoms_spec (ws := Cond.code yX10_placeAt cX10_placeAt 2 (some .int) :: pw) B9.pre
  have hq : ∀ w ∈ pw, w.before _ s = true := fun w h => hts w (List.mem_cons_of_mem _ h)
  have hown : s.vm.findClass RX10 = some m.cls := findClass_of_methodNamed B9.named
  have hlocks := B9.notSynchronized
  subst hsz
  have hD := hD0.self (sz := s.heap.size)
  have hA : ∀ q : Nat, s.heap.size ≤ q → va_A w s.heap.size q := fun q h => Or.inr h
  generalize va_A w s.heap.size = A at hD hE hA ⊢
  have hS : va_S A s.heap s.heap [] := va_S.rf
  have hl := lv_entry ([.ref (a 1), .int x]) (n := 2) (Nat.le_of_ble_eq_true rfl)
  rw [lg_entry_eq]
  generalize (lg_sl ([.ref (a 1), .int x]) ++ List.replicate (2 - (lg_sl ([.ref (a 1), .int x])).length) Slot.unset).toArray = ls at hl ⊢
  have hl : lv_has ls 2 [(0, .ref (a 1)), (1, .int x)] := hl
  refine lv_iload_n hx hb dX10_placeAt_0 rfl (lv_at hl 1 rfl) ?_
  refine lv_if_lt (tgt := 21) hx hb dX10_placeAt_1 (by decide) (fun c1 => ?_) (fun c1 => ?_)
  · refine lv_aload_n hx hb dX10_placeAt_21 rfl (lv_at hl 0 rfl) ?_
    refine c_get (v := .int (F 1)) (C := RX10) (Tc := TX10) (N := 15) (ci := 7) hx hb hq pin_wsX100 hown hE hP hO 2 (sg_2 G h0 a _ _ _ _ _) rfl 2 (by decide) (hq _ pw_47) (fun _ h9 => h9) rfl dX10_placeAt_22 ?_
    have hO : OKW G h0 a (upd F 2 (nI sz)) R Z B J T Pi w := hO.to rfl
    exact W.iret (v := (F 1)) hx hb hr (fun t99 ht99 hW99 => ⟨⟨_, (w, (F 1)), rfl, ⟨rfl, hO⟩, by rw [ht99]; exact hP, hD⟩, hS.F ht99⟩) hS.2.2 dX10_placeAt_25
  · obtain ⟨t9, ht_t9, hb_t9⟩ := nI_nn2 c1
    rw [ht_t9] at hl
    refine lv_iload_n hx hb dX10_placeAt_4 rfl (lv_at hl 1 rfl) ?_
    refine lv_aload_n hx hb dX10_placeAt_5 rfl (lv_at hl 0 rfl) ?_
    refine c_get (v := .int (nI sz)) (C := RX10) (Tc := TX10) (N := 15) (ci := 7) hx hb hq pin_wsX100 hown hE hP hO 2 (sg_2 G h0 a _ _ _ _ _) rfl 8 (by decide) (hq _ pw_37) (fun _ h9 => h9) rfl dX10_placeAt_6 ?_
    refine lv_icmp_ge (tgt := 21) hx hb dX10_placeAt_9 (by decide) (fun c2 => ?_) (fun c2 => ?_)
    · have n3 : sz ≤ t9 := (nI_leI (a := sz) (b := t9) (by omega) (by omega)).mp c2
      refine lv_aload_n hx hb dX10_placeAt_21 rfl (lv_at hl 0 rfl) ?_
      refine c_get (v := .int (F 1)) (C := RX10) (Tc := TX10) (N := 15) (ci := 7) hx hb hq pin_wsX100 hown hE hP hO 2 (sg_2 G h0 a _ _ _ _ _) rfl 2 (by decide) (hq _ pw_47) (fun _ h9 => h9) rfl dX10_placeAt_22 ?_
      have hO : OKW G h0 a (upd F 2 (nI sz)) R Z B J T Pi w := hO.to rfl
      exact W.iret (v := (F 1)) hx hb hr (fun t99 ht99 hW99 => ⟨⟨_, (w, (F 1)), rfl, ⟨rfl, hO⟩, by rw [ht99]; exact hP, hD⟩, hS.F ht99⟩) hS.2.2 dX10_placeAt_25
    · have n4 : ¬ (sz ≤ t9) := fun h9 => c2 ((nI_leI (a := sz) (b := t9) (by omega) (by omega)).mpr h9)
      refine lv_aload_n hx hb dX10_placeAt_12 rfl (lv_at hl 0 rfl) ?_
      refine c_get (v := .ref (a 8)) (C := RX10) (Tc := TX10) (N := 15) (ci := 7) hx hb hq pin_wsX100 hown hE hP hO 2 (sg_2 G h0 a _ _ _ _ _) rfl 4 (by decide) (hq _ pw_46) (fun _ h9 => h9) rfl dX10_placeAt_13 ?_
      refine lv_iload_n hx hb dX10_placeAt_16 rfl (lv_at hl 1 rfl) ?_
      refine c_ldi (f := (B 8)) (n := 5000) (t0 := 0) hx hb hE hP hO 5 (sg_5 G h0 a _ _ _ _ _) rfl (vp_in_nI (by omega) (by decide)) dX10_placeAt_17 ?_
      rw [(nI_clamp (show t9 < 2 ^ 31 by omega))]
      refine lv_goto (tgt := 25) hx hb dX10_placeAt_18 (by decide) ?_
      have hO : OKW G h0 a (upd F 2 (nI sz)) R Z B J T Pi w := hO.to rfl
      exact W.iret (v := ((B 8) t9)) hx hb hr (fun t99 ht99 hW99 => ⟨⟨_, (w, ((B 8) t9)), rfl, ⟨rfl, hO⟩, by rw [ht99]; exact hP, hD⟩, hS.F ht99⟩) hS.2.2 dX10_placeAt_25
theorem dX10_valueAt_0 : decode cX10_valueAt 0 = .ok (.iload_n 1, 1) := by decide +kernel
theorem dX10_valueAt_1 : decode cX10_valueAt 1 = .ok (.ifCond .lt 20, 3) := by decide +kernel
theorem dX10_valueAt_21 : decode cX10_valueAt 21 = .ok (.iconst (-1), 1) := by decide +kernel
theorem dX10_valueAt_22 : decode cX10_valueAt 22 = .ok (.ireturn, 1) := by decide +kernel
theorem dX10_valueAt_4 : decode cX10_valueAt 4 = .ok (.iload_n 1, 1) := by decide +kernel
theorem dX10_valueAt_5 : decode cX10_valueAt 5 = .ok (.aload_n 0, 1) := by decide +kernel
theorem dX10_valueAt_6 : decode cX10_valueAt 6 = .ok (.getfield 84, 3) := by decide +kernel
theorem dX10_valueAt_9 : decode cX10_valueAt 9 = .ok (.if_icmp .ge 12, 3) := by decide +kernel
theorem dX10_valueAt_12 : decode cX10_valueAt 12 = .ok (.aload_n 0, 1) := by decide +kernel
theorem dX10_valueAt_13 : decode cX10_valueAt 13 = .ok (.getfield 42, 3) := by decide +kernel
theorem dX10_valueAt_16 : decode cX10_valueAt 16 = .ok (.iload_n 1, 1) := by decide +kernel
theorem dX10_valueAt_17 : decode cX10_valueAt 17 = .ok (.iaload, 1) := by decide +kernel
theorem dX10_valueAt_18 : decode cX10_valueAt 18 = .ok (.goto 4, 3) := by decide +kernel
set_option maxHeartbeats 2000000 in
set_option maxRecDepth 100000 in
theorem K_valueAt (l : Launch) (G : pT) (h0 : Nat) (a : Nat → Nat) (F : Nat → Int32) (R : Nat → Value) (Z : Int64) (B : Nat → Nat → Int32) (J : Nat → Nat → Int64) (T : Nat → Nat) (Pi : Nat → va_E → Prop) (w : va_W) (x : Int32) (sz : Nat) (hsz : sz ≤ 5000) (hO : OKW G h0 a (upd F 2 (nI sz)) R Z B J T Pi w) : PM l G pX0 yX10_valueAt cX10_valueAt 2 (some .int) ({ frames := 2, cells := 0, slots := 0, locals := 60 }) [.ref (a 1), .int x] w (fun (v : Option Value) (u : va_W × (Int32)) => v = some (.int u.2) ∧ (OKW G h0 a (upd F 2 (nI sz)) R Z B J T Pi u.1)) (fun u => u.1) := by
  intro sz
  refine Met.ofW (cc := cX10_valueAt) (maxL := 2) (ret := (some .int)) (by decide) rfl ?_
  intro p e s m args below meth c s₁ B9 hml hv
  obtain ⟨rfl, hsz, hP, hD0, hE, hX⟩ := hv
  have hx := B9.exec
  have hb := B9.bytes
  have hr := B9.returns
  have hts := atoms_spec (ws := Cond.code yX10_valueAt cX10_valueAt 2 (some .int) :: pw) B9.pre
  have hq : ∀ w ∈ pw, w.before _ s = true := fun w h => hts w (List.mem_cons_of_mem _ h)
  have hown : s.vm.findClass RX10 = some m.cls := findClass_of_methodNamed B9.named
  have hlocks := B9.notSynchronized
  subst hsz
  have hD := hD0.self (sz := s.heap.size)
  have hA : ∀ q : Nat, s.heap.size ≤ q → va_A w s.heap.size q := fun q h => Or.inr h
  generalize va_A w s.heap.size = A at hD hE hA ⊢
  have hS : va_S A s.heap s.heap [] := va_S.rf
  have hl := lv_entry ([.ref (a 1), .int x]) (n := 2) (Nat.le_of_ble_eq_true rfl)
  rw [lg_entry_eq]
  generalize (lg_sl ([.ref (a 1), .int x]) ++ List.replicate (2 - (lg_sl ([.ref (a 1), .int x])).length) Slot.unset).toArray = ls at hl ⊢
  have hl : lv_has ls 2 [(0, .ref (a 1)), (1, .int x)] := hl
  refine lv_iload_n hx hb dX10_valueAt_0 rfl (lv_at hl 1 rfl) ?_
  refine lv_if_lt (tgt := 21) hx hb dX10_valueAt_1 (by decide) (fun c1 => ?_) (fun c1 => ?_)
  · refine lv_iconst (v := (-1)) hx hb dX10_valueAt_21 (by decide) ?_
    have hO : OKW G h0 a (upd F 2 (nI sz)) R Z B J T Pi w := hO.to rfl
    exact W.iret (v := (-1)) hx hb hr (fun t99 ht99 hW99 => ⟨⟨_, (w, ((-1) : Int32)), rfl, ⟨rfl, hO⟩, by rw [ht99]; exact hP, hD⟩, hS.F ht99⟩) hS.2.2 dX10_valueAt_22
  · obtain ⟨t9, ht_t9, hb_t9⟩ := nI_nn2 c1
    rw [ht_t9] at hl
    refine lv_iload_n hx hb dX10_valueAt_4 rfl (lv_at hl 1 rfl) ?_
    refine lv_aload_n hx hb dX10_valueAt_5 rfl (lv_at hl 0 rfl) ?_
    refine c_get (v := .int (nI sz)) (C := RX10) (Tc := TX10) (N := 15) (ci := 7) hx hb hq pin_wsX100 hown hE hP hO 2 (sg_2 G h0 a _ _ _ _ _) rfl 8 (by decide) (hq _ pw_37) (fun _ h9 => h9) rfl dX10_valueAt_6 ?_
    refine lv_icmp_ge (tgt := 21) hx hb dX10_valueAt_9 (by decide) (fun c2 => ?_) (fun c2 => ?_)
    · have n3 : sz ≤ t9 := (nI_leI (a := sz) (b := t9) (by omega) (by omega)).mp c2
      refine lv_iconst (v := (-1)) hx hb dX10_valueAt_21 (by decide) ?_
      have hO : OKW G h0 a (upd F 2 (nI sz)) R Z B J T Pi w := hO.to rfl
      exact W.iret (v := (-1)) hx hb hr (fun t99 ht99 hW99 => ⟨⟨_, (w, ((-1) : Int32)), rfl, ⟨rfl, hO⟩, by rw [ht99]; exact hP, hD⟩, hS.F ht99⟩) hS.2.2 dX10_valueAt_22
    · have n4 : ¬ (sz ≤ t9) := fun h9 => c2 ((nI_leI (a := sz) (b := t9) (by omega) (by omega)).mpr h9)
      refine lv_aload_n hx hb dX10_valueAt_12 rfl (lv_at hl 0 rfl) ?_
      refine c_get (v := .ref (a 9)) (C := RX10) (Tc := TX10) (N := 15) (ci := 7) hx hb hq pin_wsX100 hown hE hP hO 2 (sg_2 G h0 a _ _ _ _ _) rfl 5 (by decide) (hq _ pw_40) (fun _ h9 => h9) rfl dX10_valueAt_13 ?_
      refine lv_iload_n hx hb dX10_valueAt_16 rfl (lv_at hl 1 rfl) ?_
      refine c_ldi (f := (B 9)) (n := 5000) (t0 := 0) hx hb hE hP hO 6 (sg_6 G h0 a _ _ _ _ _) rfl (vp_in_nI (by omega) (by decide)) dX10_valueAt_17 ?_
      rw [(nI_clamp (show t9 < 2 ^ 31 by omega))]
      refine lv_goto (tgt := 22) hx hb dX10_valueAt_18 (by decide) ?_
      have hO : OKW G h0 a (upd F 2 (nI sz)) R Z B J T Pi w := hO.to rfl
      exact W.iret (v := ((B 9) t9)) hx hb hr (fun t99 ht99 hW99 => ⟨⟨_, (w, ((B 9) t9)), rfl, ⟨rfl, hO⟩, by rw [ht99]; exact hP, hD⟩, hS.F ht99⟩) hS.2.2 dX10_valueAt_22
theorem dX10_roleAt_0 : decode cX10_roleAt 0 = .ok (.iload_n 1, 1) := by decide +kernel
theorem dX10_roleAt_1 : decode cX10_roleAt 1 = .ok (.ifCond .lt 20, 3) := by decide +kernel
theorem dX10_roleAt_21 : decode cX10_roleAt 21 = .ok (.iconst 0, 1) := by decide +kernel
theorem dX10_roleAt_22 : decode cX10_roleAt 22 = .ok (.ireturn, 1) := by decide +kernel
theorem dX10_roleAt_4 : decode cX10_roleAt 4 = .ok (.iload_n 1, 1) := by decide +kernel
theorem dX10_roleAt_5 : decode cX10_roleAt 5 = .ok (.aload_n 0, 1) := by decide +kernel
theorem dX10_roleAt_6 : decode cX10_roleAt 6 = .ok (.getfield 84, 3) := by decide +kernel
theorem dX10_roleAt_9 : decode cX10_roleAt 9 = .ok (.if_icmp .ge 12, 3) := by decide +kernel
theorem dX10_roleAt_12 : decode cX10_roleAt 12 = .ok (.aload_n 0, 1) := by decide +kernel
theorem dX10_roleAt_13 : decode cX10_roleAt 13 = .ok (.getfield 45, 3) := by decide +kernel
theorem dX10_roleAt_16 : decode cX10_roleAt 16 = .ok (.iload_n 1, 1) := by decide +kernel
theorem dX10_roleAt_17 : decode cX10_roleAt 17 = .ok (.baload, 1) := by decide +kernel
theorem dX10_roleAt_18 : decode cX10_roleAt 18 = .ok (.goto 4, 3) := by decide +kernel
set_option maxHeartbeats 2000000 in
set_option maxRecDepth 100000 in
theorem K_roleAt (l : Launch) (G : pT) (h0 : Nat) (a : Nat → Nat) (F : Nat → Int32) (R : Nat → Value) (Z : Int64) (B : Nat → Nat → Int32) (J : Nat → Nat → Int64) (T : Nat → Nat) (Pi : Nat → va_E → Prop) (w : va_W) (x : Int32) (sz : Nat) (hsz : sz ≤ 5000) (hO : OKW G h0 a (upd F 2 (nI sz)) R Z B J T Pi w) : PM l G pX0 yX10_roleAt cX10_roleAt 2 (some .int) ({ frames := 2, cells := 0, slots := 0, locals := 60 }) [.ref (a 1), .int x] w (fun (v : Option Value) (u : va_W × (Int32)) => v = some (.int u.2) ∧ (OKW G h0 a (upd F 2 (nI sz)) R Z B J T Pi u.1)) (fun u => u.1) := by
  intro sz
  refine Met.ofW (cc := cX10_roleAt) (maxL := 2) (ret := (some .int)) (by decide) rfl ?_
  intro p e s m args below meth c s₁ B9 hml hv
  obtain ⟨rfl, hsz, hP, hD0, hE, hX⟩ := hv
  have hx := B9.exec
  have hb := B9.bytes
  have hr := B9.returns
  have hts := atoms_spec (ws := Cond.code yX10_roleAt cX10_roleAt 2 (some .int) :: pw) B9.pre
  have hq : ∀ w ∈ pw, w.before _ s = true := fun w h => hts w (List.mem_cons_of_mem _ h)
  have hown : s.vm.findClass RX10 = some m.cls := findClass_of_methodNamed B9.named
  have hlocks := B9.notSynchronized
  subst hsz
  have hD := hD0.self (sz := s.heap.size)
  have hA : ∀ q : Nat, s.heap.size ≤ q → va_A w s.heap.size q := fun q h => Or.inr h
  generalize va_A w s.heap.size = A at hD hE hA ⊢
  have hS : va_S A s.heap s.heap [] := va_S.rf
  have hl := lv_entry ([.ref (a 1), .int x]) (n := 2) (Nat.le_of_ble_eq_true rfl)
  rw [lg_entry_eq]
  generalize (lg_sl ([.ref (a 1), .int x]) ++ List.replicate (2 - (lg_sl ([.ref (a 1), .int x])).length) Slot.unset).toArray = ls at hl ⊢
  have hl : lv_has ls 2 [(0, .ref (a 1)), (1, .int x)] := hl
  refine lv_iload_n hx hb dX10_roleAt_0 rfl (lv_at hl 1 rfl) ?_
  refine lv_if_lt (tgt := 21) hx hb dX10_roleAt_1 (by decide) (fun c1 => ?_) (fun c1 => ?_)
  · refine lv_iconst (v := 0) hx hb dX10_roleAt_21 (by decide) ?_
    have hO : OKW G h0 a (upd F 2 (nI sz)) R Z B J T Pi w := hO.to rfl
    exact W.iret (v := 0) hx hb hr (fun t99 ht99 hW99 => ⟨⟨_, (w, (0 : Int32)), rfl, ⟨rfl, hO⟩, by rw [ht99]; exact hP, hD⟩, hS.F ht99⟩) hS.2.2 dX10_roleAt_22
  · obtain ⟨t9, ht_t9, hb_t9⟩ := nI_nn2 c1
    rw [ht_t9] at hl
    refine lv_iload_n hx hb dX10_roleAt_4 rfl (lv_at hl 1 rfl) ?_
    refine lv_aload_n hx hb dX10_roleAt_5 rfl (lv_at hl 0 rfl) ?_
    refine c_get (v := .int (nI sz)) (C := RX10) (Tc := TX10) (N := 15) (ci := 7) hx hb hq pin_wsX100 hown hE hP hO 2 (sg_2 G h0 a _ _ _ _ _) rfl 8 (by decide) (hq _ pw_37) (fun _ h9 => h9) rfl dX10_roleAt_6 ?_
    refine lv_icmp_ge (tgt := 21) hx hb dX10_roleAt_9 (by decide) (fun c2 => ?_) (fun c2 => ?_)
    · have n3 : sz ≤ t9 := (nI_leI (a := sz) (b := t9) (by omega) (by omega)).mp c2
      refine lv_iconst (v := 0) hx hb dX10_roleAt_21 (by decide) ?_
      have hO : OKW G h0 a (upd F 2 (nI sz)) R Z B J T Pi w := hO.to rfl
      exact W.iret (v := 0) hx hb hr (fun t99 ht99 hW99 => ⟨⟨_, (w, (0 : Int32)), rfl, ⟨rfl, hO⟩, by rw [ht99]; exact hP, hD⟩, hS.F ht99⟩) hS.2.2 dX10_roleAt_22
    · have n4 : ¬ (sz ≤ t9) := fun h9 => c2 ((nI_leI (a := sz) (b := t9) (by omega) (by omega)).mpr h9)
      refine lv_aload_n hx hb dX10_roleAt_12 rfl (lv_at hl 0 rfl) ?_
      refine c_get (v := .ref (a 10)) (C := RX10) (Tc := TX10) (N := 15) (ci := 7) hx hb hq pin_wsX100 hown hE hP hO 2 (sg_2 G h0 a _ _ _ _ _) rfl 6 (by decide) (hq _ pw_820) (fun _ h9 => h9) rfl dX10_roleAt_13 ?_
      refine lv_iload_n hx hb dX10_roleAt_16 rfl (lv_at hl 1 rfl) ?_
      refine c_ldb (f := (B 10)) (n := 5000) (t0 := 1) hx hb hE hP hO 7 (sg_7 G h0 a _ _ _ _ _) rfl (vp_in_nI (by omega) (by decide)) dX10_roleAt_17 ?_
      rw [(nI_clamp (show t9 < 2 ^ 31 by omega))]
      refine lv_goto (tgt := 22) hx hb dX10_roleAt_18 (by decide) ?_
      have hO : OKW G h0 a (upd F 2 (nI sz)) R Z B J T Pi w := hO.to rfl
      exact W.iret (v := ((B 10) t9)) hx hb hr (fun t99 ht99 hW99 => ⟨⟨_, (w, ((B 10) t9)), rfl, ⟨rfl, hO⟩, by rw [ht99]; exact hP, hD⟩, hS.F ht99⟩) hS.2.2 dX10_roleAt_22
theorem dX10_typeAt_0 : decode cX10_typeAt 0 = .ok (.iload_n 1, 1) := by decide +kernel
theorem dX10_typeAt_1 : decode cX10_typeAt 1 = .ok (.ifCond .lt 20, 3) := by decide +kernel
theorem dX10_typeAt_21 : decode cX10_typeAt 21 = .ok (.bipush 63, 2) := by decide +kernel
theorem dX10_typeAt_23 : decode cX10_typeAt 23 = .ok (.ireturn, 1) := by decide +kernel
theorem dX10_typeAt_4 : decode cX10_typeAt 4 = .ok (.iload_n 1, 1) := by decide +kernel
theorem dX10_typeAt_5 : decode cX10_typeAt 5 = .ok (.aload_n 0, 1) := by decide +kernel
theorem dX10_typeAt_6 : decode cX10_typeAt 6 = .ok (.getfield 84, 3) := by decide +kernel
theorem dX10_typeAt_9 : decode cX10_typeAt 9 = .ok (.if_icmp .ge 12, 3) := by decide +kernel
theorem dX10_typeAt_12 : decode cX10_typeAt 12 = .ok (.aload_n 0, 1) := by decide +kernel
theorem dX10_typeAt_13 : decode cX10_typeAt 13 = .ok (.getfield 48, 3) := by decide +kernel
theorem dX10_typeAt_16 : decode cX10_typeAt 16 = .ok (.iload_n 1, 1) := by decide +kernel
theorem dX10_typeAt_17 : decode cX10_typeAt 17 = .ok (.iaload, 1) := by decide +kernel
theorem dX10_typeAt_18 : decode cX10_typeAt 18 = .ok (.goto 5, 3) := by decide +kernel
set_option maxHeartbeats 2000000 in
set_option maxRecDepth 100000 in
theorem K_typeAt (l : Launch) (G : pT) (h0 : Nat) (a : Nat → Nat) (F : Nat → Int32) (R : Nat → Value) (Z : Int64) (B : Nat → Nat → Int32) (J : Nat → Nat → Int64) (T : Nat → Nat) (Pi : Nat → va_E → Prop) (w : va_W) (x : Int32) (sz : Nat) (hsz : sz ≤ 5000) (hO : OKW G h0 a (upd F 2 (nI sz)) R Z B J T Pi w) : PM l G pX0 yX10_typeAt cX10_typeAt 2 (some .int) ({ frames := 2, cells := 0, slots := 0, locals := 60 }) [.ref (a 1), .int x] w (fun (v : Option Value) (u : va_W × (Int32)) => v = some (.int u.2) ∧ (OKW G h0 a (upd F 2 (nI sz)) R Z B J T Pi u.1)) (fun u => u.1) := by
  intro sz
  refine Met.ofW (cc := cX10_typeAt) (maxL := 2) (ret := (some .int)) (by decide) rfl ?_
  intro p e s m args below meth c s₁ B9 hml hv
  obtain ⟨rfl, hsz, hP, hD0, hE, hX⟩ := hv
  have hx := B9.exec
  have hb := B9.bytes
  have hr := B9.returns
  have hts := atoms_spec (ws := Cond.code yX10_typeAt cX10_typeAt 2 (some .int) :: pw) B9.pre
  have hq : ∀ w ∈ pw, w.before _ s = true := fun w h => hts w (List.mem_cons_of_mem _ h)
  have hown : s.vm.findClass RX10 = some m.cls := findClass_of_methodNamed B9.named
  have hlocks := B9.notSynchronized
  subst hsz
  have hD := hD0.self (sz := s.heap.size)
  have hA : ∀ q : Nat, s.heap.size ≤ q → va_A w s.heap.size q := fun q h => Or.inr h
  generalize va_A w s.heap.size = A at hD hE hA ⊢
  have hS : va_S A s.heap s.heap [] := va_S.rf
  have hl := lv_entry ([.ref (a 1), .int x]) (n := 2) (Nat.le_of_ble_eq_true rfl)
  rw [lg_entry_eq]
  generalize (lg_sl ([.ref (a 1), .int x]) ++ List.replicate (2 - (lg_sl ([.ref (a 1), .int x])).length) Slot.unset).toArray = ls at hl ⊢
  have hl : lv_has ls 2 [(0, .ref (a 1)), (1, .int x)] := hl
  refine lv_iload_n hx hb dX10_typeAt_0 rfl (lv_at hl 1 rfl) ?_
  refine lv_if_lt (tgt := 21) hx hb dX10_typeAt_1 (by decide) (fun c1 => ?_) (fun c1 => ?_)
  · refine lv_bipush (v := 63) hx hb dX10_typeAt_21 (by decide) ?_
    have hO : OKW G h0 a (upd F 2 (nI sz)) R Z B J T Pi w := hO.to rfl
    exact W.iret (v := 63) hx hb hr (fun t99 ht99 hW99 => ⟨⟨_, (w, (63 : Int32)), rfl, ⟨rfl, hO⟩, by rw [ht99]; exact hP, hD⟩, hS.F ht99⟩) hS.2.2 dX10_typeAt_23
  · obtain ⟨t9, ht_t9, hb_t9⟩ := nI_nn2 c1
    rw [ht_t9] at hl
    refine lv_iload_n hx hb dX10_typeAt_4 rfl (lv_at hl 1 rfl) ?_
    refine lv_aload_n hx hb dX10_typeAt_5 rfl (lv_at hl 0 rfl) ?_
    refine c_get (v := .int (nI sz)) (C := RX10) (Tc := TX10) (N := 15) (ci := 7) hx hb hq pin_wsX100 hown hE hP hO 2 (sg_2 G h0 a _ _ _ _ _) rfl 8 (by decide) (hq _ pw_37) (fun _ h9 => h9) rfl dX10_typeAt_6 ?_
    refine lv_icmp_ge (tgt := 21) hx hb dX10_typeAt_9 (by decide) (fun c2 => ?_) (fun c2 => ?_)
    · have n3 : sz ≤ t9 := (nI_leI (a := sz) (b := t9) (by omega) (by omega)).mp c2
      refine lv_bipush (v := 63) hx hb dX10_typeAt_21 (by decide) ?_
      have hO : OKW G h0 a (upd F 2 (nI sz)) R Z B J T Pi w := hO.to rfl
      exact W.iret (v := 63) hx hb hr (fun t99 ht99 hW99 => ⟨⟨_, (w, (63 : Int32)), rfl, ⟨rfl, hO⟩, by rw [ht99]; exact hP, hD⟩, hS.F ht99⟩) hS.2.2 dX10_typeAt_23
    · have n4 : ¬ (sz ≤ t9) := fun h9 => c2 ((nI_leI (a := sz) (b := t9) (by omega) (by omega)).mpr h9)
      refine lv_aload_n hx hb dX10_typeAt_12 rfl (lv_at hl 0 rfl) ?_
      refine c_get (v := .ref (a 11)) (C := RX10) (Tc := TX10) (N := 15) (ci := 7) hx hb hq pin_wsX100 hown hE hP hO 2 (sg_2 G h0 a _ _ _ _ _) rfl 7 (by decide) (hq _ pw_38) (fun _ h9 => h9) rfl dX10_typeAt_13 ?_
      refine lv_iload_n hx hb dX10_typeAt_16 rfl (lv_at hl 1 rfl) ?_
      refine c_ldi (f := (B 11)) (n := 5000) (t0 := 0) hx hb hE hP hO 8 (sg_8 G h0 a _ _ _ _ _) rfl (vp_in_nI (by omega) (by decide)) dX10_typeAt_17 ?_
      rw [(nI_clamp (show t9 < 2 ^ 31 by omega))]
      refine lv_goto (tgt := 23) hx hb dX10_typeAt_18 (by decide) ?_
      have hO : OKW G h0 a (upd F 2 (nI sz)) R Z B J T Pi w := hO.to rfl
      exact W.iret (v := ((B 11) t9)) hx hb hr (fun t99 ht99 hW99 => ⟨⟨_, (w, ((B 11) t9)), rfl, ⟨rfl, hO⟩, by rw [ht99]; exact hP, hD⟩, hS.F ht99⟩) hS.2.2 dX10_typeAt_23
theorem dX10_giveRole_0 : decode cX10_giveRole 0 = .ok (.iload_n 1, 1) := by decide +kernel
theorem dX10_giveRole_1 : decode cX10_giveRole 1 = .ok (.ifCond .lt 19, 3) := by decide +kernel
theorem dX10_giveRole_20 : decode cX10_giveRole 20 = .ok (.return_, 1) := by decide +kernel
theorem dX10_giveRole_4 : decode cX10_giveRole 4 = .ok (.iload_n 1, 1) := by decide +kernel
theorem dX10_giveRole_5 : decode cX10_giveRole 5 = .ok (.aload_n 0, 1) := by decide +kernel
theorem dX10_giveRole_6 : decode cX10_giveRole 6 = .ok (.getfield 84, 3) := by decide +kernel
theorem dX10_giveRole_9 : decode cX10_giveRole 9 = .ok (.if_icmp .ge 11, 3) := by decide +kernel
theorem dX10_giveRole_12 : decode cX10_giveRole 12 = .ok (.aload_n 0, 1) := by decide +kernel
theorem dX10_giveRole_13 : decode cX10_giveRole 13 = .ok (.getfield 45, 3) := by decide +kernel
theorem dX10_giveRole_16 : decode cX10_giveRole 16 = .ok (.iload_n 1, 1) := by decide +kernel
theorem dX10_giveRole_17 : decode cX10_giveRole 17 = .ok (.iload_n 2, 1) := by decide +kernel
theorem dX10_giveRole_18 : decode cX10_giveRole 18 = .ok (.i2b, 1) := by decide +kernel
theorem dX10_giveRole_19 : decode cX10_giveRole 19 = .ok (.bastore, 1) := by decide +kernel
set_option maxHeartbeats 2000000 in
set_option maxRecDepth 100000 in
theorem K_giveRole (l : Launch) (G : pT) (h0 : Nat) (a : Nat → Nat) (F : Nat → Int32) (R : Nat → Value) (Z : Int64) (B : Nat → Nat → Int32) (J : Nat → Nat → Int64) (T : Nat → Nat) (Pi : Nat → va_E → Prop) (w : va_W) (x : Int32) (y : Int32) (sz : Nat) (hsz : sz ≤ 5000) (hO : OKW G h0 a (upd F 2 (nI sz)) R Z B J T Pi w) : PM l G pX0 yX10_giveRole cX10_giveRole 3 none ({ frames := 2, cells := 0, slots := 0, locals := 60 }) [.ref (a 1), .int x, .int y] w (fun (v : Option Value) (u : va_W × ((Nat → Int32))) => v = none ∧ (OKW G h0 a (upd F 2 (nI sz)) R Z (updA B 10 u.2) J T Pi u.1)) (fun u => u.1) := by
  intro sz
  refine Met.ofW (cc := cX10_giveRole) (maxL := 3) (ret := none) (by decide) rfl ?_
  intro p e s m args below meth c s₁ B9 hml hv
  obtain ⟨rfl, hsz, hP, hD0, hE, hX⟩ := hv
  have hx := B9.exec
  have hb := B9.bytes
  have hr := B9.returns
  have hts := atoms_spec (ws := Cond.code yX10_giveRole cX10_giveRole 3 none :: pw) B9.pre
  have hq : ∀ w ∈ pw, w.before _ s = true := fun w h => hts w (List.mem_cons_of_mem _ h)
  have hown : s.vm.findClass RX10 = some m.cls := findClass_of_methodNamed B9.named
  have hlocks := B9.notSynchronized
  subst hsz
  have hD := hD0.self (sz := s.heap.size)
  have hA : ∀ q : Nat, s.heap.size ≤ q → va_A w s.heap.size q := fun q h => Or.inr h
  generalize va_A w s.heap.size = A at hD hE hA ⊢
  have hS : va_S A s.heap s.heap [] := va_S.rf
  have hl := lv_entry ([.ref (a 1), .int x, .int y]) (n := 3) (Nat.le_of_ble_eq_true rfl)
  rw [lg_entry_eq]
  generalize (lg_sl ([.ref (a 1), .int x, .int y]) ++ List.replicate (3 - (lg_sl ([.ref (a 1), .int x, .int y])).length) Slot.unset).toArray = ls at hl ⊢
  have hl : lv_has ls 3 [(0, .ref (a 1)), (1, .int x), (2, .int y)] := hl
  refine lv_iload_n hx hb dX10_giveRole_0 rfl (lv_at hl 1 rfl) ?_
  refine lv_if_lt (tgt := 20) hx hb dX10_giveRole_1 (by decide) (fun c1 => ?_) (fun c1 => ?_)
  · have hO : OKW G h0 a (upd F 2 (nI sz)) R Z (updA B 10 (B 10)) J T Pi w := hO.to rfl
    exact W.vret hx hb hr (fun t99 ht99 hW99 => ⟨⟨_, (w, (B 10)), rfl, ⟨rfl, hO⟩, by rw [ht99]; exact hP, hD⟩, hS.F ht99⟩) hS.2.2 dX10_giveRole_20
  · obtain ⟨t9, ht_t9, hb_t9⟩ := nI_nn2 c1
    rw [ht_t9] at hl
    refine lv_iload_n hx hb dX10_giveRole_4 rfl (lv_at hl 1 rfl) ?_
    refine lv_aload_n hx hb dX10_giveRole_5 rfl (lv_at hl 0 rfl) ?_
    refine c_get (v := .int (nI sz)) (C := RX10) (Tc := TX10) (N := 15) (ci := 7) hx hb hq pin_wsX100 hown hE hP hO 2 (sg_2 G h0 a _ _ _ _ _) rfl 8 (by decide) (hq _ pw_37) (fun _ h9 => h9) rfl dX10_giveRole_6 ?_
    refine lv_icmp_ge (tgt := 20) hx hb dX10_giveRole_9 (by decide) (fun c2 => ?_) (fun c2 => ?_)
    · have n3 : sz ≤ t9 := (nI_leI (a := sz) (b := t9) (by omega) (by omega)).mp c2
      have hO : OKW G h0 a (upd F 2 (nI sz)) R Z (updA B 10 (B 10)) J T Pi w := hO.to rfl
      exact W.vret hx hb hr (fun t99 ht99 hW99 => ⟨⟨_, (w, (B 10)), rfl, ⟨rfl, hO⟩, by rw [ht99]; exact hP, hD⟩, hS.F ht99⟩) hS.2.2 dX10_giveRole_20
    · have n4 : ¬ (sz ≤ t9) := fun h9 => c2 ((nI_leI (a := sz) (b := t9) (by omega) (by omega)).mpr h9)
      refine lv_aload_n hx hb dX10_giveRole_12 rfl (lv_at hl 0 rfl) ?_
      refine c_get (v := .ref (a 10)) (C := RX10) (Tc := TX10) (N := 15) (ci := 7) hx hb hq pin_wsX100 hown hE hP hO 2 (sg_2 G h0 a _ _ _ _ _) rfl 6 (by decide) (hq _ pw_820) (fun _ h9 => h9) rfl dX10_giveRole_13 ?_
      refine lv_iload_n hx hb dX10_giveRole_16 rfl (lv_at hl 1 rfl) ?_
      refine lv_iload_n hx hb dX10_giveRole_17 rfl (lv_at hl 2 rfl) ?_
      refine lv_i2b hx hb dX10_giveRole_18 rfl ?_
      refine lv_topi (fun x5 e6 => ?_)
      refine c_stb (f := (B 10)) (n := 5000) (t0 := 1) hx hb hE hP hD hS hO 7 (sg_7 G h0 a _ _ _ _ _) rfl (vp_in_nI (by omega) (by decide)) (sb_10 G h0 a _ _ _ _ _ _) dX10_giveRole_19 (fun H locs w hP hD hS hO => ?_)
      rw [(nI_clamp (show t9 < 2 ^ 31 by omega))] at hO
      have hO : OKW G h0 a (upd F 2 (nI sz)) R Z (updA B 10 (upd (B 10) t9 (vp_nar .byte x5))) J T Pi w := hO.to rfl
      exact W.vret hx hb hr (fun t99 ht99 hW99 => ⟨⟨_, (w, (upd (B 10) t9 (vp_nar .byte x5))), rfl, ⟨rfl, hO⟩, by rw [ht99]; exact hP, hD⟩, hS.F ht99⟩) hS.2.2 dX10_giveRole_20
theorem dX10_giveType_0 : decode cX10_giveType 0 = .ok (.iload_n 1, 1) := by decide +kernel
theorem dX10_giveType_1 : decode cX10_giveType 1 = .ok (.ifCond .lt 18, 3) := by decide +kernel
theorem dX10_giveType_19 : decode cX10_giveType 19 = .ok (.return_, 1) := by decide +kernel
theorem dX10_giveType_4 : decode cX10_giveType 4 = .ok (.iload_n 1, 1) := by decide +kernel
theorem dX10_giveType_5 : decode cX10_giveType 5 = .ok (.aload_n 0, 1) := by decide +kernel
theorem dX10_giveType_6 : decode cX10_giveType 6 = .ok (.getfield 84, 3) := by decide +kernel
theorem dX10_giveType_9 : decode cX10_giveType 9 = .ok (.if_icmp .ge 10, 3) := by decide +kernel
theorem dX10_giveType_12 : decode cX10_giveType 12 = .ok (.aload_n 0, 1) := by decide +kernel
theorem dX10_giveType_13 : decode cX10_giveType 13 = .ok (.getfield 48, 3) := by decide +kernel
theorem dX10_giveType_16 : decode cX10_giveType 16 = .ok (.iload_n 1, 1) := by decide +kernel
theorem dX10_giveType_17 : decode cX10_giveType 17 = .ok (.iload_n 2, 1) := by decide +kernel
theorem dX10_giveType_18 : decode cX10_giveType 18 = .ok (.iastore, 1) := by decide +kernel
set_option maxHeartbeats 2000000 in
set_option maxRecDepth 100000 in
theorem K_giveType (l : Launch) (G : pT) (h0 : Nat) (a : Nat → Nat) (F : Nat → Int32) (R : Nat → Value) (Z : Int64) (B : Nat → Nat → Int32) (J : Nat → Nat → Int64) (T : Nat → Nat) (Pi : Nat → va_E → Prop) (w : va_W) (x : Int32) (y : Int32) (sz : Nat) (hsz : sz ≤ 5000) (hO : OKW G h0 a (upd F 2 (nI sz)) R Z B J T Pi w) : PM l G pX0 yX10_giveType cX10_giveType 3 none ({ frames := 2, cells := 0, slots := 0, locals := 60 }) [.ref (a 1), .int x, .int y] w (fun (v : Option Value) (u : va_W × ((Nat → Int32))) => v = none ∧ (OKW G h0 a (upd F 2 (nI sz)) R Z (updA B 11 u.2) J T Pi u.1)) (fun u => u.1) := by
  intro sz
  refine Met.ofW (cc := cX10_giveType) (maxL := 3) (ret := none) (by decide) rfl ?_
  intro p e s m args below meth c s₁ B9 hml hv
  obtain ⟨rfl, hsz, hP, hD0, hE, hX⟩ := hv
  have hx := B9.exec
  have hb := B9.bytes
  have hr := B9.returns
  have hts := atoms_spec (ws := Cond.code yX10_giveType cX10_giveType 3 none :: pw) B9.pre
  have hq : ∀ w ∈ pw, w.before _ s = true := fun w h => hts w (List.mem_cons_of_mem _ h)
  have hown : s.vm.findClass RX10 = some m.cls := findClass_of_methodNamed B9.named
  have hlocks := B9.notSynchronized
  subst hsz
  have hD := hD0.self (sz := s.heap.size)
  have hA : ∀ q : Nat, s.heap.size ≤ q → va_A w s.heap.size q := fun q h => Or.inr h
  generalize va_A w s.heap.size = A at hD hE hA ⊢
  have hS : va_S A s.heap s.heap [] := va_S.rf
  have hl := lv_entry ([.ref (a 1), .int x, .int y]) (n := 3) (Nat.le_of_ble_eq_true rfl)
  rw [lg_entry_eq]
  generalize (lg_sl ([.ref (a 1), .int x, .int y]) ++ List.replicate (3 - (lg_sl ([.ref (a 1), .int x, .int y])).length) Slot.unset).toArray = ls at hl ⊢
  have hl : lv_has ls 3 [(0, .ref (a 1)), (1, .int x), (2, .int y)] := hl
  refine lv_iload_n hx hb dX10_giveType_0 rfl (lv_at hl 1 rfl) ?_
  refine lv_if_lt (tgt := 19) hx hb dX10_giveType_1 (by decide) (fun c1 => ?_) (fun c1 => ?_)
  · have hO : OKW G h0 a (upd F 2 (nI sz)) R Z (updA B 11 (B 11)) J T Pi w := hO.to rfl
    exact W.vret hx hb hr (fun t99 ht99 hW99 => ⟨⟨_, (w, (B 11)), rfl, ⟨rfl, hO⟩, by rw [ht99]; exact hP, hD⟩, hS.F ht99⟩) hS.2.2 dX10_giveType_19
  · obtain ⟨t9, ht_t9, hb_t9⟩ := nI_nn2 c1
    rw [ht_t9] at hl
    refine lv_iload_n hx hb dX10_giveType_4 rfl (lv_at hl 1 rfl) ?_
    refine lv_aload_n hx hb dX10_giveType_5 rfl (lv_at hl 0 rfl) ?_
    refine c_get (v := .int (nI sz)) (C := RX10) (Tc := TX10) (N := 15) (ci := 7) hx hb hq pin_wsX100 hown hE hP hO 2 (sg_2 G h0 a _ _ _ _ _) rfl 8 (by decide) (hq _ pw_37) (fun _ h9 => h9) rfl dX10_giveType_6 ?_
    refine lv_icmp_ge (tgt := 19) hx hb dX10_giveType_9 (by decide) (fun c2 => ?_) (fun c2 => ?_)
    · have n3 : sz ≤ t9 := (nI_leI (a := sz) (b := t9) (by omega) (by omega)).mp c2
      have hO : OKW G h0 a (upd F 2 (nI sz)) R Z (updA B 11 (B 11)) J T Pi w := hO.to rfl
      exact W.vret hx hb hr (fun t99 ht99 hW99 => ⟨⟨_, (w, (B 11)), rfl, ⟨rfl, hO⟩, by rw [ht99]; exact hP, hD⟩, hS.F ht99⟩) hS.2.2 dX10_giveType_19
    · have n4 : ¬ (sz ≤ t9) := fun h9 => c2 ((nI_leI (a := sz) (b := t9) (by omega) (by omega)).mpr h9)
      refine lv_aload_n hx hb dX10_giveType_12 rfl (lv_at hl 0 rfl) ?_
      refine c_get (v := .ref (a 11)) (C := RX10) (Tc := TX10) (N := 15) (ci := 7) hx hb hq pin_wsX100 hown hE hP hO 2 (sg_2 G h0 a _ _ _ _ _) rfl 7 (by decide) (hq _ pw_38) (fun _ h9 => h9) rfl dX10_giveType_13 ?_
      refine lv_iload_n hx hb dX10_giveType_16 rfl (lv_at hl 1 rfl) ?_
      refine lv_iload_n hx hb dX10_giveType_17 rfl (lv_at hl 2 rfl) ?_
      refine c_sti (f := (B 11)) (n := 5000) (t0 := 0) hx hb hE hP hD hS hO 8 (sg_8 G h0 a _ _ _ _ _) rfl (vp_in_nI (by omega) (by decide)) (sb_11 G h0 a _ _ _ _ _ _) dX10_giveType_18 (fun H locs w hP hD hS hO => ?_)
      rw [(nI_clamp (show t9 < 2 ^ 31 by omega))] at hO
      have hO : OKW G h0 a (upd F 2 (nI sz)) R Z (updA B 11 (upd (B 11) t9 y)) J T Pi w := hO.to rfl
      exact W.vret hx hb hr (fun t99 ht99 hW99 => ⟨⟨_, (w, (upd (B 11) t9 y)), rfl, ⟨rfl, hO⟩, by rw [ht99]; exact hP, hD⟩, hS.F ht99⟩) hS.2.2 dX10_giveType_19
theorem dX10_byteAt_0 : decode cX10_byteAt 0 = .ok (.iload_n 1, 1) := by decide +kernel
theorem dX10_byteAt_1 : decode cX10_byteAt 1 = .ok (.ifCond .lt 29, 3) := by decide +kernel
theorem dX10_byteAt_30 : decode cX10_byteAt 30 = .ok (.iconst (-1), 1) := by decide +kernel
theorem dX10_byteAt_31 : decode cX10_byteAt 31 = .ok (.ireturn, 1) := by decide +kernel
theorem dX10_byteAt_4 : decode cX10_byteAt 4 = .ok (.iload_n 1, 1) := by decide +kernel
theorem dX10_byteAt_5 : decode cX10_byteAt 5 = .ok (.aload_n 0, 1) := by decide +kernel
theorem dX10_byteAt_6 : decode cX10_byteAt 6 = .ok (.getfield 76, 3) := by decide +kernel
theorem dX10_byteAt_9 : decode cX10_byteAt 9 = .ok (.if_icmp .ge 21, 3) := by decide +kernel
theorem dX10_byteAt_12 : decode cX10_byteAt 12 = .ok (.aload_n 0, 1) := by decide +kernel
theorem dX10_byteAt_13 : decode cX10_byteAt 13 = .ok (.getfield 27, 3) := by decide +kernel
theorem dX10_byteAt_16 : decode cX10_byteAt 16 = .ok (.aload_n 0, 1) := by decide +kernel
theorem dX10_byteAt_17 : decode cX10_byteAt 17 = .ok (.getfield 23, 3) := by decide +kernel
theorem dX10_byteAt_20 : decode cX10_byteAt 20 = .ok (.iload_n 1, 1) := by decide +kernel
theorem dX10_byteAt_21 : decode cX10_byteAt 21 = .ok (.iadd, 1) := by decide +kernel
theorem dX10_byteAt_22 : decode cX10_byteAt 22 = .ok (.baload, 1) := by decide +kernel
theorem dX10_byteAt_23 : decode cX10_byteAt 23 = .ok (.sipush 255, 3) := by decide +kernel
theorem dX10_byteAt_26 : decode cX10_byteAt 26 = .ok (.iand, 1) := by decide +kernel
theorem dX10_byteAt_27 : decode cX10_byteAt 27 = .ok (.goto 4, 3) := by decide +kernel
set_option maxHeartbeats 2000000 in
set_option maxRecDepth 100000 in
theorem K_byteAt (l : Launch) (G : pT) (h0 : Nat) (a : Nat → Nat) (F : Nat → Int32) (R : Nat → Value) (Z : Int64) (B : Nat → Nat → Int32) (J : Nat → Nat → Int64) (T : Nat → Nat) (Pi : Nat → va_E → Prop) (w : va_W) (x : Int32) (ln : Nat) (hln : ln ≤ 5000) (hO : OKW G h0 a (upd F 1 (nI ln)) R Z B J T Pi w) : PM l G pX0 yX10_byteAt cX10_byteAt 2 (some .int) ({ frames := 2, cells := 0, slots := 0, locals := 60 }) [.ref (a 1), .int x] w (fun (v : Option Value) (u : va_W × (Int32)) => v = some (.int u.2) ∧ (OKW G h0 a (upd F 1 (nI ln)) R Z B J T Pi u.1)) (fun u => u.1) := by
  intro sz
  refine Met.ofW (cc := cX10_byteAt) (maxL := 2) (ret := (some .int)) (by decide) rfl ?_
  intro p e s m args below meth c s₁ B9 hml hv
  obtain ⟨rfl, hsz, hP, hD0, hE, hX⟩ := hv
  have hx := B9.exec
  have hb := B9.bytes
  have hr := B9.returns
  have hts := atoms_spec (ws := Cond.code yX10_byteAt cX10_byteAt 2 (some .int) :: pw) B9.pre
  have hq : ∀ w ∈ pw, w.before _ s = true := fun w h => hts w (List.mem_cons_of_mem _ h)
  have hown : s.vm.findClass RX10 = some m.cls := findClass_of_methodNamed B9.named
  have hlocks := B9.notSynchronized
  subst hsz
  have hD := hD0.self (sz := s.heap.size)
  have hA : ∀ q : Nat, s.heap.size ≤ q → va_A w s.heap.size q := fun q h => Or.inr h
  generalize va_A w s.heap.size = A at hD hE hA ⊢
  have hS : va_S A s.heap s.heap [] := va_S.rf
  have hl := lv_entry ([.ref (a 1), .int x]) (n := 2) (Nat.le_of_ble_eq_true rfl)
  rw [lg_entry_eq]
  generalize (lg_sl ([.ref (a 1), .int x]) ++ List.replicate (2 - (lg_sl ([.ref (a 1), .int x])).length) Slot.unset).toArray = ls at hl ⊢
  have hl : lv_has ls 2 [(0, .ref (a 1)), (1, .int x)] := hl
  refine lv_iload_n hx hb dX10_byteAt_0 rfl (lv_at hl 1 rfl) ?_
  refine lv_if_lt (tgt := 30) hx hb dX10_byteAt_1 (by decide) (fun c1 => ?_) (fun c1 => ?_)
  · refine lv_iconst (v := (-1)) hx hb dX10_byteAt_30 (by decide) ?_
    have hO : OKW G h0 a (upd F 1 (nI ln)) R Z B J T Pi w := hO.to rfl
    exact W.iret (v := (-1)) hx hb hr (fun t99 ht99 hW99 => ⟨⟨_, (w, ((-1) : Int32)), rfl, ⟨rfl, hO⟩, by rw [ht99]; exact hP, hD⟩, hS.F ht99⟩) hS.2.2 dX10_byteAt_31
  · obtain ⟨t9, ht_t9, hb_t9⟩ := nI_nn2 c1
    rw [ht_t9] at hl
    refine lv_iload_n hx hb dX10_byteAt_4 rfl (lv_at hl 1 rfl) ?_
    refine lv_aload_n hx hb dX10_byteAt_5 rfl (lv_at hl 0 rfl) ?_
    refine c_get (v := .int (nI ln)) (C := RX10) (Tc := TX10) (N := 15) (ci := 7) hx hb hq pin_wsX100 hown hE hP hO 2 (sg_2 G h0 a _ _ _ _ _) rfl 2 (by decide) (hq _ pw_47) (fun _ h9 => h9) rfl dX10_byteAt_6 ?_
    refine lv_icmp_ge (tgt := 30) hx hb dX10_byteAt_9 (by decide) (fun c2 => ?_) (fun c2 => ?_)
    · have n3 : ln ≤ t9 := (nI_leI (a := ln) (b := t9) (by omega) (by omega)).mp c2
      refine lv_iconst (v := (-1)) hx hb dX10_byteAt_30 (by decide) ?_
      have hO : OKW G h0 a (upd F 1 (nI ln)) R Z B J T Pi w := hO.to rfl
      exact W.iret (v := (-1)) hx hb hr (fun t99 ht99 hW99 => ⟨⟨_, (w, ((-1) : Int32)), rfl, ⟨rfl, hO⟩, by rw [ht99]; exact hP, hD⟩, hS.F ht99⟩) hS.2.2 dX10_byteAt_31
    · have n4 : ¬ (ln ≤ t9) := fun h9 => c2 ((nI_leI (a := ln) (b := t9) (by omega) (by omega)).mpr h9)
      refine lv_aload_n hx hb dX10_byteAt_12 rfl (lv_at hl 0 rfl) ?_
      refine c_get (v := .ref (a 6)) (C := RX10) (Tc := TX10) (N := 15) (ci := 7) hx hb hq pin_wsX100 hown hE hP hO 2 (sg_2 G h0 a _ _ _ _ _) rfl 0 (by decide) (hq _ pw_1234) (fun _ h9 => h9) rfl dX10_byteAt_13 ?_
      refine lv_aload_n hx hb dX10_byteAt_16 rfl (lv_at hl 0 rfl) ?_
      refine c_get (v := .int 220) (C := RX10) (Tc := TX10) (N := 15) (ci := 7) hx hb hq pin_wsX100 hown hE hP hO 2 (sg_2 G h0 a _ _ _ _ _) rfl 1 (by decide) (hq _ pw_1243) (fun _ h9 => h9) rfl dX10_byteAt_17 ?_
      refine lv_iload_n hx hb dX10_byteAt_20 rfl (lv_at hl 1 rfl) ?_
      refine lv_iadd hx hb dX10_byteAt_21 ?_
      refine lv_topi (fun x5 e6 => ?_)
      obtain rfl : x5 = nI (220 + t9) := e6.trans (nI_add (220) (t9))
      refine c_ldb (f := (B 6)) (n := 5220) (t0 := 1) hx hb hE hP hO 3 (sg_3 G h0 a _ _ _ _ _) rfl (vp_in_nI (by omega) (by decide)) dX10_byteAt_22 ?_
      rw [(nI_clamp (show (220 + t9) < 2 ^ 31 by omega))]
      refine lv_topi (fun x7 e8 => ?_)
      refine lv_sipush (v := 255) hx hb dX10_byteAt_23 (by decide) ?_
      refine lv_iand hx hb dX10_byteAt_26 ?_
      refine lv_topi (fun x9 e10 => ?_)
      refine lv_goto (tgt := 31) hx hb dX10_byteAt_27 (by decide) ?_
      have hO : OKW G h0 a (upd F 1 (nI ln)) R Z B J T Pi w := hO.to rfl
      exact W.iret (v := x9) hx hb hr (fun t99 ht99 hW99 => ⟨⟨_, (w, x9), rfl, ⟨rfl, hO⟩, by rw [ht99]; exact hP, hD⟩, hS.F ht99⟩) hS.2.2 dX10_byteAt_31
theorem dX10_isSpelledAlike_0 : decode cX10_isSpelledAlike 0 = .ok (.iconst 0, 1) := by decide +kernel
theorem dX10_isSpelledAlike_1 : decode cX10_isSpelledAlike 1 = .ok (.istore 4, 2) := by decide +kernel
theorem dX10_isSpelledAlike_3 : decode cX10_isSpelledAlike 3 = .ok (.iload 4, 2) := by decide +kernel
theorem dX10_isSpelledAlike_5 : decode cX10_isSpelledAlike 5 = .ok (.iload_n 3, 1) := by decide +kernel
theorem dX10_isSpelledAlike_6 : decode cX10_isSpelledAlike 6 = .ok (.if_icmp .ge 32, 3) := by decide +kernel
theorem dX10_isSpelledAlike_38 : decode cX10_isSpelledAlike 38 = .ok (.iconst 1, 1) := by decide +kernel
theorem dX10_isSpelledAlike_39 : decode cX10_isSpelledAlike 39 = .ok (.ireturn, 1) := by decide +kernel
theorem dX10_isSpelledAlike_9 : decode cX10_isSpelledAlike 9 = .ok (.aload_n 0, 1) := by decide +kernel
theorem dX10_isSpelledAlike_10 : decode cX10_isSpelledAlike 10 = .ok (.getfield 27, 3) := by decide +kernel
theorem dX10_isSpelledAlike_13 : decode cX10_isSpelledAlike 13 = .ok (.iload_n 1, 1) := by decide +kernel
theorem dX10_isSpelledAlike_14 : decode cX10_isSpelledAlike 14 = .ok (.iload 4, 2) := by decide +kernel
theorem dX10_isSpelledAlike_16 : decode cX10_isSpelledAlike 16 = .ok (.iadd, 1) := by decide +kernel
theorem dX10_isSpelledAlike_17 : decode cX10_isSpelledAlike 17 = .ok (.baload, 1) := by decide +kernel
theorem dX10_isSpelledAlike_18 : decode cX10_isSpelledAlike 18 = .ok (.aload_n 0, 1) := by decide +kernel
theorem dX10_isSpelledAlike_19 : decode cX10_isSpelledAlike 19 = .ok (.getfield 27, 3) := by decide +kernel
theorem dX10_isSpelledAlike_22 : decode cX10_isSpelledAlike 22 = .ok (.iload_n 2, 1) := by decide +kernel
theorem dX10_isSpelledAlike_23 : decode cX10_isSpelledAlike 23 = .ok (.iload 4, 2) := by decide +kernel
theorem dX10_isSpelledAlike_25 : decode cX10_isSpelledAlike 25 = .ok (.iadd, 1) := by decide +kernel
theorem dX10_isSpelledAlike_26 : decode cX10_isSpelledAlike 26 = .ok (.baload, 1) := by decide +kernel
theorem dX10_isSpelledAlike_27 : decode cX10_isSpelledAlike 27 = .ok (.if_icmp .eq 5, 3) := by decide +kernel
theorem dX10_isSpelledAlike_32 : decode cX10_isSpelledAlike 32 = .ok (.iinc 4 1, 3) := by decide +kernel
theorem dX10_isSpelledAlike_35 : decode cX10_isSpelledAlike 35 = .ok (.goto (-32), 3) := by decide +kernel
theorem dX10_isSpelledAlike_30 : decode cX10_isSpelledAlike 30 = .ok (.iconst 0, 1) := by decide +kernel
theorem dX10_isSpelledAlike_31 : decode cX10_isSpelledAlike 31 = .ok (.ireturn, 1) := by decide +kernel
set_option maxHeartbeats 2000000 in
set_option maxRecDepth 100000 in
theorem K_alike (l : Launch) (G : pT) (h0 : Nat) (a : Nat → Nat) (F : Nat → Int32) (R : Nat → Value) (Z : Int64) (B : Nat → Nat → Int32) (J : Nat → Nat → Int64) (T : Nat → Nat) (Pi : Nat → va_E → Prop) (w : va_W) (o9 : Nat) (t9 : Nat) (n9 : Nat) (h1 : o9 + n9 ≤ 5220) (h2 : t9 + n9 ≤ 5220) (hO : OKW G h0 a F R Z B J T Pi w) : PM l G pX0 yX10_isSpelledAlike cX10_isSpelledAlike 5 (some .boolean) ({ frames := 2, cells := 0, slots := 0, locals := 60 }) [.ref (a 1), .int (nI o9), .int (nI t9), .int (nI n9)] w (fun (v : Option Value) (u : va_W × (Nat)) => v = some (.int (nI u.2)) ∧ (u.2 ≤ 1) ∧ (OKW G h0 a F R Z B J T Pi u.1)) (fun u => u.1) := by
  intro sz
  refine Met.ofW (cc := cX10_isSpelledAlike) (maxL := 5) (ret := (some .boolean)) (by decide) rfl ?_
  intro p e s m args below meth c s₁ B9 hml hv
  obtain ⟨rfl, hsz, hP, hD0, hE, hX⟩ := hv
  have hx := B9.exec
  have hb := B9.bytes
  have hr := B9.returns
  have hts := atoms_spec (ws := Cond.code yX10_isSpelledAlike cX10_isSpelledAlike 5 (some .boolean) :: pw) B9.pre
  have hq : ∀ w ∈ pw, w.before _ s = true := fun w h => hts w (List.mem_cons_of_mem _ h)
  have hown : s.vm.findClass RX10 = some m.cls := findClass_of_methodNamed B9.named
  have hlocks := B9.notSynchronized
  subst hsz
  have hD := hD0.self (sz := s.heap.size)
  have hA : ∀ q : Nat, s.heap.size ≤ q → va_A w s.heap.size q := fun q h => Or.inr h
  generalize va_A w s.heap.size = A at hD hE hA ⊢
  have hS : va_S A s.heap s.heap [] := va_S.rf
  have hl := lv_entry ([.ref (a 1), .int (nI o9), .int (nI t9), .int (nI n9)]) (n := 5) (Nat.le_of_ble_eq_true rfl)
  rw [lg_entry_eq]
  generalize (lg_sl ([.ref (a 1), .int (nI o9), .int (nI t9), .int (nI n9)]) ++ List.replicate (5 - (lg_sl ([.ref (a 1), .int (nI o9), .int (nI t9), .int (nI n9)])).length) Slot.unset).toArray = ls at hl ⊢
  have hl : lv_has ls 5 [(0, .ref (a 1)), (1, .int (nI o9)), (2, .int (nI t9)), (3, .int (nI n9))] := hl
  refine lv_iconst (v := 0) hx hb dX10_isSpelledAlike_0 (by decide) ?_
  refine lv_istore (lv' := [(4, .int 0), (0, .ref (a 1)), (1, .int (nI o9)), (2, .int (nI t9)), (3, .int (nI n9))]) hx hb dX10_isSpelledAlike_1 hl (by decide) rfl (fun ls hl => ?_)
  have loop_i : ∀ (n_i : Nat) (i2 : Nat) (H : Heap) (locs : List Loc) (ls : Array Slot) (w : va_W), i2 ≤ n9 → n9 + 1 ≤ i2 + n_i → va_P G.1 pCl w H → va_D A w → va_S A s.heap H locs → OKW G h0 a F R Z B J T Pi w → lv_has ls 5 [(4, .int (nI i2)), (3, .int (nI n9)), (2, .int (nI t9)), (1, .int (nI o9)), (0, .ref (a 1))] → W p l e (headSpec (Cond.code yX10_isSpelledAlike cX10_isSpelledAlike 5 (some .boolean) :: pw) ({ frames := 2, cells := 0, slots := 0, locals := 60 } : Room)).room s m ([.ref (a 1), .int (nI o9), .int (nI t9), .int (nI n9)] : List Value).toArray below meth c H locs 0 0 (MQ below (pQ G A (fun (v : Option Value) (u : va_W × (Nat)) => v = some (.int (nI u.2)) ∧ (u.2 ≤ 1) ∧ (OKW G h0 a F R Z B J T Pi u.1)) (fun u => u.1)) ([.ref (a 1), .int (nI o9), .int (nI t9), .int (nI n9)] : List Value).toArray s ({ frames := 2, cells := 0, slots := 0, locals := 60 } : Room).cells ({ frames := 2, cells := 0, slots := 0, locals := 60 } : Room).slots A) (F0 m 3 ls []) := by
    intro n_i
    induction n_i with
    | zero => intro i2 H locs ls w hk_i hn_i; omega
    | succ n_i ih_i =>
      intro i2 H locs ls w hk_i hn_i hP hD hS hO hl
      refine lv_iload hx hb dX10_isSpelledAlike_3 (lv_at hl 0 rfl) ?_
      refine lv_iload_n hx hb dX10_isSpelledAlike_5 rfl (lv_at hl 1 rfl) ?_
      refine lv_icmp_ge (tgt := 38) hx hb dX10_isSpelledAlike_6 (by decide) (fun c1 => ?_) (fun c1 => ?_)
      · have n2 : n9 ≤ i2 := (nI_leI (a := n9) (b := i2) (by omega) (by omega)).mp c1
        refine lv_iconst (v := 1) hx hb dX10_isSpelledAlike_38 (by decide) ?_
        have hz3 : 1 ≤ 1 := (by omega)
        have hO : OKW G h0 a F R Z B J T Pi w := hO.to rfl
        exact W.zret (v := 1) hx hb hr rfl (fun t99 ht99 hW99 => ⟨⟨_, (w, 1), rfl, ⟨rfl, hz3, hO⟩, by rw [ht99]; exact hP, hD⟩, hS.F ht99⟩) hS.2.2 dX10_isSpelledAlike_39
      · have n4 : ¬ (n9 ≤ i2) := fun h9 => c1 ((nI_leI (a := n9) (b := i2) (by omega) (by omega)).mpr h9)
        refine lv_aload_n hx hb dX10_isSpelledAlike_9 rfl (lv_at hl 4 rfl) ?_
        refine c_get (v := .ref (a 6)) (C := RX10) (Tc := TX10) (N := 15) (ci := 7) hx hb hq pin_wsX100 hown hE hP hO 2 (sg_2 G h0 a _ _ _ _ _) rfl 0 (by decide) (hq _ pw_1234) (fun _ h9 => h9) rfl dX10_isSpelledAlike_10 ?_
        refine lv_iload_n hx hb dX10_isSpelledAlike_13 rfl (lv_at hl 3 rfl) ?_
        refine lv_iload hx hb dX10_isSpelledAlike_14 (lv_at hl 0 rfl) ?_
        refine lv_iadd hx hb dX10_isSpelledAlike_16 ?_
        refine lv_topi (fun x5 e6 => ?_)
        obtain rfl : x5 = nI (o9 + i2) := e6.trans (nI_add (o9) (i2))
        refine c_ldb (f := (B 6)) (n := 5220) (t0 := 1) hx hb hE hP hO 3 (sg_3 G h0 a _ _ _ _ _) rfl (vp_in_nI (by omega) (by decide)) dX10_isSpelledAlike_17 ?_
        rw [(nI_clamp (show (o9 + i2) < 2 ^ 31 by omega))]
        refine lv_topi (fun x7 e8 => ?_)
        refine lv_aload_n hx hb dX10_isSpelledAlike_18 rfl (lv_at hl 4 rfl) ?_
        refine c_get (v := .ref (a 6)) (C := RX10) (Tc := TX10) (N := 15) (ci := 7) hx hb hq pin_wsX100 hown hE hP hO 2 (sg_2 G h0 a _ _ _ _ _) rfl 0 (by decide) (hq _ pw_1234) (fun _ h9 => h9) rfl dX10_isSpelledAlike_19 ?_
        refine lv_iload_n hx hb dX10_isSpelledAlike_22 rfl (lv_at hl 2 rfl) ?_
        refine lv_iload hx hb dX10_isSpelledAlike_23 (lv_at hl 0 rfl) ?_
        refine lv_iadd hx hb dX10_isSpelledAlike_25 ?_
        refine lv_topi (fun x9 e10 => ?_)
        obtain rfl : x9 = nI (t9 + i2) := e10.trans (nI_add (t9) (i2))
        refine c_ldb (f := (B 6)) (n := 5220) (t0 := 1) hx hb hE hP hO 3 (sg_3 G h0 a _ _ _ _ _) rfl (vp_in_nI (by omega) (by decide)) dX10_isSpelledAlike_26 ?_
        rw [(nI_clamp (show (t9 + i2) < 2 ^ 31 by omega))]
        refine lv_topi (fun x11 e12 => ?_)
        refine lv_icmp_eq (tgt := 32) hx hb dX10_isSpelledAlike_27 (by decide) (fun c13 => ?_) (fun c13 => ?_)
        · refine lv_iinc (v := (nI (i2 + 1))) (lv' := [(4, .int (nI (i2 + 1))), (3, .int (nI n9)), (2, .int (nI t9)), (1, .int (nI o9)), (0, .ref (a 1))]) hx hb dX10_isSpelledAlike_32 hl (k := 0) rfl (nI_1 i2) (by decide) rfl (fun ls hl => ?_)
          refine lv_goto (tgt := 3) hx hb dX10_isSpelledAlike_35 (by decide) ?_
          have hO : OKW G h0 a F R Z B J T Pi w := hO.to rfl
          exact ih_i (i2 + 1) _ _ _ _ (by omega) (by omega) hP hD hS hO (lv_sub hl [0, 1, 2, 3, 4] rfl)
        · refine lv_iconst (v := 0) hx hb dX10_isSpelledAlike_30 (by decide) ?_
          have hz14 : 0 ≤ 1 := (by omega)
          have hO : OKW G h0 a F R Z B J T Pi w := hO.to rfl
          exact W.zret (v := 0) hx hb hr rfl (fun t99 ht99 hW99 => ⟨⟨_, (w, 0), rfl, ⟨rfl, hz14, hO⟩, by rw [ht99]; exact hP, hD⟩, hS.F ht99⟩) hS.2.2 dX10_isSpelledAlike_31
  have hO : OKW G h0 a F R Z B J T Pi w := hO.to rfl
  exact loop_i (n9 + 1) 0 _ _ _ _ (by omega) (by omega) hP hD hS hO (lv_sub hl [0, 4, 3, 2, 1] rfl)
theorem dX10_nameOf_0 : decode cX10_nameOf 0 = .ok (.iconst 0, 1) := by decide +kernel
theorem dX10_nameOf_1 : decode cX10_nameOf 1 = .ok (.istore_n 3, 1) := by decide +kernel
theorem dX10_nameOf_2 : decode cX10_nameOf 2 = .ok (.iload_n 1, 1) := by decide +kernel
theorem dX10_nameOf_3 : decode cX10_nameOf 3 = .ok (.istore 4, 2) := by decide +kernel
theorem dX10_nameOf_5 : decode cX10_nameOf 5 = .ok (.iload 4, 2) := by decide +kernel
theorem dX10_nameOf_7 : decode cX10_nameOf 7 = .ok (.iload_n 1, 1) := by decide +kernel
theorem dX10_nameOf_8 : decode cX10_nameOf 8 = .ok (.iload_n 2, 1) := by decide +kernel
theorem dX10_nameOf_9 : decode cX10_nameOf 9 = .ok (.iadd, 1) := by decide +kernel
theorem dX10_nameOf_10 : decode cX10_nameOf 10 = .ok (.if_icmp .ge 22, 3) := by decide +kernel
theorem dX10_nameOf_32 : decode cX10_nameOf 32 = .ok (.iload_n 3, 1) := by decide +kernel
theorem dX10_nameOf_33 : decode cX10_nameOf 33 = .ok (.sipush 255, 3) := by decide +kernel
theorem dX10_nameOf_36 : decode cX10_nameOf 36 = .ok (.iand, 1) := by decide +kernel
theorem dX10_nameOf_37 : decode cX10_nameOf 37 = .ok (.istore 4, 2) := by decide +kernel
theorem dX10_nameOf_39 : decode cX10_nameOf 39 = .ok (.aload_n 0, 1) := by decide +kernel
theorem dX10_nameOf_40 : decode cX10_nameOf 40 = .ok (.getfield 60, 3) := by decide +kernel
theorem dX10_nameOf_43 : decode cX10_nameOf 43 = .ok (.iload 4, 2) := by decide +kernel
theorem dX10_nameOf_45 : decode cX10_nameOf 45 = .ok (.iaload, 1) := by decide +kernel
theorem dX10_nameOf_46 : decode cX10_nameOf 46 = .ok (.istore 5, 2) := by decide +kernel
theorem dX10_nameOf_48 : decode cX10_nameOf 48 = .ok (.iconst 0, 1) := by decide +kernel
theorem dX10_nameOf_49 : decode cX10_nameOf 49 = .ok (.istore 6, 2) := by decide +kernel
theorem dX10_nameOf_51 : decode cX10_nameOf 51 = .ok (.iload 6, 2) := by decide +kernel
theorem dX10_nameOf_53 : decode cX10_nameOf 53 = .ok (.aload_n 0, 1) := by decide +kernel
theorem dX10_nameOf_54 : decode cX10_nameOf 54 = .ok (.getfield 100, 3) := by decide +kernel
theorem dX10_nameOf_57 : decode cX10_nameOf 57 = .ok (.if_icmp .ge 53, 3) := by decide +kernel
theorem dX10_nameOf_110 : decode cX10_nameOf 110 = .ok (.aload_n 0, 1) := by decide +kernel
theorem dX10_nameOf_111 : decode cX10_nameOf 111 = .ok (.getfield 100, 3) := by decide +kernel
theorem dX10_nameOf_114 : decode cX10_nameOf 114 = .ok (.sipush 2540, 3) := by decide +kernel
theorem dX10_nameOf_117 : decode cX10_nameOf 117 = .ok (.if_icmp .lt 5, 3) := by decide +kernel
theorem dX10_nameOf_122 : decode cX10_nameOf 122 = .ok (.aload_n 0, 1) := by decide +kernel
theorem dX10_nameOf_123 : decode cX10_nameOf 123 = .ok (.getfield 51, 3) := by decide +kernel
theorem dX10_nameOf_126 : decode cX10_nameOf 126 = .ok (.aload_n 0, 1) := by decide +kernel
theorem dX10_nameOf_127 : decode cX10_nameOf 127 = .ok (.getfield 100, 3) := by decide +kernel
theorem dX10_nameOf_130 : decode cX10_nameOf 130 = .ok (.iload_n 1, 1) := by decide +kernel
theorem dX10_nameOf_131 : decode cX10_nameOf 131 = .ok (.iastore, 1) := by decide +kernel
theorem dX10_nameOf_132 : decode cX10_nameOf 132 = .ok (.aload_n 0, 1) := by decide +kernel
theorem dX10_nameOf_133 : decode cX10_nameOf 133 = .ok (.getfield 54, 3) := by decide +kernel
theorem dX10_nameOf_136 : decode cX10_nameOf 136 = .ok (.aload_n 0, 1) := by decide +kernel
theorem dX10_nameOf_137 : decode cX10_nameOf 137 = .ok (.getfield 100, 3) := by decide +kernel
theorem dX10_nameOf_140 : decode cX10_nameOf 140 = .ok (.iload_n 2, 1) := by decide +kernel
theorem dX10_nameOf_141 : decode cX10_nameOf 141 = .ok (.iastore, 1) := by decide +kernel
theorem dX10_nameOf_142 : decode cX10_nameOf 142 = .ok (.aload_n 0, 1) := by decide +kernel
theorem dX10_nameOf_143 : decode cX10_nameOf 143 = .ok (.getfield 57, 3) := by decide +kernel
theorem dX10_nameOf_146 : decode cX10_nameOf 146 = .ok (.aload_n 0, 1) := by decide +kernel
theorem dX10_nameOf_147 : decode cX10_nameOf 147 = .ok (.getfield 100, 3) := by decide +kernel
theorem dX10_nameOf_150 : decode cX10_nameOf 150 = .ok (.aload_n 0, 1) := by decide +kernel
theorem dX10_nameOf_151 : decode cX10_nameOf 151 = .ok (.getfield 60, 3) := by decide +kernel
theorem dX10_nameOf_154 : decode cX10_nameOf 154 = .ok (.iload 4, 2) := by decide +kernel
theorem dX10_nameOf_156 : decode cX10_nameOf 156 = .ok (.iaload, 1) := by decide +kernel
theorem dX10_nameOf_157 : decode cX10_nameOf 157 = .ok (.iastore, 1) := by decide +kernel
theorem dX10_nameOf_158 : decode cX10_nameOf 158 = .ok (.aload_n 0, 1) := by decide +kernel
theorem dX10_nameOf_159 : decode cX10_nameOf 159 = .ok (.getfield 60, 3) := by decide +kernel
theorem dX10_nameOf_162 : decode cX10_nameOf 162 = .ok (.iload 4, 2) := by decide +kernel
theorem dX10_nameOf_164 : decode cX10_nameOf 164 = .ok (.aload_n 0, 1) := by decide +kernel
theorem dX10_nameOf_165 : decode cX10_nameOf 165 = .ok (.getfield 100, 3) := by decide +kernel
theorem dX10_nameOf_168 : decode cX10_nameOf 168 = .ok (.iastore, 1) := by decide +kernel
theorem dX10_nameOf_169 : decode cX10_nameOf 169 = .ok (.aload_n 0, 1) := by decide +kernel
theorem dX10_nameOf_170 : decode cX10_nameOf 170 = .ok (.dup, 1) := by decide +kernel
theorem dX10_nameOf_171 : decode cX10_nameOf 171 = .ok (.getfield 100, 3) := by decide +kernel
theorem dX10_nameOf_174 : decode cX10_nameOf 174 = .ok (.iconst 1, 1) := by decide +kernel
theorem dX10_nameOf_175 : decode cX10_nameOf 175 = .ok (.iadd, 1) := by decide +kernel
theorem dX10_nameOf_176 : decode cX10_nameOf 176 = .ok (.putfield 100, 3) := by decide +kernel
theorem dX10_nameOf_179 : decode cX10_nameOf 179 = .ok (.aload_n 0, 1) := by decide +kernel
theorem dX10_nameOf_180 : decode cX10_nameOf 180 = .ok (.getfield 100, 3) := by decide +kernel
theorem dX10_nameOf_183 : decode cX10_nameOf 183 = .ok (.iconst 1, 1) := by decide +kernel
theorem dX10_nameOf_184 : decode cX10_nameOf 184 = .ok (.isub, 1) := by decide +kernel
theorem dX10_nameOf_185 : decode cX10_nameOf 185 = .ok (.ireturn, 1) := by decide +kernel
theorem dX10_nameOf_120 : decode cX10_nameOf 120 = .ok (.iconst (-1), 1) := by decide +kernel
theorem dX10_nameOf_121 : decode cX10_nameOf 121 = .ok (.ireturn, 1) := by decide +kernel
theorem dX10_nameOf_60 : decode cX10_nameOf 60 = .ok (.iload 5, 2) := by decide +kernel
theorem dX10_nameOf_62 : decode cX10_nameOf 62 = .ok (.ifCond .lt 48, 3) := by decide +kernel
theorem dX10_nameOf_65 : decode cX10_nameOf 65 = .ok (.aload_n 0, 1) := by decide +kernel
theorem dX10_nameOf_66 : decode cX10_nameOf 66 = .ok (.getfield 54, 3) := by decide +kernel
theorem dX10_nameOf_69 : decode cX10_nameOf 69 = .ok (.iload 5, 2) := by decide +kernel
theorem dX10_nameOf_71 : decode cX10_nameOf 71 = .ok (.iaload, 1) := by decide +kernel
theorem dX10_nameOf_72 : decode cX10_nameOf 72 = .ok (.iload_n 2, 1) := by decide +kernel
theorem dX10_nameOf_73 : decode cX10_nameOf 73 = .ok (.if_icmp .ne 22, 3) := by decide +kernel
theorem dX10_nameOf_95 : decode cX10_nameOf 95 = .ok (.aload_n 0, 1) := by decide +kernel
theorem dX10_nameOf_96 : decode cX10_nameOf 96 = .ok (.getfield 57, 3) := by decide +kernel
theorem dX10_nameOf_99 : decode cX10_nameOf 99 = .ok (.iload 5, 2) := by decide +kernel
theorem dX10_nameOf_101 : decode cX10_nameOf 101 = .ok (.iaload, 1) := by decide +kernel
theorem dX10_nameOf_102 : decode cX10_nameOf 102 = .ok (.istore 5, 2) := by decide +kernel
theorem dX10_nameOf_104 : decode cX10_nameOf 104 = .ok (.iinc 6 1, 3) := by decide +kernel
theorem dX10_nameOf_107 : decode cX10_nameOf 107 = .ok (.goto (-56), 3) := by decide +kernel
theorem dX10_nameOf_76 : decode cX10_nameOf 76 = .ok (.aload_n 0, 1) := by decide +kernel
theorem dX10_nameOf_77 : decode cX10_nameOf 77 = .ok (.aload_n 0, 1) := by decide +kernel
theorem dX10_nameOf_78 : decode cX10_nameOf 78 = .ok (.getfield 51, 3) := by decide +kernel
theorem dX10_nameOf_81 : decode cX10_nameOf 81 = .ok (.iload 5, 2) := by decide +kernel
theorem dX10_nameOf_83 : decode cX10_nameOf 83 = .ok (.iaload, 1) := by decide +kernel
theorem dX10_nameOf_84 : decode cX10_nameOf 84 = .ok (.iload_n 1, 1) := by decide +kernel
theorem dX10_nameOf_85 : decode cX10_nameOf 85 = .ok (.iload_n 2, 1) := by decide +kernel
theorem dX10_nameOf_86 : decode cX10_nameOf 86 = .ok (.invokevirtual 144, 3) := by decide +kernel
theorem dX10_nameOf_89 : decode cX10_nameOf 89 = .ok (.ifCond .eq 6, 3) := by decide +kernel
theorem dX10_nameOf_92 : decode cX10_nameOf 92 = .ok (.iload 5, 2) := by decide +kernel
theorem dX10_nameOf_94 : decode cX10_nameOf 94 = .ok (.ireturn, 1) := by decide +kernel
theorem dX10_nameOf_13 : decode cX10_nameOf 13 = .ok (.iload_n 3, 1) := by decide +kernel
theorem dX10_nameOf_14 : decode cX10_nameOf 14 = .ok (.bipush 31, 2) := by decide +kernel
theorem dX10_nameOf_16 : decode cX10_nameOf 16 = .ok (.imul, 1) := by decide +kernel
theorem dX10_nameOf_17 : decode cX10_nameOf 17 = .ok (.aload_n 0, 1) := by decide +kernel
theorem dX10_nameOf_18 : decode cX10_nameOf 18 = .ok (.getfield 27, 3) := by decide +kernel
theorem dX10_nameOf_21 : decode cX10_nameOf 21 = .ok (.iload 4, 2) := by decide +kernel
theorem dX10_nameOf_23 : decode cX10_nameOf 23 = .ok (.baload, 1) := by decide +kernel
theorem dX10_nameOf_24 : decode cX10_nameOf 24 = .ok (.iadd, 1) := by decide +kernel
theorem dX10_nameOf_25 : decode cX10_nameOf 25 = .ok (.istore_n 3, 1) := by decide +kernel
theorem dX10_nameOf_26 : decode cX10_nameOf 26 = .ok (.iinc 4 1, 3) := by decide +kernel
theorem dX10_nameOf_29 : decode cX10_nameOf 29 = .ok (.goto (-24), 3) := by decide +kernel
theorem hV_X10_isSpelledAlike : yX10_isSpelledAlike.cls = RX10 ∧ yX10_isSpelledAlike.cls ≠ "java/lang/invoke/MethodHandle" ∧ yX10_isSpelledAlike.cls ≠ "java/lang/invoke/VarHandle" ∧ (parseMethodDescriptor yX10_isSpelledAlike.desc).map (fun d => d.parameters.length) = some 3 := by decide +kernel
set_option maxHeartbeats 6000000 in
set_option maxRecDepth 100000 in
theorem K_nameOf (l : Launch) (G : pT) (h0 : Nat) (a : Nat → Nat) (F : Nat → Int32) (R : Nat → Value) (Z : Int64) (B : Nat → Nat → Int32) (J : Nat → Nat → Int64) (T : Nat → Nat) (Pi : Nat → va_E → Prop) (w : va_W) (st : Nat) (ln : Nat) (nm : Nat) (ns : Nat → Int32) (nl : Nat → Int32) (nn : Nat → Int32) (bk : Nat → Int32) (hsl : st + ln ≤ 5220) (hnm : NmR nm ns nl nn bk) (hO : OKW G h0 a (upd F 3 (nI nm)) R Z (updA (updA (updA (updA B 12 ns) 13 nl) 14 nn) 15 bk) J T Pi w) : PM l G pX0 yX10_nameOf cX10_nameOf 7 (some .int) ({ frames := 3, cells := 0, slots := 0, locals := 84 }) [.ref (a 1), .int (nI st), .int (nI ln)] w (fun (v : Option Value) (u : va_W × (Nat × (Nat → Int32) × (Nat → Int32) × (Nat → Int32) × (Nat → Int32) × Int32)) => v = some (.int u.2.2.2.2.2.2) ∧ (NmR u.2.1 u.2.2.1 u.2.2.2.1 u.2.2.2.2.1 u.2.2.2.2.2.1) ∧ (OKW G h0 a (upd F 3 (nI u.2.1)) R Z (updA (updA (updA (updA B 12 u.2.2.1) 13 u.2.2.2.1) 14 u.2.2.2.2.1) 15 u.2.2.2.2.2.1) J T Pi u.1)) (fun u => u.1) := by
  intro sz
  refine Met.ofW (cc := cX10_nameOf) (maxL := 7) (ret := (some .int)) (by decide) rfl ?_
  intro p e s m args below meth c s₁ B9 hml hv
  obtain ⟨rfl, hsz, hP, hD0, hE, hX⟩ := hv
  have hx := B9.exec
  have hb := B9.bytes
  have hr := B9.returns
  have hts := atoms_spec (ws := Cond.code yX10_nameOf cX10_nameOf 7 (some .int) :: pw) B9.pre
  have hq : ∀ w ∈ pw, w.before _ s = true := fun w h => hts w (List.mem_cons_of_mem _ h)
  have hown : s.vm.findClass RX10 = some m.cls := findClass_of_methodNamed B9.named
  have hlocks := B9.notSynchronized
  subst hsz
  have hD := hD0.self (sz := s.heap.size)
  have hA : ∀ q : Nat, s.heap.size ≤ q → va_A w s.heap.size q := fun q h => Or.inr h
  generalize va_A w s.heap.size = A at hD hE hA ⊢
  have hS : va_S A s.heap s.heap [] := va_S.rf
  have hl := lv_entry ([.ref (a 1), .int (nI st), .int (nI ln)]) (n := 7) (Nat.le_of_ble_eq_true rfl)
  rw [lg_entry_eq]
  generalize (lg_sl ([.ref (a 1), .int (nI st), .int (nI ln)]) ++ List.replicate (7 - (lg_sl ([.ref (a 1), .int (nI st), .int (nI ln)])).length) Slot.unset).toArray = ls at hl ⊢
  have hl : lv_has ls 7 [(0, .ref (a 1)), (1, .int (nI st)), (2, .int (nI ln))] := hl
  have hnm0 := hnm.1
  refine lv_iconst (v := 0) hx hb dX10_nameOf_0 (by decide) ?_
  refine lv_istore_n (lv' := [(3, .int 0), (0, .ref (a 1)), (1, .int (nI st)), (2, .int (nI ln))]) hx hb dX10_nameOf_1 rfl hl (by decide) rfl (fun ls hl => ?_)
  refine lv_iload_n hx hb dX10_nameOf_2 rfl (lv_at hl 2 rfl) ?_
  refine lv_istore (lv' := [(4, .int (nI st)), (3, .int 0), (0, .ref (a 1)), (1, .int (nI st)), (2, .int (nI ln))]) hx hb dX10_nameOf_3 hl (by decide) rfl (fun ls hl => ?_)
  have loop_j : ∀ (n_j : Nat) (j2 : Nat) (hs2 : Int32) (H : Heap) (locs : List Loc) (ls : Array Slot) (w : va_W), j2 ≤ ln → ln + 1 ≤ j2 + n_j → va_P G.1 pCl w H → va_D A w → va_S A s.heap H locs → OKW G h0 a (upd F 3 (nI nm)) R Z (updA (updA (updA (updA B 12 ns) 13 nl) 14 nn) 15 bk) J T Pi w → lv_has ls 7 [(4, .int (nI (st + j2))), (3, .int hs2), (2, .int (nI ln)), (1, .int (nI st)), (0, .ref (a 1))] → W p l e (headSpec (Cond.code yX10_nameOf cX10_nameOf 7 (some .int) :: pw) ({ frames := 3, cells := 0, slots := 0, locals := 84 } : Room)).room s m ([.ref (a 1), .int (nI st), .int (nI ln)] : List Value).toArray below meth c H locs 0 0 (MQ below (pQ G A (fun (v : Option Value) (u : va_W × (Nat × (Nat → Int32) × (Nat → Int32) × (Nat → Int32) × (Nat → Int32) × Int32)) => v = some (.int u.2.2.2.2.2.2) ∧ (NmR u.2.1 u.2.2.1 u.2.2.2.1 u.2.2.2.2.1 u.2.2.2.2.2.1) ∧ (OKW G h0 a (upd F 3 (nI u.2.1)) R Z (updA (updA (updA (updA B 12 u.2.2.1) 13 u.2.2.2.1) 14 u.2.2.2.2.1) 15 u.2.2.2.2.2.1) J T Pi u.1)) (fun u => u.1)) ([.ref (a 1), .int (nI st), .int (nI ln)] : List Value).toArray s ({ frames := 3, cells := 0, slots := 0, locals := 84 } : Room).cells ({ frames := 3, cells := 0, slots := 0, locals := 84 } : Room).slots A) (F0 m 5 ls []) := by
    intro n_j
    induction n_j with
    | zero => intro j2 hs2 H locs ls w hk_j hn_j; omega
    | succ n_j ih_j =>
      intro j2 hs2 H locs ls w hk_j hn_j hP hD hS hO hl
      refine lv_iload hx hb dX10_nameOf_5 (lv_at hl 0 rfl) ?_
      refine lv_iload_n hx hb dX10_nameOf_7 rfl (lv_at hl 3 rfl) ?_
      refine lv_iload_n hx hb dX10_nameOf_8 rfl (lv_at hl 2 rfl) ?_
      refine lv_iadd hx hb dX10_nameOf_9 ?_
      refine lv_topi (fun x1 e2 => ?_)
      obtain rfl : x1 = nI (st + ln) := e2.trans (nI_add (st) (ln))
      refine lv_icmp_ge (tgt := 32) hx hb dX10_nameOf_10 (by decide) (fun c3 => ?_) (fun c3 => ?_)
      · have n4 : (st + ln) ≤ (st + j2) := (nI_leI (a := (st + ln)) (b := (st + j2)) (by omega) (by omega)).mp c3
        refine lv_iload_n hx hb dX10_nameOf_32 rfl (lv_at hl 1 rfl) ?_
        refine lv_sipush (v := 255) hx hb dX10_nameOf_33 (by decide) ?_
        refine lv_iand hx hb dX10_nameOf_36 ?_
        obtain ⟨b5, hb6, eb7⟩ := and255 hs2
        refine lv_topi (fun x8 e9 => ?_)
        obtain rfl : x8 = nI b5 := e9.trans eb7
        refine lv_istore (lv' := [(4, .int (nI b5)), (3, .int hs2), (2, .int (nI ln)), (1, .int (nI st)), (0, .ref (a 1))]) hx hb dX10_nameOf_37 hl (by decide) rfl (fun ls hl => ?_)
        refine lv_aload_n hx hb dX10_nameOf_39 rfl (lv_at hl 4 rfl) ?_
        refine c_get (v := .ref (a 15)) (C := RX10) (Tc := TX10) (N := 15) (ci := 7) hx hb hq pin_wsX100 hown hE hP hO 2 (sg_2 G h0 a _ _ _ _ _) rfl 12 (by decide) (hq _ pw_1248) (fun _ h9 => h9) rfl dX10_nameOf_40 ?_
        refine lv_iload hx hb dX10_nameOf_43 (lv_at hl 0 rfl) ?_
        refine c_ldi (f := bk) (n := 256) (t0 := 0) hx hb hE hP hO 12 (sg_12 G h0 a _ _ _ _ _) rfl (vp_in_nI (by omega) (by decide)) dX10_nameOf_45 ?_
        rw [(nI_clamp (show b5 < 2 ^ 31 by omega))]
        refine lv_topi (fun x10 e11 => ?_)
        have ho9 : OrY x10 nm := by rw [e11]; exact hnm.2.2.2 _ (by omega)
        refine lv_istore (lv' := [(5, .int x10), (4, .int (nI b5)), (3, .int hs2), (2, .int (nI ln)), (1, .int (nI st)), (0, .ref (a 1))]) hx hb dX10_nameOf_46 hl (by decide) rfl (fun ls hl => ?_)
        refine lv_iconst (v := 0) hx hb dX10_nameOf_48 (by decide) ?_
        refine lv_istore (lv' := [(6, .int 0), (5, .int x10), (4, .int (nI b5)), (3, .int hs2), (2, .int (nI ln)), (1, .int (nI st)), (0, .ref (a 1))]) hx hb dX10_nameOf_49 hl (by decide) rfl (fun ls hl => ?_)
        have loop_n : ∀ (n_n : Nat) (n2 : Nat) (x2 : Int32) (b2 : Nat) (H : Heap) (locs : List Loc) (ls : Array Slot) (w : va_W), n2 ≤ nm → nm + 1 ≤ n2 + n_n → (OrY x2 nm) → (b2 < 256) → va_P G.1 pCl w H → va_D A w → va_S A s.heap H locs → OKW G h0 a (upd F 3 (nI nm)) R Z (updA (updA (updA (updA B 12 ns) 13 nl) 14 nn) 15 bk) J T Pi w → lv_has ls 7 [(6, .int (nI n2)), (5, .int x2), (4, .int (nI b2)), (3, .int hs2), (2, .int (nI ln)), (1, .int (nI st)), (0, .ref (a 1))] → W p l e (headSpec (Cond.code yX10_nameOf cX10_nameOf 7 (some .int) :: pw) ({ frames := 3, cells := 0, slots := 0, locals := 84 } : Room)).room s m ([.ref (a 1), .int (nI st), .int (nI ln)] : List Value).toArray below meth c H locs 0 0 (MQ below (pQ G A (fun (v : Option Value) (u : va_W × (Nat × (Nat → Int32) × (Nat → Int32) × (Nat → Int32) × (Nat → Int32) × Int32)) => v = some (.int u.2.2.2.2.2.2) ∧ (NmR u.2.1 u.2.2.1 u.2.2.2.1 u.2.2.2.2.1 u.2.2.2.2.2.1) ∧ (OKW G h0 a (upd F 3 (nI u.2.1)) R Z (updA (updA (updA (updA B 12 u.2.2.1) 13 u.2.2.2.1) 14 u.2.2.2.2.1) 15 u.2.2.2.2.2.1) J T Pi u.1)) (fun u => u.1)) ([.ref (a 1), .int (nI st), .int (nI ln)] : List Value).toArray s ({ frames := 3, cells := 0, slots := 0, locals := 84 } : Room).cells ({ frames := 3, cells := 0, slots := 0, locals := 84 } : Room).slots A) (F0 m 51 ls []) := by
          intro n_n
          induction n_n with
          | zero => intro n2 x2 b2 H locs ls w hk_n hn_n; omega
          | succ n_n ih_n =>
            intro n2 x2 b2 H locs ls w hk_n hn_n ho2 hb2 hP hD hS hO hl
            refine lv_iload hx hb dX10_nameOf_51 (lv_at hl 0 rfl) ?_
            refine lv_aload_n hx hb dX10_nameOf_53 rfl (lv_at hl 6 rfl) ?_
            refine c_get (v := .int (nI nm)) (C := RX10) (Tc := TX10) (N := 15) (ci := 7) hx hb hq pin_wsX100 hown hE hP hO 2 (sg_2 G h0 a _ _ _ _ _) rfl 13 (by decide) (hq _ pw_1255) (fun _ h9 => h9) rfl dX10_nameOf_54 ?_
            refine lv_icmp_ge (tgt := 110) hx hb dX10_nameOf_57 (by decide) (fun c12 => ?_) (fun c12 => ?_)
            · have n13 : nm ≤ n2 := (nI_leI (a := nm) (b := n2) (by omega) (by omega)).mp c12
              refine lv_aload_n hx hb dX10_nameOf_110 rfl (lv_at hl 6 rfl) ?_
              refine c_get (v := .int (nI nm)) (C := RX10) (Tc := TX10) (N := 15) (ci := 7) hx hb hq pin_wsX100 hown hE hP hO 2 (sg_2 G h0 a _ _ _ _ _) rfl 13 (by decide) (hq _ pw_1255) (fun _ h9 => h9) rfl dX10_nameOf_111 ?_
              refine lv_sipush (v := 2540) hx hb dX10_nameOf_114 (by decide) ?_
              refine lv_icmp_lt (tgt := 122) hx hb dX10_nameOf_117 (by decide) (fun c14 => ?_) (fun c14 => ?_)
              · have n15 : nm < 2540 := (nI_ltI (a := nm) (b := 2540) (by omega) (by omega)).mp c14
                refine lv_aload_n hx hb dX10_nameOf_122 rfl (lv_at hl 6 rfl) ?_
                refine c_get (v := .ref (a 12)) (C := RX10) (Tc := TX10) (N := 15) (ci := 7) hx hb hq pin_wsX100 hown hE hP hO 2 (sg_2 G h0 a _ _ _ _ _) rfl 9 (by decide) (hq _ pw_1245) (fun _ h9 => h9) rfl dX10_nameOf_123 ?_
                refine lv_aload_n hx hb dX10_nameOf_126 rfl (lv_at hl 6 rfl) ?_
                refine c_get (v := .int (nI nm)) (C := RX10) (Tc := TX10) (N := 15) (ci := 7) hx hb hq pin_wsX100 hown hE hP hO 2 (sg_2 G h0 a _ _ _ _ _) rfl 13 (by decide) (hq _ pw_1255) (fun _ h9 => h9) rfl dX10_nameOf_127 ?_
                refine lv_iload_n hx hb dX10_nameOf_130 rfl (lv_at hl 5 rfl) ?_
                refine c_sti (f := ns) (n := 2540) (t0 := 0) hx hb hE hP hD hS hO 9 (sg_9 G h0 a _ _ _ _ _) rfl (vp_in_nI (by omega) (by decide)) (sb_12 G h0 a _ _ _ _ _ _) dX10_nameOf_131 (fun H locs w hP hD hS hO => ?_)
                rw [(nI_clamp (show nm < 2 ^ 31 by omega))] at hO
                refine lv_aload_n hx hb dX10_nameOf_132 rfl (lv_at hl 6 rfl) ?_
                refine c_get (v := .ref (a 13)) (C := RX10) (Tc := TX10) (N := 15) (ci := 7) hx hb hq pin_wsX100 hown hE hP hO 2 (sg_2 G h0 a _ _ _ _ _) rfl 10 (by decide) (hq _ pw_1246) (fun _ h9 => h9) rfl dX10_nameOf_133 ?_
                refine lv_aload_n hx hb dX10_nameOf_136 rfl (lv_at hl 6 rfl) ?_
                refine c_get (v := .int (nI nm)) (C := RX10) (Tc := TX10) (N := 15) (ci := 7) hx hb hq pin_wsX100 hown hE hP hO 2 (sg_2 G h0 a _ _ _ _ _) rfl 13 (by decide) (hq _ pw_1255) (fun _ h9 => h9) rfl dX10_nameOf_137 ?_
                refine lv_iload_n hx hb dX10_nameOf_140 rfl (lv_at hl 4 rfl) ?_
                refine c_sti (f := nl) (n := 2540) (t0 := 0) hx hb hE hP hD hS hO 10 (sg_10 G h0 a _ _ _ _ _) rfl (vp_in_nI (by omega) (by decide)) (sb_13 G h0 a _ _ _ _ _ _) dX10_nameOf_141 (fun H locs w hP hD hS hO => ?_)
                rw [(nI_clamp (show nm < 2 ^ 31 by omega))] at hO
                refine lv_aload_n hx hb dX10_nameOf_142 rfl (lv_at hl 6 rfl) ?_
                refine c_get (v := .ref (a 14)) (C := RX10) (Tc := TX10) (N := 15) (ci := 7) hx hb hq pin_wsX100 hown hE hP hO 2 (sg_2 G h0 a _ _ _ _ _) rfl 11 (by decide) (hq _ pw_1247) (fun _ h9 => h9) rfl dX10_nameOf_143 ?_
                refine lv_aload_n hx hb dX10_nameOf_146 rfl (lv_at hl 6 rfl) ?_
                refine c_get (v := .int (nI nm)) (C := RX10) (Tc := TX10) (N := 15) (ci := 7) hx hb hq pin_wsX100 hown hE hP hO 2 (sg_2 G h0 a _ _ _ _ _) rfl 13 (by decide) (hq _ pw_1255) (fun _ h9 => h9) rfl dX10_nameOf_147 ?_
                refine lv_aload_n hx hb dX10_nameOf_150 rfl (lv_at hl 6 rfl) ?_
                refine c_get (v := .ref (a 15)) (C := RX10) (Tc := TX10) (N := 15) (ci := 7) hx hb hq pin_wsX100 hown hE hP hO 2 (sg_2 G h0 a _ _ _ _ _) rfl 12 (by decide) (hq _ pw_1248) (fun _ h9 => h9) rfl dX10_nameOf_151 ?_
                refine lv_iload hx hb dX10_nameOf_154 (lv_at hl 2 rfl) ?_
                refine c_ldi (f := bk) (n := 256) (t0 := 0) hx hb hE hP hO 12 (sg_12 G h0 a _ _ _ _ _) rfl (vp_in_nI (by omega) (by decide)) dX10_nameOf_156 ?_
                rw [(nI_clamp (show b2 < 2 ^ 31 by omega))]
                refine c_sti (f := nn) (n := 2540) (t0 := 0) hx hb hE hP hD hS hO 11 (sg_11 G h0 a _ _ _ _ _) rfl (vp_in_nI (by omega) (by decide)) (sb_14 G h0 a _ _ _ _ _ _) dX10_nameOf_157 (fun H locs w hP hD hS hO => ?_)
                rw [(nI_clamp (show nm < 2 ^ 31 by omega))] at hO
                refine lv_aload_n hx hb dX10_nameOf_158 rfl (lv_at hl 6 rfl) ?_
                refine c_get (v := .ref (a 15)) (C := RX10) (Tc := TX10) (N := 15) (ci := 7) hx hb hq pin_wsX100 hown hE hP hO 2 (sg_2 G h0 a _ _ _ _ _) rfl 12 (by decide) (hq _ pw_1248) (fun _ h9 => h9) rfl dX10_nameOf_159 ?_
                refine lv_iload hx hb dX10_nameOf_162 (lv_at hl 2 rfl) ?_
                refine lv_aload_n hx hb dX10_nameOf_164 rfl (lv_at hl 6 rfl) ?_
                refine c_get (v := .int (nI nm)) (C := RX10) (Tc := TX10) (N := 15) (ci := 7) hx hb hq pin_wsX100 hown hE hP hO 2 (sg_2 G h0 a _ _ _ _ _) rfl 13 (by decide) (hq _ pw_1255) (fun _ h9 => h9) rfl dX10_nameOf_165 ?_
                refine c_sti (f := bk) (n := 256) (t0 := 0) hx hb hE hP hD hS hO 12 (sg_12 G h0 a _ _ _ _ _) rfl (vp_in_nI (by omega) (by decide)) (sb_15 G h0 a _ _ _ _ _ _) dX10_nameOf_168 (fun H locs w hP hD hS hO => ?_)
                rw [(nI_clamp (show b2 < 2 ^ 31 by omega))] at hO
                refine lv_aload_n hx hb dX10_nameOf_169 rfl (lv_at hl 6 rfl) ?_
                refine lv_dup hx hb dX10_nameOf_170 rfl ?_
                refine c_get (v := .int (nI nm)) (C := RX10) (Tc := TX10) (N := 15) (ci := 7) hx hb hq pin_wsX100 hown hE hP hO 2 (sg_2 G h0 a _ _ _ _ _) rfl 13 (by decide) (hq _ pw_1255) (fun _ h9 => h9) rfl dX10_nameOf_171 ?_
                refine lv_iconst (v := 1) hx hb dX10_nameOf_174 (by decide) ?_
                refine lv_iadd hx hb dX10_nameOf_175 ?_
                refine lv_topi (fun x16 e17 => ?_)
                obtain rfl : x16 = nI (nm + 1) := e17.trans (nI_add (nm) (1))
                refine c_put (v := .int (nI (nm + 1))) (ty := .int) (C := RX10) (Tc := TX10) (N := 15) (ci := 7) hx hb hq pin_wsX100 tyX10 tyX10_ok nmX10 hown hE hP hD hS hO 2 (sg_2 G h0 a _ _ _ _ _) rfl 13 (by decide) (hq _ pw_1255) (fun _ h9 => h9) rfl (by decide +kernel) rfl rfl (Nat.le_of_ble_eq_true rfl) (sf_3 G h0 a _ _ _ _ _ (nI (nm + 1))) dX10_nameOf_176 (fun H locs w hP hD hS hO => ?_)
                refine lv_aload_n hx hb dX10_nameOf_179 rfl (lv_at hl 6 rfl) ?_
                refine c_get (v := .int (nI (nm + 1))) (C := RX10) (Tc := TX10) (N := 15) (ci := 7) hx hb hq pin_wsX100 hown hE hP hO 2 (sg_2 G h0 a _ _ _ _ _) rfl 13 (by decide) (hq _ pw_1255) (fun _ h9 => h9) rfl dX10_nameOf_180 ?_
                refine lv_iconst (v := 1) hx hb dX10_nameOf_183 (by decide) ?_
                refine lv_isub hx hb dX10_nameOf_184 ?_
                refine lv_topi (fun x18 e19 => ?_)
                obtain rfl : x18 = nI ((nm + 1) - 1) := e19.trans (nI_subN (a := 1) (b := (nm + 1)) (by omega))
                have hz20 : NmR (nm + 1) (upd ns nm (nI st)) (upd nl nm (nI ln)) (upd nn nm (bk b2)) (upd bk b2 (nI nm)) := (NmR.add hnm (by omega) hsl (by omega))
                have hO : OKW G h0 a (upd F 3 (nI (nm + 1))) R Z (updA (updA (updA (updA B 12 (upd ns nm (nI st))) 13 (upd nl nm (nI ln))) 14 (upd nn nm (bk b2))) 15 (upd bk b2 (nI nm))) J T Pi w := hO.to rfl
                exact W.iret (v := (nI ((nm + 1) - 1))) hx hb hr (fun t99 ht99 hW99 => ⟨⟨_, (w, ((nm + 1), (upd ns nm (nI st)), (upd nl nm (nI ln)), (upd nn nm (bk b2)), (upd bk b2 (nI nm)), (nI ((nm + 1) - 1)))), rfl, ⟨rfl, hz20, hO⟩, by rw [ht99]; exact hP, hD⟩, hS.F ht99⟩) hS.2.2 dX10_nameOf_185
              · have n21 : ¬ (nm < 2540) := fun h9 => c14 ((nI_ltI (a := nm) (b := 2540) (by omega) (by omega)).mpr h9)
                refine lv_iconst (v := (-1)) hx hb dX10_nameOf_120 (by decide) ?_
                have hz22 : NmR nm ns nl nn bk := hnm
                have hO : OKW G h0 a (upd F 3 (nI nm)) R Z (updA (updA (updA (updA B 12 ns) 13 nl) 14 nn) 15 bk) J T Pi w := hO.to rfl
                exact W.iret (v := (-1)) hx hb hr (fun t99 ht99 hW99 => ⟨⟨_, (w, (nm, ns, nl, nn, bk, ((-1) : Int32))), rfl, ⟨rfl, hz22, hO⟩, by rw [ht99]; exact hP, hD⟩, hS.F ht99⟩) hS.2.2 dX10_nameOf_121
            · have n23 : ¬ (nm ≤ n2) := fun h9 => c12 ((nI_leI (a := nm) (b := n2) (by omega) (by omega)).mpr h9)
              refine lv_iload hx hb dX10_nameOf_60 (lv_at hl 1 rfl) ?_
              refine lv_if_lt (tgt := 110) hx hb dX10_nameOf_62 (by decide) (fun c24 => ?_) (fun c24 => ?_)
              · refine lv_aload_n hx hb dX10_nameOf_110 rfl (lv_at hl 6 rfl) ?_
                refine c_get (v := .int (nI nm)) (C := RX10) (Tc := TX10) (N := 15) (ci := 7) hx hb hq pin_wsX100 hown hE hP hO 2 (sg_2 G h0 a _ _ _ _ _) rfl 13 (by decide) (hq _ pw_1255) (fun _ h9 => h9) rfl dX10_nameOf_111 ?_
                refine lv_sipush (v := 2540) hx hb dX10_nameOf_114 (by decide) ?_
                refine lv_icmp_lt (tgt := 122) hx hb dX10_nameOf_117 (by decide) (fun c25 => ?_) (fun c25 => ?_)
                · have n26 : nm < 2540 := (nI_ltI (a := nm) (b := 2540) (by omega) (by omega)).mp c25
                  refine lv_aload_n hx hb dX10_nameOf_122 rfl (lv_at hl 6 rfl) ?_
                  refine c_get (v := .ref (a 12)) (C := RX10) (Tc := TX10) (N := 15) (ci := 7) hx hb hq pin_wsX100 hown hE hP hO 2 (sg_2 G h0 a _ _ _ _ _) rfl 9 (by decide) (hq _ pw_1245) (fun _ h9 => h9) rfl dX10_nameOf_123 ?_
                  refine lv_aload_n hx hb dX10_nameOf_126 rfl (lv_at hl 6 rfl) ?_
                  refine c_get (v := .int (nI nm)) (C := RX10) (Tc := TX10) (N := 15) (ci := 7) hx hb hq pin_wsX100 hown hE hP hO 2 (sg_2 G h0 a _ _ _ _ _) rfl 13 (by decide) (hq _ pw_1255) (fun _ h9 => h9) rfl dX10_nameOf_127 ?_
                  refine lv_iload_n hx hb dX10_nameOf_130 rfl (lv_at hl 5 rfl) ?_
                  refine c_sti (f := ns) (n := 2540) (t0 := 0) hx hb hE hP hD hS hO 9 (sg_9 G h0 a _ _ _ _ _) rfl (vp_in_nI (by omega) (by decide)) (sb_12 G h0 a _ _ _ _ _ _) dX10_nameOf_131 (fun H locs w hP hD hS hO => ?_)
                  rw [(nI_clamp (show nm < 2 ^ 31 by omega))] at hO
                  refine lv_aload_n hx hb dX10_nameOf_132 rfl (lv_at hl 6 rfl) ?_
                  refine c_get (v := .ref (a 13)) (C := RX10) (Tc := TX10) (N := 15) (ci := 7) hx hb hq pin_wsX100 hown hE hP hO 2 (sg_2 G h0 a _ _ _ _ _) rfl 10 (by decide) (hq _ pw_1246) (fun _ h9 => h9) rfl dX10_nameOf_133 ?_
                  refine lv_aload_n hx hb dX10_nameOf_136 rfl (lv_at hl 6 rfl) ?_
                  refine c_get (v := .int (nI nm)) (C := RX10) (Tc := TX10) (N := 15) (ci := 7) hx hb hq pin_wsX100 hown hE hP hO 2 (sg_2 G h0 a _ _ _ _ _) rfl 13 (by decide) (hq _ pw_1255) (fun _ h9 => h9) rfl dX10_nameOf_137 ?_
                  refine lv_iload_n hx hb dX10_nameOf_140 rfl (lv_at hl 4 rfl) ?_
                  refine c_sti (f := nl) (n := 2540) (t0 := 0) hx hb hE hP hD hS hO 10 (sg_10 G h0 a _ _ _ _ _) rfl (vp_in_nI (by omega) (by decide)) (sb_13 G h0 a _ _ _ _ _ _) dX10_nameOf_141 (fun H locs w hP hD hS hO => ?_)
                  rw [(nI_clamp (show nm < 2 ^ 31 by omega))] at hO
                  refine lv_aload_n hx hb dX10_nameOf_142 rfl (lv_at hl 6 rfl) ?_
                  refine c_get (v := .ref (a 14)) (C := RX10) (Tc := TX10) (N := 15) (ci := 7) hx hb hq pin_wsX100 hown hE hP hO 2 (sg_2 G h0 a _ _ _ _ _) rfl 11 (by decide) (hq _ pw_1247) (fun _ h9 => h9) rfl dX10_nameOf_143 ?_
                  refine lv_aload_n hx hb dX10_nameOf_146 rfl (lv_at hl 6 rfl) ?_
                  refine c_get (v := .int (nI nm)) (C := RX10) (Tc := TX10) (N := 15) (ci := 7) hx hb hq pin_wsX100 hown hE hP hO 2 (sg_2 G h0 a _ _ _ _ _) rfl 13 (by decide) (hq _ pw_1255) (fun _ h9 => h9) rfl dX10_nameOf_147 ?_
                  refine lv_aload_n hx hb dX10_nameOf_150 rfl (lv_at hl 6 rfl) ?_
                  refine c_get (v := .ref (a 15)) (C := RX10) (Tc := TX10) (N := 15) (ci := 7) hx hb hq pin_wsX100 hown hE hP hO 2 (sg_2 G h0 a _ _ _ _ _) rfl 12 (by decide) (hq _ pw_1248) (fun _ h9 => h9) rfl dX10_nameOf_151 ?_
                  refine lv_iload hx hb dX10_nameOf_154 (lv_at hl 2 rfl) ?_
                  refine c_ldi (f := bk) (n := 256) (t0 := 0) hx hb hE hP hO 12 (sg_12 G h0 a _ _ _ _ _) rfl (vp_in_nI (by omega) (by decide)) dX10_nameOf_156 ?_
                  rw [(nI_clamp (show b2 < 2 ^ 31 by omega))]
                  refine c_sti (f := nn) (n := 2540) (t0 := 0) hx hb hE hP hD hS hO 11 (sg_11 G h0 a _ _ _ _ _) rfl (vp_in_nI (by omega) (by decide)) (sb_14 G h0 a _ _ _ _ _ _) dX10_nameOf_157 (fun H locs w hP hD hS hO => ?_)
                  rw [(nI_clamp (show nm < 2 ^ 31 by omega))] at hO
                  refine lv_aload_n hx hb dX10_nameOf_158 rfl (lv_at hl 6 rfl) ?_
                  refine c_get (v := .ref (a 15)) (C := RX10) (Tc := TX10) (N := 15) (ci := 7) hx hb hq pin_wsX100 hown hE hP hO 2 (sg_2 G h0 a _ _ _ _ _) rfl 12 (by decide) (hq _ pw_1248) (fun _ h9 => h9) rfl dX10_nameOf_159 ?_
                  refine lv_iload hx hb dX10_nameOf_162 (lv_at hl 2 rfl) ?_
                  refine lv_aload_n hx hb dX10_nameOf_164 rfl (lv_at hl 6 rfl) ?_
                  refine c_get (v := .int (nI nm)) (C := RX10) (Tc := TX10) (N := 15) (ci := 7) hx hb hq pin_wsX100 hown hE hP hO 2 (sg_2 G h0 a _ _ _ _ _) rfl 13 (by decide) (hq _ pw_1255) (fun _ h9 => h9) rfl dX10_nameOf_165 ?_
                  refine c_sti (f := bk) (n := 256) (t0 := 0) hx hb hE hP hD hS hO 12 (sg_12 G h0 a _ _ _ _ _) rfl (vp_in_nI (by omega) (by decide)) (sb_15 G h0 a _ _ _ _ _ _) dX10_nameOf_168 (fun H locs w hP hD hS hO => ?_)
                  rw [(nI_clamp (show b2 < 2 ^ 31 by omega))] at hO
                  refine lv_aload_n hx hb dX10_nameOf_169 rfl (lv_at hl 6 rfl) ?_
                  refine lv_dup hx hb dX10_nameOf_170 rfl ?_
                  refine c_get (v := .int (nI nm)) (C := RX10) (Tc := TX10) (N := 15) (ci := 7) hx hb hq pin_wsX100 hown hE hP hO 2 (sg_2 G h0 a _ _ _ _ _) rfl 13 (by decide) (hq _ pw_1255) (fun _ h9 => h9) rfl dX10_nameOf_171 ?_
                  refine lv_iconst (v := 1) hx hb dX10_nameOf_174 (by decide) ?_
                  refine lv_iadd hx hb dX10_nameOf_175 ?_
                  refine lv_topi (fun x27 e28 => ?_)
                  obtain rfl : x27 = nI (nm + 1) := e28.trans (nI_add (nm) (1))
                  refine c_put (v := .int (nI (nm + 1))) (ty := .int) (C := RX10) (Tc := TX10) (N := 15) (ci := 7) hx hb hq pin_wsX100 tyX10 tyX10_ok nmX10 hown hE hP hD hS hO 2 (sg_2 G h0 a _ _ _ _ _) rfl 13 (by decide) (hq _ pw_1255) (fun _ h9 => h9) rfl (by decide +kernel) rfl rfl (Nat.le_of_ble_eq_true rfl) (sf_3 G h0 a _ _ _ _ _ (nI (nm + 1))) dX10_nameOf_176 (fun H locs w hP hD hS hO => ?_)
                  refine lv_aload_n hx hb dX10_nameOf_179 rfl (lv_at hl 6 rfl) ?_
                  refine c_get (v := .int (nI (nm + 1))) (C := RX10) (Tc := TX10) (N := 15) (ci := 7) hx hb hq pin_wsX100 hown hE hP hO 2 (sg_2 G h0 a _ _ _ _ _) rfl 13 (by decide) (hq _ pw_1255) (fun _ h9 => h9) rfl dX10_nameOf_180 ?_
                  refine lv_iconst (v := 1) hx hb dX10_nameOf_183 (by decide) ?_
                  refine lv_isub hx hb dX10_nameOf_184 ?_
                  refine lv_topi (fun x29 e30 => ?_)
                  obtain rfl : x29 = nI ((nm + 1) - 1) := e30.trans (nI_subN (a := 1) (b := (nm + 1)) (by omega))
                  have hz31 : NmR (nm + 1) (upd ns nm (nI st)) (upd nl nm (nI ln)) (upd nn nm (bk b2)) (upd bk b2 (nI nm)) := (NmR.add hnm (by omega) hsl (by omega))
                  have hO : OKW G h0 a (upd F 3 (nI (nm + 1))) R Z (updA (updA (updA (updA B 12 (upd ns nm (nI st))) 13 (upd nl nm (nI ln))) 14 (upd nn nm (bk b2))) 15 (upd bk b2 (nI nm))) J T Pi w := hO.to rfl
                  exact W.iret (v := (nI ((nm + 1) - 1))) hx hb hr (fun t99 ht99 hW99 => ⟨⟨_, (w, ((nm + 1), (upd ns nm (nI st)), (upd nl nm (nI ln)), (upd nn nm (bk b2)), (upd bk b2 (nI nm)), (nI ((nm + 1) - 1)))), rfl, ⟨rfl, hz31, hO⟩, by rw [ht99]; exact hP, hD⟩, hS.F ht99⟩) hS.2.2 dX10_nameOf_185
                · have n32 : ¬ (nm < 2540) := fun h9 => c25 ((nI_ltI (a := nm) (b := 2540) (by omega) (by omega)).mpr h9)
                  refine lv_iconst (v := (-1)) hx hb dX10_nameOf_120 (by decide) ?_
                  have hz33 : NmR nm ns nl nn bk := hnm
                  have hO : OKW G h0 a (upd F 3 (nI nm)) R Z (updA (updA (updA (updA B 12 ns) 13 nl) 14 nn) 15 bk) J T Pi w := hO.to rfl
                  exact W.iret (v := (-1)) hx hb hr (fun t99 ht99 hW99 => ⟨⟨_, (w, (nm, ns, nl, nn, bk, ((-1) : Int32))), rfl, ⟨rfl, hz33, hO⟩, by rw [ht99]; exact hP, hD⟩, hS.F ht99⟩) hS.2.2 dX10_nameOf_121
              · obtain ⟨k9, hk9, hl9⟩ := ho2.resolve_left (fun q => by rw [q] at c24; exact c24 (by decide))
                rw [hk9] at hl
                obtain ⟨p9, q9, ep9, eq9, hpq9⟩ := hnm.2.1 k9 (by omega)
                refine lv_aload_n hx hb dX10_nameOf_65 rfl (lv_at hl 6 rfl) ?_
                refine c_get (v := .ref (a 13)) (C := RX10) (Tc := TX10) (N := 15) (ci := 7) hx hb hq pin_wsX100 hown hE hP hO 2 (sg_2 G h0 a _ _ _ _ _) rfl 10 (by decide) (hq _ pw_1246) (fun _ h9 => h9) rfl dX10_nameOf_66 ?_
                refine lv_iload hx hb dX10_nameOf_69 (lv_at hl 1 rfl) ?_
                refine c_ldi (f := nl) (n := 2540) (t0 := 0) hx hb hE hP hO 10 (sg_10 G h0 a _ _ _ _ _) rfl (vp_in_nI (by omega) (by decide)) dX10_nameOf_71 ?_
                rw [(nI_clamp (show k9 < 2 ^ 31 by omega))]
                refine lv_topi (fun x34 e35 => ?_)
                obtain rfl : x34 = nI q9 := e35.trans eq9
                refine lv_iload_n hx hb dX10_nameOf_72 rfl (lv_at hl 4 rfl) ?_
                refine lv_icmp_ne (tgt := 95) hx hb dX10_nameOf_73 (by decide) (fun c36 => ?_) (fun c36 => ?_)
                · have n37 : ¬ (q9 = ln) := fun h9 => c36 ((nI_eq (a := q9) (b := ln) (by omega) (by omega)).mpr h9)
                  refine lv_aload_n hx hb dX10_nameOf_95 rfl (lv_at hl 6 rfl) ?_
                  refine c_get (v := .ref (a 14)) (C := RX10) (Tc := TX10) (N := 15) (ci := 7) hx hb hq pin_wsX100 hown hE hP hO 2 (sg_2 G h0 a _ _ _ _ _) rfl 11 (by decide) (hq _ pw_1247) (fun _ h9 => h9) rfl dX10_nameOf_96 ?_
                  refine lv_iload hx hb dX10_nameOf_99 (lv_at hl 1 rfl) ?_
                  refine c_ldi (f := nn) (n := 2540) (t0 := 0) hx hb hE hP hO 11 (sg_11 G h0 a _ _ _ _ _) rfl (vp_in_nI (by omega) (by decide)) dX10_nameOf_101 ?_
                  rw [(nI_clamp (show k9 < 2 ^ 31 by omega))]
                  refine lv_topi (fun x38 e39 => ?_)
                  have ho8 : OrY x38 nm := by rw [e39]; exact hnm.2.2.1 k9 (by omega)
                  refine lv_istore (lv' := [(5, .int x38), (6, .int (nI n2)), (4, .int (nI b2)), (3, .int hs2), (2, .int (nI ln)), (1, .int (nI st)), (0, .ref (a 1))]) hx hb dX10_nameOf_102 hl (by decide) rfl (fun ls hl => ?_)
                  refine lv_iinc (v := (nI (n2 + 1))) (lv' := [(6, .int (nI (n2 + 1))), (5, .int x38), (4, .int (nI b2)), (3, .int hs2), (2, .int (nI ln)), (1, .int (nI st)), (0, .ref (a 1))]) hx hb dX10_nameOf_104 hl (k := 1) rfl (nI_1 n2) (by decide) rfl (fun ls hl => ?_)
                  refine lv_goto (tgt := 51) hx hb dX10_nameOf_107 (by decide) ?_
                  have hO : OKW G h0 a (upd F 3 (nI nm)) R Z (updA (updA (updA (updA B 12 ns) 13 nl) 14 nn) 15 bk) J T Pi w := hO.to rfl
                  exact ih_n (n2 + 1) x38 b2 _ _ _ _ (by omega) (by omega) ho8 (by omega) hP hD hS hO (lv_sub hl [0, 1, 2, 3, 4, 5, 6] rfl)
                · have n40 : q9 = ln := (nI_eq (a := q9) (b := ln) (by omega) (by omega)).mp c36
                  refine lv_aload_n hx hb dX10_nameOf_76 rfl (lv_at hl 6 rfl) ?_
                  refine lv_aload_n hx hb dX10_nameOf_77 rfl (lv_at hl 6 rfl) ?_
                  refine c_get (v := .ref (a 12)) (C := RX10) (Tc := TX10) (N := 15) (ci := 7) hx hb hq pin_wsX100 hown hE hP hO 2 (sg_2 G h0 a _ _ _ _ _) rfl 9 (by decide) (hq _ pw_1245) (fun _ h9 => h9) rfl dX10_nameOf_78 ?_
                  refine lv_iload hx hb dX10_nameOf_81 (lv_at hl 1 rfl) ?_
                  refine c_ldi (f := ns) (n := 2540) (t0 := 0) hx hb hE hP hO 9 (sg_9 G h0 a _ _ _ _ _) rfl (vp_in_nI (by omega) (by decide)) dX10_nameOf_83 ?_
                  rw [(nI_clamp (show k9 < 2 ^ 31 by omega))]
                  refine lv_topi (fun x41 e42 => ?_)
                  obtain rfl : x41 = nI p9 := e42.trans ep9
                  refine lv_iload_n hx hb dX10_nameOf_84 rfl (lv_at hl 5 rfl) ?_
                  refine lv_iload_n hx hb dX10_nameOf_85 rfl (lv_at hl 4 rfl) ?_
                  have hO : OKW G h0 a (upd F 3 (nI nm)) R Z (updA (updA (updA (updA B 12 ns) 13 nl) 14 nn) 15 bk) J T Pi w := hO.to rfl
                  obtain ⟨_, qr46, hqr47⟩ := hO.2.1 2 _ (sg_2 G h0 a _ _ _ _ _)
                  refine pc_V0 (G := G) (As := [.int (nI p9), .int (nI st), .int (nI ln)]) (rest := []) hx hb hml hown hq hE hX pX0_al hP hD hS hA hl.1 (K_alike l G h0 a (upd F 3 (nI nm)) R Z (updA (updA (updA (updA B 12 ns) 13 nl) 14 nn) 15 bk) J T Pi w p9 st ln (by omega) (by omega) hO) (gV pw_1256 pw_1257 pw_1258 pw_59 pw_1253) hV_X10_isSpelledAlike qr46 7 hqr47 rfl rfl rfl (Nat.le_of_ble_eq_true rfl) dX10_nameOf_86 ⟨Nat.le_of_ble_eq_true rfl, Nat.le_of_ble_eq_true rfl⟩ ⟨Nat.le_of_ble_eq_true rfl, Nat.le_of_ble_eq_true rfl⟩ (fun v45 u43 H locs hw44 hP hD hS => ?_)
                  obtain ⟨w, r48⟩ := u43
                  obtain ⟨hw44, h49, hO⟩ := hw44
                  have h49 : r48 ≤ 1 := h49
                  obtain rfl : v45 = some (.int (nI r48)) := hw44
                  have hO : OKW G h0 a (upd F 3 (nI nm)) R Z (updA (updA (updA (updA B 12 ns) 13 nl) 14 nn) 15 bk) J T Pi w := hO.to rfl
                  refine W.widen (k := 0) (n := 0) (Nat.le_of_ble_eq_true rfl) (Nat.le_of_ble_eq_true rfl) ?_
                  refine W.eq (g2 := F0 m 89 ls [.int (nI r48)]) rfl ?_
                  refine lv_if_eq (tgt := 95) hx hb dX10_nameOf_89 (by decide) (fun c50 => ?_) (fun c50 => ?_)
                  · have n51 : r48 = 0 := (nI_eq (a := r48) (b := 0) (by omega) (by omega)).mp c50
                    refine lv_aload_n hx hb dX10_nameOf_95 rfl (lv_at hl 6 rfl) ?_
                    refine c_get (v := .ref (a 14)) (C := RX10) (Tc := TX10) (N := 15) (ci := 7) hx hb hq pin_wsX100 hown hE hP hO 2 (sg_2 G h0 a _ _ _ _ _) rfl 11 (by decide) (hq _ pw_1247) (fun _ h9 => h9) rfl dX10_nameOf_96 ?_
                    refine lv_iload hx hb dX10_nameOf_99 (lv_at hl 1 rfl) ?_
                    refine c_ldi (f := nn) (n := 2540) (t0 := 0) hx hb hE hP hO 11 (sg_11 G h0 a _ _ _ _ _) rfl (vp_in_nI (by omega) (by decide)) dX10_nameOf_101 ?_
                    rw [(nI_clamp (show k9 < 2 ^ 31 by omega))]
                    refine lv_topi (fun x52 e53 => ?_)
                    have ho8 : OrY x52 nm := by rw [e53]; exact hnm.2.2.1 k9 (by omega)
                    refine lv_istore (lv' := [(5, .int x52), (6, .int (nI n2)), (4, .int (nI b2)), (3, .int hs2), (2, .int (nI ln)), (1, .int (nI st)), (0, .ref (a 1))]) hx hb dX10_nameOf_102 hl (by decide) rfl (fun ls hl => ?_)
                    refine lv_iinc (v := (nI (n2 + 1))) (lv' := [(6, .int (nI (n2 + 1))), (5, .int x52), (4, .int (nI b2)), (3, .int hs2), (2, .int (nI ln)), (1, .int (nI st)), (0, .ref (a 1))]) hx hb dX10_nameOf_104 hl (k := 1) rfl (nI_1 n2) (by decide) rfl (fun ls hl => ?_)
                    refine lv_goto (tgt := 51) hx hb dX10_nameOf_107 (by decide) ?_
                    have hO : OKW G h0 a (upd F 3 (nI nm)) R Z (updA (updA (updA (updA B 12 ns) 13 nl) 14 nn) 15 bk) J T Pi w := hO.to rfl
                    exact ih_n (n2 + 1) x52 b2 _ _ _ _ (by omega) (by omega) ho8 (by omega) hP hD hS hO (lv_sub hl [0, 1, 2, 3, 4, 5, 6] rfl)
                  · have n54 : ¬ (r48 = 0) := fun h9 => c50 ((nI_eq (a := r48) (b := 0) (by omega) (by omega)).mpr h9)
                    refine lv_iload hx hb dX10_nameOf_92 (lv_at hl 1 rfl) ?_
                    have hz55 : NmR nm ns nl nn bk := hnm
                    have hO : OKW G h0 a (upd F 3 (nI nm)) R Z (updA (updA (updA (updA B 12 ns) 13 nl) 14 nn) 15 bk) J T Pi w := hO.to rfl
                    exact W.iret (v := (nI k9)) hx hb hr (fun t99 ht99 hW99 => ⟨⟨_, (w, (nm, ns, nl, nn, bk, (nI k9))), rfl, ⟨rfl, hz55, hO⟩, by rw [ht99]; exact hP, hD⟩, hS.F ht99⟩) hS.2.2 dX10_nameOf_94
        have hO : OKW G h0 a (upd F 3 (nI nm)) R Z (updA (updA (updA (updA B 12 ns) 13 nl) 14 nn) 15 bk) J T Pi w := hO.to rfl
        exact loop_n (nm + 1) 0 x10 b5 _ _ _ _ (by omega) (by omega) ho9 (by omega) hP hD hS hO (lv_sub hl [0, 1, 2, 3, 4, 5, 6] rfl)
      · have n56 : ¬ ((st + ln) ≤ (st + j2)) := fun h9 => c3 ((nI_leI (a := (st + ln)) (b := (st + j2)) (by omega) (by omega)).mpr h9)
        refine lv_iload_n hx hb dX10_nameOf_13 rfl (lv_at hl 1 rfl) ?_
        refine lv_bipush (v := 31) hx hb dX10_nameOf_14 (by decide) ?_
        refine lv_imul hx hb dX10_nameOf_16 ?_
        refine lv_topi (fun x57 e58 => ?_)
        refine lv_aload_n hx hb dX10_nameOf_17 rfl (lv_at hl 4 rfl) ?_
        refine c_get (v := .ref (a 6)) (C := RX10) (Tc := TX10) (N := 15) (ci := 7) hx hb hq pin_wsX100 hown hE hP hO 2 (sg_2 G h0 a _ _ _ _ _) rfl 0 (by decide) (hq _ pw_1234) (fun _ h9 => h9) rfl dX10_nameOf_18 ?_
        refine lv_iload hx hb dX10_nameOf_21 (lv_at hl 0 rfl) ?_
        refine c_ldb (f := (B 6)) (n := 5220) (t0 := 1) hx hb hE hP hO 3 (sg_3 G h0 a _ _ _ _ _) rfl (vp_in_nI (by omega) (by decide)) dX10_nameOf_23 ?_
        rw [(nI_clamp (show (st + j2) < 2 ^ 31 by omega))]
        refine lv_topi (fun x59 e60 => ?_)
        refine lv_iadd hx hb dX10_nameOf_24 ?_
        refine lv_topi (fun x61 e62 => ?_)
        refine lv_istore_n (lv' := [(3, .int x61), (4, .int (nI (st + j2))), (2, .int (nI ln)), (1, .int (nI st)), (0, .ref (a 1))]) hx hb dX10_nameOf_25 rfl hl (by decide) rfl (fun ls hl => ?_)
        refine lv_iinc (v := (nI ((st + j2) + 1))) (lv' := [(4, .int (nI ((st + j2) + 1))), (3, .int x61), (2, .int (nI ln)), (1, .int (nI st)), (0, .ref (a 1))]) hx hb dX10_nameOf_26 hl (k := 1) rfl (nI_1 (st + j2)) (by decide) rfl (fun ls hl => ?_)
        refine lv_goto (tgt := 5) hx hb dX10_nameOf_29 (by decide) ?_
        have hO : OKW G h0 a (upd F 3 (nI nm)) R Z (updA (updA (updA (updA B 12 ns) 13 nl) 14 nn) 15 bk) J T Pi w := hO.to rfl
        exact ih_j (j2 + 1) x61 _ _ _ _ (by omega) (by omega) hP hD hS hO (lv_sub hl [0, 1, 2, 3, 4] rfl)
  have hO : OKW G h0 a (upd F 3 (nI nm)) R Z (updA (updA (updA (updA B 12 ns) 13 nl) 14 nn) 15 bk) J T Pi w := hO.to rfl
  exact loop_j (ln + 1) 0 (0 : Int32) _ _ _ _ (by omega) (by omega) hP hD hS hO (lv_sub hl [0, 1, 4, 3, 2] rfl)
theorem dX10_letterOf_0 : decode cX10_letterOf 0 = .ok (.iload_n 1, 1) := by decide +kernel
theorem dX10_letterOf_1 : decode cX10_letterOf 1 = .ok (.ifCond .lt 29, 3) := by decide +kernel
theorem dX10_letterOf_30 : decode cX10_letterOf 30 = .ok (.iconst 0, 1) := by decide +kernel
theorem dX10_letterOf_31 : decode cX10_letterOf 31 = .ok (.istore_n 3, 1) := by decide +kernel
theorem dX10_letterOf_32 : decode cX10_letterOf 32 = .ok (.iload_n 3, 1) := by decide +kernel
theorem dX10_letterOf_33 : decode cX10_letterOf 33 = .ok (.ifCond .eq 23, 3) := by decide +kernel
theorem dX10_letterOf_56 : decode cX10_letterOf 56 = .ok (.iconst (-1), 1) := by decide +kernel
theorem dX10_letterOf_57 : decode cX10_letterOf 57 = .ok (.ireturn, 1) := by decide +kernel
theorem dX10_letterOf_4 : decode cX10_letterOf 4 = .ok (.iload_n 1, 1) := by decide +kernel
theorem dX10_letterOf_5 : decode cX10_letterOf 5 = .ok (.aload_n 0, 1) := by decide +kernel
theorem dX10_letterOf_6 : decode cX10_letterOf 6 = .ok (.getfield 100, 3) := by decide +kernel
theorem dX10_letterOf_9 : decode cX10_letterOf 9 = .ok (.if_icmp .ge 21, 3) := by decide +kernel
theorem dX10_letterOf_12 : decode cX10_letterOf 12 = .ok (.iload_n 2, 1) := by decide +kernel
theorem dX10_letterOf_13 : decode cX10_letterOf 13 = .ok (.ifCond .lt 17, 3) := by decide +kernel
theorem dX10_letterOf_16 : decode cX10_letterOf 16 = .ok (.iload_n 2, 1) := by decide +kernel
theorem dX10_letterOf_17 : decode cX10_letterOf 17 = .ok (.aload_n 0, 1) := by decide +kernel
theorem dX10_letterOf_18 : decode cX10_letterOf 18 = .ok (.getfield 54, 3) := by decide +kernel
theorem dX10_letterOf_21 : decode cX10_letterOf 21 = .ok (.iload_n 1, 1) := by decide +kernel
theorem dX10_letterOf_22 : decode cX10_letterOf 22 = .ok (.iaload, 1) := by decide +kernel
theorem dX10_letterOf_23 : decode cX10_letterOf 23 = .ok (.if_icmp .ge 7, 3) := by decide +kernel
theorem dX10_letterOf_26 : decode cX10_letterOf 26 = .ok (.iconst 1, 1) := by decide +kernel
theorem dX10_letterOf_27 : decode cX10_letterOf 27 = .ok (.goto 4, 3) := by decide +kernel
theorem dX10_letterOf_36 : decode cX10_letterOf 36 = .ok (.aload_n 0, 1) := by decide +kernel
theorem dX10_letterOf_37 : decode cX10_letterOf 37 = .ok (.getfield 27, 3) := by decide +kernel
theorem dX10_letterOf_40 : decode cX10_letterOf 40 = .ok (.aload_n 0, 1) := by decide +kernel
theorem dX10_letterOf_41 : decode cX10_letterOf 41 = .ok (.getfield 51, 3) := by decide +kernel
theorem dX10_letterOf_44 : decode cX10_letterOf 44 = .ok (.iload_n 1, 1) := by decide +kernel
theorem dX10_letterOf_45 : decode cX10_letterOf 45 = .ok (.iaload, 1) := by decide +kernel
theorem dX10_letterOf_46 : decode cX10_letterOf 46 = .ok (.iload_n 2, 1) := by decide +kernel
theorem dX10_letterOf_47 : decode cX10_letterOf 47 = .ok (.iadd, 1) := by decide +kernel
theorem dX10_letterOf_48 : decode cX10_letterOf 48 = .ok (.baload, 1) := by decide +kernel
theorem dX10_letterOf_49 : decode cX10_letterOf 49 = .ok (.sipush 255, 3) := by decide +kernel
theorem dX10_letterOf_52 : decode cX10_letterOf 52 = .ok (.iand, 1) := by decide +kernel
theorem dX10_letterOf_53 : decode cX10_letterOf 53 = .ok (.goto 4, 3) := by decide +kernel
set_option maxHeartbeats 2000000 in
set_option maxRecDepth 100000 in
theorem K_letterOf (l : Launch) (G : pT) (h0 : Nat) (a : Nat → Nat) (F : Nat → Int32) (R : Nat → Value) (Z : Int64) (B : Nat → Nat → Int32) (J : Nat → Nat → Int64) (T : Nat → Nat) (Pi : Nat → va_E → Prop) (w : va_W) (x : Int32) (y : Int32) (nm : Nat) (ns : Nat → Int32) (nl : Nat → Int32) (nn : Nat → Int32) (bk : Nat → Int32) (hnm : NmR nm ns nl nn bk) (hO : OKW G h0 a (upd F 3 (nI nm)) R Z (updA (updA (updA (updA B 12 ns) 13 nl) 14 nn) 15 bk) J T Pi w) : PM l G pX0 yX10_letterOf cX10_letterOf 4 (some .int) ({ frames := 2, cells := 0, slots := 0, locals := 60 }) [.ref (a 1), .int x, .int y] w (fun (v : Option Value) (u : va_W × (Int32)) => v = some (.int u.2) ∧ (OKW G h0 a (upd F 3 (nI nm)) R Z (updA (updA (updA (updA B 12 ns) 13 nl) 14 nn) 15 bk) J T Pi u.1)) (fun u => u.1) := by
  intro sz
  refine Met.ofW (cc := cX10_letterOf) (maxL := 4) (ret := (some .int)) (by decide) rfl ?_
  intro p e s m args below meth c s₁ B9 hml hv
  obtain ⟨rfl, hsz, hP, hD0, hE, hX⟩ := hv
  have hx := B9.exec
  have hb := B9.bytes
  have hr := B9.returns
  have hts := atoms_spec (ws := Cond.code yX10_letterOf cX10_letterOf 4 (some .int) :: pw) B9.pre
  have hq : ∀ w ∈ pw, w.before _ s = true := fun w h => hts w (List.mem_cons_of_mem _ h)
  have hown : s.vm.findClass RX10 = some m.cls := findClass_of_methodNamed B9.named
  have hlocks := B9.notSynchronized
  subst hsz
  have hD := hD0.self (sz := s.heap.size)
  have hA : ∀ q : Nat, s.heap.size ≤ q → va_A w s.heap.size q := fun q h => Or.inr h
  generalize va_A w s.heap.size = A at hD hE hA ⊢
  have hS : va_S A s.heap s.heap [] := va_S.rf
  have hl := lv_entry ([.ref (a 1), .int x, .int y]) (n := 4) (Nat.le_of_ble_eq_true rfl)
  rw [lg_entry_eq]
  generalize (lg_sl ([.ref (a 1), .int x, .int y]) ++ List.replicate (4 - (lg_sl ([.ref (a 1), .int x, .int y])).length) Slot.unset).toArray = ls at hl ⊢
  have hl : lv_has ls 4 [(0, .ref (a 1)), (1, .int x), (2, .int y)] := hl
  have hnm0 := hnm.1
  refine lv_iload_n hx hb dX10_letterOf_0 rfl (lv_at hl 1 rfl) ?_
  refine lv_if_lt (tgt := 30) hx hb dX10_letterOf_1 (by decide) (fun c1 => ?_) (fun c1 => ?_)
  · refine lv_iconst (v := 0) hx hb dX10_letterOf_30 (by decide) ?_
    refine lv_istore_n (lv' := [(3, .int 0), (0, .ref (a 1)), (1, .int x), (2, .int y)]) hx hb dX10_letterOf_31 rfl hl (by decide) rfl (fun ls hl => ?_)
    refine lv_iload_n hx hb dX10_letterOf_32 rfl (lv_at hl 0 rfl) ?_
    refine lv_if_eq (tgt := 56) hx hb dX10_letterOf_33 (by decide) (fun c2 => ?_) (fun c2 => absurd c2 (by decide))
    refine lv_iconst (v := (-1)) hx hb dX10_letterOf_56 (by decide) ?_
    have hO : OKW G h0 a (upd F 3 (nI nm)) R Z (updA (updA (updA (updA B 12 ns) 13 nl) 14 nn) 15 bk) J T Pi w := hO.to rfl
    exact W.iret (v := (-1)) hx hb hr (fun t99 ht99 hW99 => ⟨⟨_, (w, ((-1) : Int32)), rfl, ⟨rfl, hO⟩, by rw [ht99]; exact hP, hD⟩, hS.F ht99⟩) hS.2.2 dX10_letterOf_57
  · obtain ⟨k9, ht_k9, hb_k9⟩ := nI_nn2 c1
    rw [ht_k9] at hl
    refine lv_iload_n hx hb dX10_letterOf_4 rfl (lv_at hl 1 rfl) ?_
    refine lv_aload_n hx hb dX10_letterOf_5 rfl (lv_at hl 0 rfl) ?_
    refine c_get (v := .int (nI nm)) (C := RX10) (Tc := TX10) (N := 15) (ci := 7) hx hb hq pin_wsX100 hown hE hP hO 2 (sg_2 G h0 a _ _ _ _ _) rfl 13 (by decide) (hq _ pw_1255) (fun _ h9 => h9) rfl dX10_letterOf_6 ?_
    refine lv_icmp_ge (tgt := 30) hx hb dX10_letterOf_9 (by decide) (fun c3 => ?_) (fun c3 => ?_)
    · have n4 : nm ≤ k9 := (nI_leI (a := nm) (b := k9) (by omega) (by omega)).mp c3
      refine lv_iconst (v := 0) hx hb dX10_letterOf_30 (by decide) ?_
      refine lv_istore_n (lv' := [(3, .int 0), (0, .ref (a 1)), (1, .int (nI k9)), (2, .int y)]) hx hb dX10_letterOf_31 rfl hl (by decide) rfl (fun ls hl => ?_)
      refine lv_iload_n hx hb dX10_letterOf_32 rfl (lv_at hl 0 rfl) ?_
      refine lv_if_eq (tgt := 56) hx hb dX10_letterOf_33 (by decide) (fun c5 => ?_) (fun c5 => absurd c5 (by decide))
      refine lv_iconst (v := (-1)) hx hb dX10_letterOf_56 (by decide) ?_
      have hO : OKW G h0 a (upd F 3 (nI nm)) R Z (updA (updA (updA (updA B 12 ns) 13 nl) 14 nn) 15 bk) J T Pi w := hO.to rfl
      exact W.iret (v := (-1)) hx hb hr (fun t99 ht99 hW99 => ⟨⟨_, (w, ((-1) : Int32)), rfl, ⟨rfl, hO⟩, by rw [ht99]; exact hP, hD⟩, hS.F ht99⟩) hS.2.2 dX10_letterOf_57
    · have n6 : ¬ (nm ≤ k9) := fun h9 => c3 ((nI_leI (a := nm) (b := k9) (by omega) (by omega)).mpr h9)
      refine lv_iload_n hx hb dX10_letterOf_12 rfl (lv_at hl 2 rfl) ?_
      refine lv_if_lt (tgt := 30) hx hb dX10_letterOf_13 (by decide) (fun c7 => ?_) (fun c7 => ?_)
      · refine lv_iconst (v := 0) hx hb dX10_letterOf_30 (by decide) ?_
        refine lv_istore_n (lv' := [(3, .int 0), (0, .ref (a 1)), (1, .int (nI k9)), (2, .int y)]) hx hb dX10_letterOf_31 rfl hl (by decide) rfl (fun ls hl => ?_)
        refine lv_iload_n hx hb dX10_letterOf_32 rfl (lv_at hl 0 rfl) ?_
        refine lv_if_eq (tgt := 56) hx hb dX10_letterOf_33 (by decide) (fun c8 => ?_) (fun c8 => absurd c8 (by decide))
        refine lv_iconst (v := (-1)) hx hb dX10_letterOf_56 (by decide) ?_
        have hO : OKW G h0 a (upd F 3 (nI nm)) R Z (updA (updA (updA (updA B 12 ns) 13 nl) 14 nn) 15 bk) J T Pi w := hO.to rfl
        exact W.iret (v := (-1)) hx hb hr (fun t99 ht99 hW99 => ⟨⟨_, (w, ((-1) : Int32)), rfl, ⟨rfl, hO⟩, by rw [ht99]; exact hP, hD⟩, hS.F ht99⟩) hS.2.2 dX10_letterOf_57
      · obtain ⟨i9, ht_i9, hb_i9⟩ := nI_nn2 c7
        rw [ht_i9] at hl
        refine lv_iload_n hx hb dX10_letterOf_16 rfl (lv_at hl 2 rfl) ?_
        refine lv_aload_n hx hb dX10_letterOf_17 rfl (lv_at hl 0 rfl) ?_
        refine c_get (v := .ref (a 13)) (C := RX10) (Tc := TX10) (N := 15) (ci := 7) hx hb hq pin_wsX100 hown hE hP hO 2 (sg_2 G h0 a _ _ _ _ _) rfl 10 (by decide) (hq _ pw_1246) (fun _ h9 => h9) rfl dX10_letterOf_18 ?_
        refine lv_iload_n hx hb dX10_letterOf_21 rfl (lv_at hl 1 rfl) ?_
        refine c_ldi (f := nl) (n := 2540) (t0 := 0) hx hb hE hP hO 10 (sg_10 G h0 a _ _ _ _ _) rfl (vp_in_nI (by omega) (by decide)) dX10_letterOf_22 ?_
        rw [(nI_clamp (show k9 < 2 ^ 31 by omega))]
        obtain ⟨p9, q9, ep9, eq9, hpq9⟩ := hnm.2.1 k9 (by omega)
        refine lv_topi (fun x9 e10 => ?_)
        obtain rfl : x9 = nI q9 := e10.trans eq9
        refine lv_icmp_ge (tgt := 30) hx hb dX10_letterOf_23 (by decide) (fun c11 => ?_) (fun c11 => ?_)
        · have n12 : q9 ≤ i9 := (nI_leI (a := q9) (b := i9) (by omega) (by omega)).mp c11
          refine lv_iconst (v := 0) hx hb dX10_letterOf_30 (by decide) ?_
          refine lv_istore_n (lv' := [(3, .int 0), (0, .ref (a 1)), (1, .int (nI k9)), (2, .int (nI i9))]) hx hb dX10_letterOf_31 rfl hl (by decide) rfl (fun ls hl => ?_)
          refine lv_iload_n hx hb dX10_letterOf_32 rfl (lv_at hl 0 rfl) ?_
          refine lv_if_eq (tgt := 56) hx hb dX10_letterOf_33 (by decide) (fun c13 => ?_) (fun c13 => absurd c13 (by decide))
          refine lv_iconst (v := (-1)) hx hb dX10_letterOf_56 (by decide) ?_
          have hO : OKW G h0 a (upd F 3 (nI nm)) R Z (updA (updA (updA (updA B 12 ns) 13 nl) 14 nn) 15 bk) J T Pi w := hO.to rfl
          exact W.iret (v := (-1)) hx hb hr (fun t99 ht99 hW99 => ⟨⟨_, (w, ((-1) : Int32)), rfl, ⟨rfl, hO⟩, by rw [ht99]; exact hP, hD⟩, hS.F ht99⟩) hS.2.2 dX10_letterOf_57
        · have n14 : ¬ (q9 ≤ i9) := fun h9 => c11 ((nI_leI (a := q9) (b := i9) (by omega) (by omega)).mpr h9)
          refine lv_iconst (v := 1) hx hb dX10_letterOf_26 (by decide) ?_
          refine lv_goto (tgt := 31) hx hb dX10_letterOf_27 (by decide) ?_
          refine lv_istore_n (lv' := [(3, .int 1), (0, .ref (a 1)), (1, .int (nI k9)), (2, .int (nI i9))]) hx hb dX10_letterOf_31 rfl hl (by decide) rfl (fun ls hl => ?_)
          refine lv_iload_n hx hb dX10_letterOf_32 rfl (lv_at hl 0 rfl) ?_
          refine lv_if_eq (tgt := 56) hx hb dX10_letterOf_33 (by decide) (fun c15 => absurd c15 (by decide)) (fun c15 => ?_)
          refine lv_aload_n hx hb dX10_letterOf_36 rfl (lv_at hl 1 rfl) ?_
          refine c_get (v := .ref (a 6)) (C := RX10) (Tc := TX10) (N := 15) (ci := 7) hx hb hq pin_wsX100 hown hE hP hO 2 (sg_2 G h0 a _ _ _ _ _) rfl 0 (by decide) (hq _ pw_1234) (fun _ h9 => h9) rfl dX10_letterOf_37 ?_
          refine lv_aload_n hx hb dX10_letterOf_40 rfl (lv_at hl 1 rfl) ?_
          refine c_get (v := .ref (a 12)) (C := RX10) (Tc := TX10) (N := 15) (ci := 7) hx hb hq pin_wsX100 hown hE hP hO 2 (sg_2 G h0 a _ _ _ _ _) rfl 9 (by decide) (hq _ pw_1245) (fun _ h9 => h9) rfl dX10_letterOf_41 ?_
          refine lv_iload_n hx hb dX10_letterOf_44 rfl (lv_at hl 2 rfl) ?_
          refine c_ldi (f := ns) (n := 2540) (t0 := 0) hx hb hE hP hO 9 (sg_9 G h0 a _ _ _ _ _) rfl (vp_in_nI (by omega) (by decide)) dX10_letterOf_45 ?_
          rw [(nI_clamp (show k9 < 2 ^ 31 by omega))]
          refine lv_topi (fun x16 e17 => ?_)
          obtain rfl : x16 = nI p9 := e17.trans ep9
          refine lv_iload_n hx hb dX10_letterOf_46 rfl (lv_at hl 3 rfl) ?_
          refine lv_iadd hx hb dX10_letterOf_47 ?_
          refine lv_topi (fun x18 e19 => ?_)
          obtain rfl : x18 = nI (p9 + i9) := e19.trans (nI_add (p9) (i9))
          refine c_ldb (f := (B 6)) (n := 5220) (t0 := 1) hx hb hE hP hO 3 (sg_3 G h0 a _ _ _ _ _) rfl (vp_in_nI (by omega) (by decide)) dX10_letterOf_48 ?_
          rw [(nI_clamp (show (p9 + i9) < 2 ^ 31 by omega))]
          refine lv_topi (fun x20 e21 => ?_)
          refine lv_sipush (v := 255) hx hb dX10_letterOf_49 (by decide) ?_
          refine lv_iand hx hb dX10_letterOf_52 ?_
          obtain ⟨b22, hb23, eb24⟩ := and255 x20
          refine lv_topi (fun x25 e26 => ?_)
          obtain rfl : x25 = nI b22 := e26.trans eb24
          refine lv_goto (tgt := 57) hx hb dX10_letterOf_53 (by decide) ?_
          have hO : OKW G h0 a (upd F 3 (nI nm)) R Z (updA (updA (updA (updA B 12 ns) 13 nl) 14 nn) 15 bk) J T Pi w := hO.to rfl
          exact W.iret (v := (nI b22)) hx hb hr (fun t99 ht99 hW99 => ⟨⟨_, (w, (nI b22)), rfl, ⟨rfl, hO⟩, by rw [ht99]; exact hP, hD⟩, hS.F ht99⟩) hS.2.2 dX10_letterOf_57
theorem dX10_add_0 : decode cX10_add 0 = .ok (.aload_n 0, 1) := by decide +kernel
theorem dX10_add_1 : decode cX10_add 1 = .ok (.getfield 84, 3) := by decide +kernel
theorem dX10_add_4 : decode cX10_add 4 = .ok (.aload_n 0, 1) := by decide +kernel
theorem dX10_add_5 : decode cX10_add 5 = .ok (.getfield 35, 3) := by decide +kernel
theorem dX10_add_8 : decode cX10_add 8 = .ok (.arraylength, 1) := by decide +kernel
theorem dX10_add_9 : decode cX10_add 9 = .ok (.if_icmp .ge 64, 3) := by decide +kernel
theorem dX10_add_73 : decode cX10_add 73 = .ok (.iload 4, 2) := by decide +kernel
theorem dX10_add_75 : decode cX10_add 75 = .ok (.ireturn, 1) := by decide +kernel
theorem dX10_add_12 : decode cX10_add 12 = .ok (.aload_n 0, 1) := by decide +kernel
theorem dX10_add_13 : decode cX10_add 13 = .ok (.getfield 35, 3) := by decide +kernel
theorem dX10_add_16 : decode cX10_add 16 = .ok (.aload_n 0, 1) := by decide +kernel
theorem dX10_add_17 : decode cX10_add 17 = .ok (.getfield 84, 3) := by decide +kernel
theorem dX10_add_20 : decode cX10_add 20 = .ok (.iload_n 1, 1) := by decide +kernel
theorem dX10_add_21 : decode cX10_add 21 = .ok (.iastore, 1) := by decide +kernel
theorem dX10_add_22 : decode cX10_add 22 = .ok (.aload_n 0, 1) := by decide +kernel
theorem dX10_add_23 : decode cX10_add 23 = .ok (.getfield 39, 3) := by decide +kernel
theorem dX10_add_26 : decode cX10_add 26 = .ok (.aload_n 0, 1) := by decide +kernel
theorem dX10_add_27 : decode cX10_add 27 = .ok (.getfield 84, 3) := by decide +kernel
theorem dX10_add_30 : decode cX10_add 30 = .ok (.iload_n 2, 1) := by decide +kernel
theorem dX10_add_31 : decode cX10_add 31 = .ok (.iastore, 1) := by decide +kernel
theorem dX10_add_32 : decode cX10_add 32 = .ok (.aload_n 0, 1) := by decide +kernel
theorem dX10_add_33 : decode cX10_add 33 = .ok (.getfield 42, 3) := by decide +kernel
theorem dX10_add_36 : decode cX10_add 36 = .ok (.aload_n 0, 1) := by decide +kernel
theorem dX10_add_37 : decode cX10_add 37 = .ok (.getfield 84, 3) := by decide +kernel
theorem dX10_add_40 : decode cX10_add 40 = .ok (.iload_n 3, 1) := by decide +kernel
theorem dX10_add_41 : decode cX10_add 41 = .ok (.iastore, 1) := by decide +kernel
theorem dX10_add_42 : decode cX10_add 42 = .ok (.aload_n 0, 1) := by decide +kernel
theorem dX10_add_43 : decode cX10_add 43 = .ok (.getfield 45, 3) := by decide +kernel
theorem dX10_add_46 : decode cX10_add 46 = .ok (.aload_n 0, 1) := by decide +kernel
theorem dX10_add_47 : decode cX10_add 47 = .ok (.getfield 84, 3) := by decide +kernel
theorem dX10_add_50 : decode cX10_add 50 = .ok (.iconst 0, 1) := by decide +kernel
theorem dX10_add_51 : decode cX10_add 51 = .ok (.bastore, 1) := by decide +kernel
theorem dX10_add_52 : decode cX10_add 52 = .ok (.aload_n 0, 1) := by decide +kernel
theorem dX10_add_53 : decode cX10_add 53 = .ok (.getfield 48, 3) := by decide +kernel
theorem dX10_add_56 : decode cX10_add 56 = .ok (.aload_n 0, 1) := by decide +kernel
theorem dX10_add_57 : decode cX10_add 57 = .ok (.getfield 84, 3) := by decide +kernel
theorem dX10_add_60 : decode cX10_add 60 = .ok (.bipush 63, 2) := by decide +kernel
theorem dX10_add_62 : decode cX10_add 62 = .ok (.iastore, 1) := by decide +kernel
theorem dX10_add_63 : decode cX10_add 63 = .ok (.aload_n 0, 1) := by decide +kernel
theorem dX10_add_64 : decode cX10_add 64 = .ok (.dup, 1) := by decide +kernel
theorem dX10_add_65 : decode cX10_add 65 = .ok (.getfield 84, 3) := by decide +kernel
theorem dX10_add_68 : decode cX10_add 68 = .ok (.iconst 1, 1) := by decide +kernel
theorem dX10_add_69 : decode cX10_add 69 = .ok (.iadd, 1) := by decide +kernel
theorem dX10_add_70 : decode cX10_add 70 = .ok (.putfield 84, 3) := by decide +kernel
set_option maxHeartbeats 2000000 in
set_option maxRecDepth 100000 in
theorem K_add (l : Launch) (G : pT) (h0 : Nat) (a : Nat → Nat) (F : Nat → Int32) (R : Nat → Value) (Z : Int64) (B : Nat → Nat → Int32) (J : Nat → Nat → Int64) (T : Nat → Nat) (Pi : Nat → va_E → Prop) (w : va_W) (x1 : Int32) (x2 : Int32) (x3 : Int32) (x4 : Int32) (sz : Nat) (hsz : sz ≤ 5000) (hO : OKW G h0 a (upd F 2 (nI sz)) R Z B J T Pi w) : PM l G pX0 yX10_add cX10_add 5 (some .int) ({ frames := 2, cells := 0, slots := 0, locals := 60 }) [.ref (a 1), .int x1, .int x2, .int x3, .int x4] w (fun (v : Option Value) (u : va_W × (Nat × (Nat → Int32) × (Nat → Int32) × (Nat → Int32) × (Nat → Int32) × (Nat → Int32))) => v = some (.int x4) ∧ (u.2.1 ≤ 5000) ∧ (u.2.1 ≤ sz + 1) ∧ (OKW G h0 a (upd F 2 (nI u.2.1)) R Z (updA (updA (updA (updA (updA B 7 u.2.2.1) 8 u.2.2.2.1) 9 u.2.2.2.2.1) 10 u.2.2.2.2.2.1) 11 u.2.2.2.2.2.2) J T Pi u.1)) (fun u => u.1) := by
  intro sz
  refine Met.ofW (cc := cX10_add) (maxL := 5) (ret := (some .int)) (by decide) rfl ?_
  intro p e s m args below meth c s₁ B9 hml hv
  obtain ⟨rfl, hsz, hP, hD0, hE, hX⟩ := hv
  have hx := B9.exec
  have hb := B9.bytes
  have hr := B9.returns
  have hts := atoms_spec (ws := Cond.code yX10_add cX10_add 5 (some .int) :: pw) B9.pre
  have hq : ∀ w ∈ pw, w.before _ s = true := fun w h => hts w (List.mem_cons_of_mem _ h)
  have hown : s.vm.findClass RX10 = some m.cls := findClass_of_methodNamed B9.named
  have hlocks := B9.notSynchronized
  subst hsz
  have hD := hD0.self (sz := s.heap.size)
  have hA : ∀ q : Nat, s.heap.size ≤ q → va_A w s.heap.size q := fun q h => Or.inr h
  generalize va_A w s.heap.size = A at hD hE hA ⊢
  have hS : va_S A s.heap s.heap [] := va_S.rf
  have hl := lv_entry ([.ref (a 1), .int x1, .int x2, .int x3, .int x4]) (n := 5) (Nat.le_of_ble_eq_true rfl)
  rw [lg_entry_eq]
  generalize (lg_sl ([.ref (a 1), .int x1, .int x2, .int x3, .int x4]) ++ List.replicate (5 - (lg_sl ([.ref (a 1), .int x1, .int x2, .int x3, .int x4])).length) Slot.unset).toArray = ls at hl ⊢
  have hl : lv_has ls 5 [(0, .ref (a 1)), (1, .int x1), (2, .int x2), (3, .int x3), (4, .int x4)] := hl
  refine lv_aload_n hx hb dX10_add_0 rfl (lv_at hl 0 rfl) ?_
  refine c_get (v := .int (nI sz)) (C := RX10) (Tc := TX10) (N := 15) (ci := 7) hx hb hq pin_wsX100 hown hE hP hO 2 (sg_2 G h0 a _ _ _ _ _) rfl 8 (by decide) (hq _ pw_37) (fun _ h9 => h9) rfl dX10_add_1 ?_
  refine lv_aload_n hx hb dX10_add_4 rfl (lv_at hl 0 rfl) ?_
  refine c_get (v := .ref (a 7)) (C := RX10) (Tc := TX10) (N := 15) (ci := 7) hx hb hq pin_wsX100 hown hE hP hO 2 (sg_2 G h0 a _ _ _ _ _) rfl 3 (by decide) (hq _ pw_127) (fun _ h9 => h9) rfl dX10_add_5 ?_
  refine c_len (n := 0) (t0 := 0) (v := 5000) hx hb hE hP hO 4 (sg_4 G h0 a _ _ _ _ _) rfl rfl dX10_add_8 ?_
  refine lv_icmp_ge (tgt := 73) hx hb dX10_add_9 (by decide) (fun c1 => ?_) (fun c1 => ?_)
  · have n2 : 5000 ≤ sz := (nI_leI (a := 5000) (b := sz) (by omega) (by omega)).mp c1
    refine lv_iload hx hb dX10_add_73 (lv_at hl 4 rfl) ?_
    have hz3 : sz ≤ 5000 := (by omega)
    have hz4 : sz ≤ sz + 1 := (by omega)
    have hO : OKW G h0 a (upd F 2 (nI sz)) R Z (updA (updA (updA (updA (updA B 7 (B 7)) 8 (B 8)) 9 (B 9)) 10 (B 10)) 11 (B 11)) J T Pi w := hO.to rfl
    exact W.iret (v := x4) hx hb hr (fun t99 ht99 hW99 => ⟨⟨_, (w, (sz, (B 7), (B 8), (B 9), (B 10), (B 11))), rfl, ⟨rfl, hz3, hz4, hO⟩, by rw [ht99]; exact hP, hD⟩, hS.F ht99⟩) hS.2.2 dX10_add_75
  · have n5 : ¬ (5000 ≤ sz) := fun h9 => c1 ((nI_leI (a := 5000) (b := sz) (by omega) (by omega)).mpr h9)
    refine lv_aload_n hx hb dX10_add_12 rfl (lv_at hl 0 rfl) ?_
    refine c_get (v := .ref (a 7)) (C := RX10) (Tc := TX10) (N := 15) (ci := 7) hx hb hq pin_wsX100 hown hE hP hO 2 (sg_2 G h0 a _ _ _ _ _) rfl 3 (by decide) (hq _ pw_127) (fun _ h9 => h9) rfl dX10_add_13 ?_
    refine lv_aload_n hx hb dX10_add_16 rfl (lv_at hl 0 rfl) ?_
    refine c_get (v := .int (nI sz)) (C := RX10) (Tc := TX10) (N := 15) (ci := 7) hx hb hq pin_wsX100 hown hE hP hO 2 (sg_2 G h0 a _ _ _ _ _) rfl 8 (by decide) (hq _ pw_37) (fun _ h9 => h9) rfl dX10_add_17 ?_
    refine lv_iload_n hx hb dX10_add_20 rfl (lv_at hl 1 rfl) ?_
    refine c_sti (f := (B 7)) (n := 5000) (t0 := 0) hx hb hE hP hD hS hO 4 (sg_4 G h0 a _ _ _ _ _) rfl (vp_in_nI (by omega) (by decide)) (sb_7 G h0 a _ _ _ _ _ _) dX10_add_21 (fun H locs w hP hD hS hO => ?_)
    rw [(nI_clamp (show sz < 2 ^ 31 by omega))] at hO
    refine lv_aload_n hx hb dX10_add_22 rfl (lv_at hl 0 rfl) ?_
    refine c_get (v := .ref (a 8)) (C := RX10) (Tc := TX10) (N := 15) (ci := 7) hx hb hq pin_wsX100 hown hE hP hO 2 (sg_2 G h0 a _ _ _ _ _) rfl 4 (by decide) (hq _ pw_46) (fun _ h9 => h9) rfl dX10_add_23 ?_
    refine lv_aload_n hx hb dX10_add_26 rfl (lv_at hl 0 rfl) ?_
    refine c_get (v := .int (nI sz)) (C := RX10) (Tc := TX10) (N := 15) (ci := 7) hx hb hq pin_wsX100 hown hE hP hO 2 (sg_2 G h0 a _ _ _ _ _) rfl 8 (by decide) (hq _ pw_37) (fun _ h9 => h9) rfl dX10_add_27 ?_
    refine lv_iload_n hx hb dX10_add_30 rfl (lv_at hl 2 rfl) ?_
    refine c_sti (f := (B 8)) (n := 5000) (t0 := 0) hx hb hE hP hD hS hO 5 (sg_5 G h0 a _ _ _ _ _) rfl (vp_in_nI (by omega) (by decide)) (sb_8 G h0 a _ _ _ _ _ _) dX10_add_31 (fun H locs w hP hD hS hO => ?_)
    rw [(nI_clamp (show sz < 2 ^ 31 by omega))] at hO
    refine lv_aload_n hx hb dX10_add_32 rfl (lv_at hl 0 rfl) ?_
    refine c_get (v := .ref (a 9)) (C := RX10) (Tc := TX10) (N := 15) (ci := 7) hx hb hq pin_wsX100 hown hE hP hO 2 (sg_2 G h0 a _ _ _ _ _) rfl 5 (by decide) (hq _ pw_40) (fun _ h9 => h9) rfl dX10_add_33 ?_
    refine lv_aload_n hx hb dX10_add_36 rfl (lv_at hl 0 rfl) ?_
    refine c_get (v := .int (nI sz)) (C := RX10) (Tc := TX10) (N := 15) (ci := 7) hx hb hq pin_wsX100 hown hE hP hO 2 (sg_2 G h0 a _ _ _ _ _) rfl 8 (by decide) (hq _ pw_37) (fun _ h9 => h9) rfl dX10_add_37 ?_
    refine lv_iload_n hx hb dX10_add_40 rfl (lv_at hl 3 rfl) ?_
    refine c_sti (f := (B 9)) (n := 5000) (t0 := 0) hx hb hE hP hD hS hO 6 (sg_6 G h0 a _ _ _ _ _) rfl (vp_in_nI (by omega) (by decide)) (sb_9 G h0 a _ _ _ _ _ _) dX10_add_41 (fun H locs w hP hD hS hO => ?_)
    rw [(nI_clamp (show sz < 2 ^ 31 by omega))] at hO
    refine lv_aload_n hx hb dX10_add_42 rfl (lv_at hl 0 rfl) ?_
    refine c_get (v := .ref (a 10)) (C := RX10) (Tc := TX10) (N := 15) (ci := 7) hx hb hq pin_wsX100 hown hE hP hO 2 (sg_2 G h0 a _ _ _ _ _) rfl 6 (by decide) (hq _ pw_820) (fun _ h9 => h9) rfl dX10_add_43 ?_
    refine lv_aload_n hx hb dX10_add_46 rfl (lv_at hl 0 rfl) ?_
    refine c_get (v := .int (nI sz)) (C := RX10) (Tc := TX10) (N := 15) (ci := 7) hx hb hq pin_wsX100 hown hE hP hO 2 (sg_2 G h0 a _ _ _ _ _) rfl 8 (by decide) (hq _ pw_37) (fun _ h9 => h9) rfl dX10_add_47 ?_
    refine lv_iconst (v := 0) hx hb dX10_add_50 (by decide) ?_
    refine c_stb (f := (B 10)) (n := 5000) (t0 := 1) hx hb hE hP hD hS hO 7 (sg_7 G h0 a _ _ _ _ _) rfl (vp_in_nI (by omega) (by decide)) (sb_10 G h0 a _ _ _ _ _ _) dX10_add_51 (fun H locs w hP hD hS hO => ?_)
    rw [(nI_clamp (show sz < 2 ^ 31 by omega))] at hO
    refine lv_aload_n hx hb dX10_add_52 rfl (lv_at hl 0 rfl) ?_
    refine c_get (v := .ref (a 11)) (C := RX10) (Tc := TX10) (N := 15) (ci := 7) hx hb hq pin_wsX100 hown hE hP hO 2 (sg_2 G h0 a _ _ _ _ _) rfl 7 (by decide) (hq _ pw_38) (fun _ h9 => h9) rfl dX10_add_53 ?_
    refine lv_aload_n hx hb dX10_add_56 rfl (lv_at hl 0 rfl) ?_
    refine c_get (v := .int (nI sz)) (C := RX10) (Tc := TX10) (N := 15) (ci := 7) hx hb hq pin_wsX100 hown hE hP hO 2 (sg_2 G h0 a _ _ _ _ _) rfl 8 (by decide) (hq _ pw_37) (fun _ h9 => h9) rfl dX10_add_57 ?_
    refine lv_bipush (v := 63) hx hb dX10_add_60 (by decide) ?_
    refine c_sti (f := (B 11)) (n := 5000) (t0 := 0) hx hb hE hP hD hS hO 8 (sg_8 G h0 a _ _ _ _ _) rfl (vp_in_nI (by omega) (by decide)) (sb_11 G h0 a _ _ _ _ _ _) dX10_add_62 (fun H locs w hP hD hS hO => ?_)
    rw [(nI_clamp (show sz < 2 ^ 31 by omega))] at hO
    refine lv_aload_n hx hb dX10_add_63 rfl (lv_at hl 0 rfl) ?_
    refine lv_dup hx hb dX10_add_64 rfl ?_
    refine c_get (v := .int (nI sz)) (C := RX10) (Tc := TX10) (N := 15) (ci := 7) hx hb hq pin_wsX100 hown hE hP hO 2 (sg_2 G h0 a _ _ _ _ _) rfl 8 (by decide) (hq _ pw_37) (fun _ h9 => h9) rfl dX10_add_65 ?_
    refine lv_iconst (v := 1) hx hb dX10_add_68 (by decide) ?_
    refine lv_iadd hx hb dX10_add_69 ?_
    refine lv_topi (fun x6 e7 => ?_)
    obtain rfl : x6 = nI (sz + 1) := e7.trans (nI_add (sz) (1))
    refine c_put (v := .int (nI (sz + 1))) (ty := .int) (C := RX10) (Tc := TX10) (N := 15) (ci := 7) hx hb hq pin_wsX100 tyX10 tyX10_ok nmX10 hown hE hP hD hS hO 2 (sg_2 G h0 a _ _ _ _ _) rfl 8 (by decide) (hq _ pw_37) (fun _ h9 => h9) rfl (by decide +kernel) rfl rfl (Nat.le_of_ble_eq_true rfl) (sf_2 G h0 a _ _ _ _ _ (nI (sz + 1))) dX10_add_70 (fun H locs w hP hD hS hO => ?_)
    refine lv_iload hx hb dX10_add_73 (lv_at hl 4 rfl) ?_
    have hz8 : (sz + 1) ≤ 5000 := (by omega)
    have hz9 : (sz + 1) ≤ sz + 1 := (by omega)
    have hO : OKW G h0 a (upd F 2 (nI (sz + 1))) R Z (updA (updA (updA (updA (updA B 7 (upd (B 7) sz x1)) 8 (upd (B 8) sz x2)) 9 (upd (B 9) sz x3)) 10 (upd (B 10) sz (vp_nar .byte 0))) 11 (upd (B 11) sz 63)) J T Pi w := hO.to rfl
    exact W.iret (v := x4) hx hb hr (fun t99 ht99 hW99 => ⟨⟨_, (w, ((sz + 1), (upd (B 7) sz x1), (upd (B 8) sz x2), (upd (B 9) sz x3), (upd (B 10) sz (vp_nar .byte 0)), (upd (B 11) sz 63))), rfl, ⟨rfl, hz8, hz9, hO⟩, by rw [ht99]; exact hP, hD⟩, hS.F ht99⟩) hS.2.2 dX10_add_75

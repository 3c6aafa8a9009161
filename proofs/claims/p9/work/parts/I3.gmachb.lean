theorem lt5_nn {x : Int32} (h : ¬ x < 5) : ¬ x < 0 := fun q => h (by
  rw [Int32.lt_iff_toInt_lt] at q ⊢
  have z1 : (0 : Int32).toInt = 0 := by decide
  have z2 : (5 : Int32).toInt = 5 := by decide
  omega)
theorem dX5_takeInput_0 : decode cX5_takeInput 0 = .ok (.aload_n 0, 1) := by decide +kernel
theorem dX5_takeInput_1 : decode cX5_takeInput 1 = .ok (.getfield 39, 3) := by decide +kernel
theorem dX5_takeInput_4 : decode cX5_takeInput 4 = .ok (.sipush 200, 3) := by decide +kernel
theorem dX5_takeInput_7 : decode cX5_takeInput 7 = .ok (.if_icmp .lt 5, 3) := by decide +kernel
theorem dX5_takeInput_12 : decode cX5_takeInput 12 = .ok (.aload_n 0, 1) := by decide +kernel
theorem dX5_takeInput_13 : decode cX5_takeInput 13 = .ok (.getfield 30, 3) := by decide +kernel
theorem dX5_takeInput_16 : decode cX5_takeInput 16 = .ok (.aload_n 0, 1) := by decide +kernel
theorem dX5_takeInput_17 : decode cX5_takeInput 17 = .ok (.getfield 39, 3) := by decide +kernel
theorem dX5_takeInput_20 : decode cX5_takeInput 20 = .ok (.iload_n 1, 1) := by decide +kernel
theorem dX5_takeInput_21 : decode cX5_takeInput 21 = .ok (.iastore, 1) := by decide +kernel
theorem dX5_takeInput_22 : decode cX5_takeInput 22 = .ok (.aload_n 0, 1) := by decide +kernel
theorem dX5_takeInput_23 : decode cX5_takeInput 23 = .ok (.dup, 1) := by decide +kernel
theorem dX5_takeInput_24 : decode cX5_takeInput 24 = .ok (.getfield 39, 3) := by decide +kernel
theorem dX5_takeInput_27 : decode cX5_takeInput 27 = .ok (.iconst 1, 1) := by decide +kernel
theorem dX5_takeInput_28 : decode cX5_takeInput 28 = .ok (.iadd, 1) := by decide +kernel
theorem dX5_takeInput_29 : decode cX5_takeInput 29 = .ok (.putfield 39, 3) := by decide +kernel
theorem dX5_takeInput_32 : decode cX5_takeInput 32 = .ok (.aload_n 0, 1) := by decide +kernel
theorem dX5_takeInput_33 : decode cX5_takeInput 33 = .ok (.getfield 39, 3) := by decide +kernel
theorem dX5_takeInput_36 : decode cX5_takeInput 36 = .ok (.ireturn, 1) := by decide +kernel
theorem dX5_takeInput_10 : decode cX5_takeInput 10 = .ok (.iconst (-1), 1) := by decide +kernel
theorem dX5_takeInput_11 : decode cX5_takeInput 11 = .ok (.ireturn, 1) := by decide +kernel
set_option maxHeartbeats 6000000 in
set_option maxRecDepth 100000 in
theorem M_takeInput (l : Launch) (G : pT) (h0 : Nat) (a : Nat → Nat) (F : Nat → Int32) (R : Nat → Value) (Z : Int64) (B : Nat → Nat → Int32) (J : Nat → Nat → Int64) (T : Nat → Nat) (Pi : Nat → va_E → Prop) (w : va_W) (x : Int32) (ni : Nat) (hni : ni ≤ 200) (hO : OKW G h0 a (upd F 17 (nI ni)) R Z B J T Pi w) : PM l G pX0 yX5_takeInput cX5_takeInput 2 (some .int) ({ frames := 2, cells := 0, slots := 0, locals := 60 }) [.ref (a 5), .int x] w (fun (v : Option Value) (u : va_W × (Nat × Int32 × (Nat → Int32))) => v = some (.int u.2.2.1) ∧ (u.2.1 ≤ 200) ∧ (InQ ni u.2.1 u.2.2.1) ∧ (OKW G h0 a (upd F 17 (nI u.2.1)) R Z (updA B 31 u.2.2.2) J T Pi u.1)) (fun u => u.1) := by
  intro sz
  refine Met.ofW (cc := cX5_takeInput) (maxL := 2) (ret := (some .int)) (by decide) rfl ?_
  intro p e s m args below meth c s₁ B9 hml hv
  obtain ⟨rfl, hsz, hP, hD0, hE, hX⟩ := hv
  have hx := B9.exec
  have hb := B9.bytes
  have hr := B9.returns
  have hts := atoms_spec (ws := Cond.code yX5_takeInput cX5_takeInput 2 (some .int) :: pw) B9.pre
  have hq : ∀ w ∈ pw, w.before _ s = true := fun w h => hts w (List.mem_cons_of_mem _ h)
  have hown : s.vm.findClass RX5 = some m.cls := findClass_of_methodNamed B9.named
  have hlocks := B9.notSynchronized
  subst hsz
  have hD := hD0.self (sz := s.heap.size)
  have hA : ∀ q : Nat, s.heap.size ≤ q → va_A w s.heap.size q := fun q h => Or.inr h
  generalize va_A w s.heap.size = A at hD hE hA ⊢
  have hS : va_S A s.heap s.heap [] := va_S.rf
  have hl := lv_entry ([.ref (a 5), .int x]) (n := 2) (Nat.le_of_ble_eq_true rfl)
  rw [lg_entry_eq]
  generalize (lg_sl ([.ref (a 5), .int x]) ++ List.replicate (2 - (lg_sl ([.ref (a 5), .int x])).length) Slot.unset).toArray = ls at hl ⊢
  have hl : lv_has ls 2 [(0, .ref (a 5)), (1, .int x)] := hl
  refine lv_aload_n hx hb dX5_takeInput_0 rfl (lv_at hl 0 rfl) ?_
  refine c_get (v := .int (nI ni)) (C := RX5) (Tc := TX5) (N := 19) (ci := 4) hx hb hq pin_wsX50 hown hE hP hO 28 (sg_28 G h0 a _ _ _ _ _) rfl 5 (by decide) (hq _ pw_482) (fun _ h9 => h9) rfl dX5_takeInput_1 ?_
  refine lv_sipush (v := 200) hx hb dX5_takeInput_4 (by decide) ?_
  refine lv_icmp_lt (tgt := 12) hx hb dX5_takeInput_7 (by decide) (fun c1 => ?_) (fun c1 => ?_)
  · have n2 : ni < 200 := (nI_ltI (a := ni) (b := 200) (by omega) (by omega)).mp c1
    refine lv_aload_n hx hb dX5_takeInput_12 rfl (lv_at hl 0 rfl) ?_
    refine c_get (v := .ref (a 31)) (C := RX5) (Tc := TX5) (N := 19) (ci := 4) hx hb hq pin_wsX50 hown hE hP hO 28 (sg_28 G h0 a _ _ _ _ _) rfl 4 (by decide) (hq _ pw_476) (fun _ h9 => h9) rfl dX5_takeInput_13 ?_
    refine lv_aload_n hx hb dX5_takeInput_16 rfl (lv_at hl 0 rfl) ?_
    refine c_get (v := .int (nI ni)) (C := RX5) (Tc := TX5) (N := 19) (ci := 4) hx hb hq pin_wsX50 hown hE hP hO 28 (sg_28 G h0 a _ _ _ _ _) rfl 5 (by decide) (hq _ pw_482) (fun _ h9 => h9) rfl dX5_takeInput_17 ?_
    refine lv_iload_n hx hb dX5_takeInput_20 rfl (lv_at hl 1 rfl) ?_
    refine c_sti (f := (B 31)) (n := 200) (t0 := 0) hx hb hE hP hD hS hO 34 (sg_34 G h0 a _ _ _ _ _) rfl (vp_in_nI (by omega) (by decide)) (sb_31 G h0 a _ _ _ _ _ _) dX5_takeInput_21 (fun H locs w hP hD hS hO => ?_)
    rw [(nI_clamp (show ni < 2 ^ 31 by omega))] at hO
    refine lv_aload_n hx hb dX5_takeInput_22 rfl (lv_at hl 0 rfl) ?_
    refine lv_dup hx hb dX5_takeInput_23 rfl ?_
    refine c_get (v := .int (nI ni)) (C := RX5) (Tc := TX5) (N := 19) (ci := 4) hx hb hq pin_wsX50 hown hE hP hO 28 (sg_28 G h0 a _ _ _ _ _) rfl 5 (by decide) (hq _ pw_482) (fun _ h9 => h9) rfl dX5_takeInput_24 ?_
    refine lv_iconst (v := 1) hx hb dX5_takeInput_27 (by decide) ?_
    refine lv_iadd hx hb dX5_takeInput_28 ?_
    refine lv_topi (fun x3 e4 => ?_)
    obtain rfl : x3 = nI (ni + 1) := e4.trans (nI_add (ni) (1))
    refine c_put (v := .int (nI (ni + 1))) (ty := .int) (C := RX5) (Tc := TX5) (N := 19) (ci := 4) hx hb hq pin_wsX50 tyX5 tyX5_ok nmX5 hown hE hP hD hS hO 28 (sg_28 G h0 a _ _ _ _ _) rfl 5 (by decide) (hq _ pw_482) (fun _ h9 => h9) rfl (by decide +kernel) rfl rfl (Nat.le_of_ble_eq_true rfl) (sf_17 G h0 a _ _ _ _ _ (nI (ni + 1))) dX5_takeInput_29 (fun H locs w hP hD hS hO => ?_)
    refine lv_aload_n hx hb dX5_takeInput_32 rfl (lv_at hl 0 rfl) ?_
    refine c_get (v := .int (nI (ni + 1))) (C := RX5) (Tc := TX5) (N := 19) (ci := 4) hx hb hq pin_wsX50 hown hE hP hO 28 (sg_28 G h0 a _ _ _ _ _) rfl 5 (by decide) (hq _ pw_482) (fun _ h9 => h9) rfl dX5_takeInput_33 ?_
    have hz5 : (ni + 1) ≤ 200 := (by omega)
    have hz6 : InQ ni (ni + 1) (nI (ni + 1)) := (Or.inl ⟨(by omega), rfl, rfl⟩)
    have hO : OKW G h0 a (upd F 17 (nI (ni + 1))) R Z (updA B 31 (upd (B 31) ni x)) J T Pi w := hO.to rfl
    exact W.iret (v := (nI (ni + 1))) hx hb hr (fun t99 ht99 hW99 => ⟨⟨_, (w, ((ni + 1), (nI (ni + 1)), (upd (B 31) ni x))), rfl, ⟨rfl, hz5, hz6, hO⟩, by rw [ht99]; exact hP, hD⟩, hS.F ht99⟩) hS.2.2 dX5_takeInput_36
  · have n7 : ¬ (ni < 200) := fun h9 => c1 ((nI_ltI (a := ni) (b := 200) (by omega) (by omega)).mpr h9)
    refine lv_iconst (v := (-1)) hx hb dX5_takeInput_10 (by decide) ?_
    have hz8 : ni ≤ 200 := (by omega)
    have hz9 : InQ ni ni ((-1) : Int32) := (Or.inr ⟨(by omega), rfl, rfl⟩)
    have hO : OKW G h0 a (upd F 17 (nI ni)) R Z (updA B 31 (B 31)) J T Pi w := hO.to rfl
    exact W.iret (v := (-1)) hx hb hr (fun t99 ht99 hW99 => ⟨⟨_, (w, (ni, ((-1) : Int32), (B 31))), rfl, ⟨rfl, hz8, hz9, hO⟩, by rw [ht99]; exact hP, hD⟩, hS.F ht99⟩) hS.2.2 dX5_takeInput_11
theorem dX5_printed_0 : decode cX5_printed 0 = .ok (.iload_n 1, 1) := by decide +kernel
theorem dX5_printed_1 : decode cX5_printed 1 = .ok (.ifCond .lt 30, 3) := by decide +kernel
theorem dX5_printed_31 : decode cX5_printed 31 = .ok (.iconst 0, 1) := by decide +kernel
theorem dX5_printed_32 : decode cX5_printed 32 = .ok (.ireturn, 1) := by decide +kernel
theorem dX5_printed_4 : decode cX5_printed 4 = .ok (.iload_n 1, 1) := by decide +kernel
theorem dX5_printed_5 : decode cX5_printed 5 = .ok (.aload_n 0, 1) := by decide +kernel
theorem dX5_printed_6 : decode cX5_printed 6 = .ok (.getfield 36, 3) := by decide +kernel
theorem dX5_printed_9 : decode cX5_printed 9 = .ok (.bipush 6, 2) := by decide +kernel
theorem dX5_printed_11 : decode cX5_printed 11 = .ok (.iaload, 1) := by decide +kernel
theorem dX5_printed_12 : decode cX5_printed 12 = .ok (.if_icmp .ge 19, 3) := by decide +kernel
theorem dX5_printed_15 : decode cX5_printed 15 = .ok (.iload_n 1, 1) := by decide +kernel
theorem dX5_printed_16 : decode cX5_printed 16 = .ok (.sipush 400, 3) := by decide +kernel
theorem dX5_printed_19 : decode cX5_printed 19 = .ok (.if_icmp .ge 12, 3) := by decide +kernel
theorem dX5_printed_22 : decode cX5_printed 22 = .ok (.aload_n 0, 1) := by decide +kernel
theorem dX5_printed_23 : decode cX5_printed 23 = .ok (.getfield 33, 3) := by decide +kernel
theorem dX5_printed_26 : decode cX5_printed 26 = .ok (.iload_n 1, 1) := by decide +kernel
theorem dX5_printed_27 : decode cX5_printed 27 = .ok (.iaload, 1) := by decide +kernel
theorem dX5_printed_28 : decode cX5_printed 28 = .ok (.goto 4, 3) := by decide +kernel
set_option maxHeartbeats 2000000 in
set_option maxRecDepth 100000 in
theorem M_printed (l : Launch) (G : pT) (h0 : Nat) (a : Nat → Nat) (F : Nat → Int32) (R : Nat → Value) (Z : Int64) (B : Nat → Nat → Int32) (J : Nat → Nat → Int64) (T : Nat → Nat) (Pi : Nat → va_E → Prop) (w : va_W) (x : Int32) (hO : OKW G h0 a F R Z B J T Pi w) : PM l G pX0 yX5_printed cX5_printed 2 (some .int) ({ frames := 2, cells := 0, slots := 0, locals := 60 }) [.ref (a 5), .int x] w (fun (v : Option Value) (u : va_W × (Int32)) => v = some (.int u.2) ∧ (OKW G h0 a F R Z B J T Pi u.1)) (fun u => u.1) := by
  intro sz
  refine Met.ofW (cc := cX5_printed) (maxL := 2) (ret := (some .int)) (by decide) rfl ?_
  intro p e s m args below meth c s₁ B9 hml hv
  obtain ⟨rfl, hsz, hP, hD0, hE, hX⟩ := hv
  have hx := B9.exec
  have hb := B9.bytes
  have hr := B9.returns
  have hts := atoms_spec (ws := Cond.code yX5_printed cX5_printed 2 (some .int) :: pw) B9.pre
  have hq : ∀ w ∈ pw, w.before _ s = true := fun w h => hts w (List.mem_cons_of_mem _ h)
  have hown : s.vm.findClass RX5 = some m.cls := findClass_of_methodNamed B9.named
  have hlocks := B9.notSynchronized
  subst hsz
  have hD := hD0.self (sz := s.heap.size)
  have hA : ∀ q : Nat, s.heap.size ≤ q → va_A w s.heap.size q := fun q h => Or.inr h
  generalize va_A w s.heap.size = A at hD hE hA ⊢
  have hS : va_S A s.heap s.heap [] := va_S.rf
  have hl := lv_entry ([.ref (a 5), .int x]) (n := 2) (Nat.le_of_ble_eq_true rfl)
  rw [lg_entry_eq]
  generalize (lg_sl ([.ref (a 5), .int x]) ++ List.replicate (2 - (lg_sl ([.ref (a 5), .int x])).length) Slot.unset).toArray = ls at hl ⊢
  have hl : lv_has ls 2 [(0, .ref (a 5)), (1, .int x)] := hl
  refine lv_iload_n hx hb dX5_printed_0 rfl (lv_at hl 1 rfl) ?_
  refine lv_if_lt (tgt := 31) hx hb dX5_printed_1 (by decide) (fun c1 => ?_) (fun c1 => ?_)
  · refine lv_iconst (v := 0) hx hb dX5_printed_31 (by decide) ?_
    have hO : OKW G h0 a F R Z B J T Pi w := hO.to rfl
    exact W.iret (v := 0) hx hb hr (fun t99 ht99 hW99 => ⟨⟨_, (w, (0 : Int32)), rfl, ⟨rfl, hO⟩, by rw [ht99]; exact hP, hD⟩, hS.F ht99⟩) hS.2.2 dX5_printed_32
  · obtain ⟨k9, ht_k9, hb_k9⟩ := nI_nn2 c1
    rw [ht_k9] at hl
    refine lv_iload_n hx hb dX5_printed_4 rfl (lv_at hl 1 rfl) ?_
    refine lv_aload_n hx hb dX5_printed_5 rfl (lv_at hl 0 rfl) ?_
    refine c_get (v := .ref (a 33)) (C := RX5) (Tc := TX5) (N := 19) (ci := 4) hx hb hq pin_wsX50 hown hE hP hO 28 (sg_28 G h0 a _ _ _ _ _) rfl 7 (by decide) (hq _ pw_478) (fun _ h9 => h9) rfl dX5_printed_6 ?_
    refine lv_bipush (v := 6) hx hb dX5_printed_9 (by decide) ?_
    refine c_ldi (f := (B 33)) (n := 12) (t0 := 0) hx hb hE hP hO 36 (sg_36 G h0 a _ _ _ _ _) rfl (by unfold vp_in; decide) dX5_printed_11 ?_
    refine W.eq (g2 := F0 m 12 ls [.int ((B 33) 6), .int (nI k9)]) rfl ?_
    refine lv_topi (fun x2 e3 => ?_)
    refine lv_icmp_ge (tgt := 31) hx hb dX5_printed_12 (by decide) (fun c4 => ?_) (fun c4 => ?_)
    · refine lv_iconst (v := 0) hx hb dX5_printed_31 (by decide) ?_
      have hO : OKW G h0 a F R Z B J T Pi w := hO.to rfl
      exact W.iret (v := 0) hx hb hr (fun t99 ht99 hW99 => ⟨⟨_, (w, (0 : Int32)), rfl, ⟨rfl, hO⟩, by rw [ht99]; exact hP, hD⟩, hS.F ht99⟩) hS.2.2 dX5_printed_32
    · refine lv_iload_n hx hb dX5_printed_15 rfl (lv_at hl 1 rfl) ?_
      refine lv_sipush (v := 400) hx hb dX5_printed_16 (by decide) ?_
      refine lv_icmp_ge (tgt := 31) hx hb dX5_printed_19 (by decide) (fun c5 => ?_) (fun c5 => ?_)
      · have n6 : 400 ≤ k9 := (nI_leI (a := 400) (b := k9) (by omega) (by omega)).mp c5
        refine lv_iconst (v := 0) hx hb dX5_printed_31 (by decide) ?_
        have hO : OKW G h0 a F R Z B J T Pi w := hO.to rfl
        exact W.iret (v := 0) hx hb hr (fun t99 ht99 hW99 => ⟨⟨_, (w, (0 : Int32)), rfl, ⟨rfl, hO⟩, by rw [ht99]; exact hP, hD⟩, hS.F ht99⟩) hS.2.2 dX5_printed_32
      · have n7 : ¬ (400 ≤ k9) := fun h9 => c5 ((nI_leI (a := 400) (b := k9) (by omega) (by omega)).mpr h9)
        refine lv_aload_n hx hb dX5_printed_22 rfl (lv_at hl 0 rfl) ?_
        refine c_get (v := .ref (a 32)) (C := RX5) (Tc := TX5) (N := 19) (ci := 4) hx hb hq pin_wsX50 hown hE hP hO 28 (sg_28 G h0 a _ _ _ _ _) rfl 6 (by decide) (hq _ pw_477) (fun _ h9 => h9) rfl dX5_printed_23 ?_
        refine lv_iload_n hx hb dX5_printed_26 rfl (lv_at hl 1 rfl) ?_
        refine c_ldi (f := (B 32)) (n := 400) (t0 := 0) hx hb hE hP hO 35 (sg_35 G h0 a _ _ _ _ _) rfl (vp_in_nI (by omega) (by decide)) dX5_printed_27 ?_
        rw [(nI_clamp (show k9 < 2 ^ 31 by omega))]
        refine lv_goto (tgt := 32) hx hb dX5_printed_28 (by decide) ?_
        have hO : OKW G h0 a F R Z B J T Pi w := hO.to rfl
        exact W.iret (v := ((B 32) k9)) hx hb hr (fun t99 ht99 hW99 => ⟨⟨_, (w, ((B 32) k9)), rfl, ⟨rfl, hO⟩, by rw [ht99]; exact hP, hD⟩, hS.F ht99⟩) hS.2.2 dX5_printed_32
theorem dX5_told_0 : decode cX5_told 0 = .ok (.iload_n 1, 1) := by decide +kernel
theorem dX5_told_1 : decode cX5_told 1 = .ok (.iconst 5, 1) := by decide +kernel
theorem dX5_told_2 : decode cX5_told 2 = .ok (.if_icmp .lt 18, 3) := by decide +kernel
theorem dX5_told_20 : decode cX5_told 20 = .ok (.iconst (-1), 1) := by decide +kernel
theorem dX5_told_21 : decode cX5_told 21 = .ok (.ireturn, 1) := by decide +kernel
theorem dX5_told_5 : decode cX5_told 5 = .ok (.iload_n 1, 1) := by decide +kernel
theorem dX5_told_6 : decode cX5_told 6 = .ok (.bipush 11, 2) := by decide +kernel
theorem dX5_told_8 : decode cX5_told 8 = .ok (.if_icmp .gt 12, 3) := by decide +kernel
theorem dX5_told_11 : decode cX5_told 11 = .ok (.aload_n 0, 1) := by decide +kernel
theorem dX5_told_12 : decode cX5_told 12 = .ok (.getfield 36, 3) := by decide +kernel
theorem dX5_told_15 : decode cX5_told 15 = .ok (.iload_n 1, 1) := by decide +kernel
theorem dX5_told_16 : decode cX5_told 16 = .ok (.iaload, 1) := by decide +kernel
theorem dX5_told_17 : decode cX5_told 17 = .ok (.goto 4, 3) := by decide +kernel
set_option maxHeartbeats 2000000 in
set_option maxRecDepth 100000 in
theorem M_told (l : Launch) (G : pT) (h0 : Nat) (a : Nat → Nat) (F : Nat → Int32) (R : Nat → Value) (Z : Int64) (B : Nat → Nat → Int32) (J : Nat → Nat → Int64) (T : Nat → Nat) (Pi : Nat → va_E → Prop) (w : va_W) (x : Int32) (hO : OKW G h0 a F R Z B J T Pi w) : PM l G pX0 yX5_told cX5_told 2 (some .int) ({ frames := 2, cells := 0, slots := 0, locals := 60 }) [.ref (a 5), .int x] w (fun (v : Option Value) (u : va_W × (Int32)) => v = some (.int u.2) ∧ (OKW G h0 a F R Z B J T Pi u.1)) (fun u => u.1) := by
  intro sz
  refine Met.ofW (cc := cX5_told) (maxL := 2) (ret := (some .int)) (by decide) rfl ?_
  intro p e s m args below meth c s₁ B9 hml hv
  obtain ⟨rfl, hsz, hP, hD0, hE, hX⟩ := hv
  have hx := B9.exec
  have hb := B9.bytes
  have hr := B9.returns
  have hts := atoms_spec (ws := Cond.code yX5_told cX5_told 2 (some .int) :: pw) B9.pre
  have hq : ∀ w ∈ pw, w.before _ s = true := fun w h => hts w (List.mem_cons_of_mem _ h)
  have hown : s.vm.findClass RX5 = some m.cls := findClass_of_methodNamed B9.named
  have hlocks := B9.notSynchronized
  subst hsz
  have hD := hD0.self (sz := s.heap.size)
  have hA : ∀ q : Nat, s.heap.size ≤ q → va_A w s.heap.size q := fun q h => Or.inr h
  generalize va_A w s.heap.size = A at hD hE hA ⊢
  have hS : va_S A s.heap s.heap [] := va_S.rf
  have hl := lv_entry ([.ref (a 5), .int x]) (n := 2) (Nat.le_of_ble_eq_true rfl)
  rw [lg_entry_eq]
  generalize (lg_sl ([.ref (a 5), .int x]) ++ List.replicate (2 - (lg_sl ([.ref (a 5), .int x])).length) Slot.unset).toArray = ls at hl ⊢
  have hl : lv_has ls 2 [(0, .ref (a 5)), (1, .int x)] := hl
  refine lv_iload_n hx hb dX5_told_0 rfl (lv_at hl 1 rfl) ?_
  refine lv_iconst (v := 5) hx hb dX5_told_1 (by decide) ?_
  refine lv_icmp_lt (tgt := 20) hx hb dX5_told_2 (by decide) (fun c1 => ?_) (fun c1 => ?_)
  · refine lv_iconst (v := (-1)) hx hb dX5_told_20 (by decide) ?_
    have hO : OKW G h0 a F R Z B J T Pi w := hO.to rfl
    exact W.iret (v := (-1)) hx hb hr (fun t99 ht99 hW99 => ⟨⟨_, (w, ((-1) : Int32)), rfl, ⟨rfl, hO⟩, by rw [ht99]; exact hP, hD⟩, hS.F ht99⟩) hS.2.2 dX5_told_21
  · obtain ⟨k9, ht_k9, hb_k9⟩ := nI_nn2 (lt5_nn c1)
    rw [ht_k9] at hl
    refine lv_iload_n hx hb dX5_told_5 rfl (lv_at hl 1 rfl) ?_
    refine lv_bipush (v := 11) hx hb dX5_told_6 (by decide) ?_
    refine lv_icmp_gt (tgt := 20) hx hb dX5_told_8 (by decide) (fun c2 => ?_) (fun c2 => ?_)
    · have n3 : 11 < k9 := (nI_ltI (a := 11) (b := k9) (by omega) (by omega)).mp c2
      refine lv_iconst (v := (-1)) hx hb dX5_told_20 (by decide) ?_
      have hO : OKW G h0 a F R Z B J T Pi w := hO.to rfl
      exact W.iret (v := (-1)) hx hb hr (fun t99 ht99 hW99 => ⟨⟨_, (w, ((-1) : Int32)), rfl, ⟨rfl, hO⟩, by rw [ht99]; exact hP, hD⟩, hS.F ht99⟩) hS.2.2 dX5_told_21
    · have n4 : ¬ (11 < k9) := fun h9 => c2 ((nI_ltI (a := 11) (b := k9) (by omega) (by omega)).mpr h9)
      refine lv_aload_n hx hb dX5_told_11 rfl (lv_at hl 0 rfl) ?_
      refine c_get (v := .ref (a 33)) (C := RX5) (Tc := TX5) (N := 19) (ci := 4) hx hb hq pin_wsX50 hown hE hP hO 28 (sg_28 G h0 a _ _ _ _ _) rfl 7 (by decide) (hq _ pw_478) (fun _ h9 => h9) rfl dX5_told_12 ?_
      refine lv_iload_n hx hb dX5_told_15 rfl (lv_at hl 1 rfl) ?_
      refine c_ldi (f := (B 33)) (n := 12) (t0 := 0) hx hb hE hP hO 36 (sg_36 G h0 a _ _ _ _ _) rfl (vp_in_nI (by omega) (by decide)) dX5_told_16 ?_
      rw [(nI_clamp (show k9 < 2 ^ 31 by omega))]
      refine lv_goto (tgt := 21) hx hb dX5_told_17 (by decide) ?_
      have hO : OKW G h0 a F R Z B J T Pi w := hO.to rfl
      exact W.iret (v := ((B 33) k9)) hx hb hr (fun t99 ht99 hW99 => ⟨⟨_, (w, ((B 33) k9)), rfl, ⟨rfl, hO⟩, by rw [ht99]; exact hP, hD⟩, hS.F ht99⟩) hS.2.2 dX5_told_21
set_option maxHeartbeats 2000000 in
set_option maxRecDepth 100000 in
theorem K_fill33 (l : Launch) (G : pT) (h0 : Nat) (a : Nat → Nat) (F : Nat → Int32) (R : Nat → Value) (Z : Int64) (B : Nat → Nat → Int32) (J : Nat → Nat → Int64) (T : Nat → Nat) (Pi : Nat → va_E → Prop) (w : va_W) (x : Int32) (hO : OKW G h0 a F R Z B J T Pi w) : PM l G pX0 yJ7_fill_53178 cJ7_fill_53178 4 none ({ frames := 2, cells := 0, slots := 0, locals := 60 }) [.ref (a 33), .int x] w (fun (v : Option Value) (u : va_W × ((Nat → Int32))) => v = none ∧ (OKW G h0 a F R Z (updA B 33 u.2) J T Pi u.1)) (fun u => u.1) := by
  intro sz
  refine Met.ofW (cc := cJ7_fill_53178) (maxL := 4) (ret := none) (by decide) rfl ?_
  intro p e s m args below meth c s₁ B9 hml hv
  obtain ⟨rfl, hsz, hP, hD0, hE, hX⟩ := hv
  have hx := B9.exec
  have hb := B9.bytes
  have hr := B9.returns
  have hts := atoms_spec (ws := Cond.code yJ7_fill_53178 cJ7_fill_53178 4 none :: pw) B9.pre
  have hq : ∀ w ∈ pw, w.before _ s = true := fun w h => hts w (List.mem_cons_of_mem _ h)
  have hown : s.vm.findClass RJ7 = some m.cls := findClass_of_methodNamed B9.named
  have hlocks := B9.notSynchronized
  subst hsz
  have hD := hD0.self (sz := s.heap.size)
  have hA : ∀ q : Nat, s.heap.size ≤ q → va_A w s.heap.size q := fun q h => Or.inr h
  generalize va_A w s.heap.size = A at hD hE hA ⊢
  have hS : va_S A s.heap s.heap [] := va_S.rf
  have hl := lv_entry ([.ref (a 33), .int x]) (n := 4) (Nat.le_of_ble_eq_true rfl)
  rw [lg_entry_eq]
  generalize (lg_sl ([.ref (a 33), .int x]) ++ List.replicate (4 - (lg_sl ([.ref (a 33), .int x])).length) Slot.unset).toArray = ls at hl ⊢
  have hl : lv_has ls 4 [(0, .ref (a 33)), (1, .int x)] := hl
  refine lv_iconst (v := 0) hx hb dJ7_fill_53178_0 (by decide) ?_
  refine lv_istore_n (lv' := [(2, .int 0), (0, .ref (a 33)), (1, .int x)]) hx hb dJ7_fill_53178_1 rfl hl (by decide) rfl (fun ls hl => ?_)
  refine lv_aload_n hx hb dJ7_fill_53178_2 rfl (lv_at hl 1 rfl) ?_
  refine c_len (n := 0) (t0 := 0) (v := 12) hx hb hE hP hO 36 (sg_36 G h0 a _ _ _ _ _) rfl rfl dJ7_fill_53178_3 ?_
  refine lv_istore_n (lv' := [(3, .int 12), (2, .int 0), (0, .ref (a 33)), (1, .int x)]) hx hb dJ7_fill_53178_4 rfl hl (by decide) rfl (fun ls hl => ?_)
  have loop_i : ∀ (n_i : Nat) (i2 : Nat) (f2 : Nat → Int32) (H : Heap) (locs : List Loc) (ls : Array Slot) (w : va_W), i2 ≤ 12 → 12 + 1 ≤ i2 + n_i → va_P G.1 pCl w H → va_D A w → va_S A s.heap H locs → OKW G h0 a F R Z (updA B 33 f2) J T Pi w → lv_has ls 4 [(3, .int 12), (2, .int (nI i2)), (1, .int x), (0, .ref (a 33))] → W p l e (headSpec (Cond.code yJ7_fill_53178 cJ7_fill_53178 4 none :: pw) ({ frames := 2, cells := 0, slots := 0, locals := 60 } : Room)).room s m ([.ref (a 33), .int x] : List Value).toArray below meth c H locs 0 0 (MQ below (pQ G A (fun (v : Option Value) (u : va_W × ((Nat → Int32))) => v = none ∧ (OKW G h0 a F R Z (updA B 33 u.2) J T Pi u.1)) (fun u => u.1)) ([.ref (a 33), .int x] : List Value).toArray s ({ frames := 2, cells := 0, slots := 0, locals := 60 } : Room).cells ({ frames := 2, cells := 0, slots := 0, locals := 60 } : Room).slots A) (F0 m 5 ls []) := by
    intro n_i
    induction n_i with
    | zero => intro i2 f2 H locs ls w hk_i hn_i; omega
    | succ n_i ih_i =>
      intro i2 f2 H locs ls w hk_i hn_i hP hD hS hO hl
      refine lv_iload_n hx hb dJ7_fill_53178_5 rfl (lv_at hl 1 rfl) ?_
      refine lv_iload_n hx hb dJ7_fill_53178_6 rfl (lv_at hl 0 rfl) ?_
      refine lv_icmp_ge (tgt := 20) hx hb dJ7_fill_53178_7 (by decide) (fun c1 => ?_) (fun c1 => ?_)
      · have n2 : 12 ≤ i2 := (nI_leI (a := 12) (b := i2) (by omega) (by omega)).mp c1
        have hO : OKW G h0 a F R Z (updA B 33 f2) J T Pi w := hO.to rfl
        exact W.vret hx hb hr (fun t99 ht99 hW99 => ⟨⟨_, (w, f2), rfl, ⟨rfl, hO⟩, by rw [ht99]; exact hP, hD⟩, hS.F ht99⟩) hS.2.2 dJ7_fill_53178_20
      · have n3 : ¬ (12 ≤ i2) := fun h9 => c1 ((nI_leI (a := 12) (b := i2) (by omega) (by omega)).mpr h9)
        refine lv_aload_n hx hb dJ7_fill_53178_10 rfl (lv_at hl 3 rfl) ?_
        refine lv_iload_n hx hb dJ7_fill_53178_11 rfl (lv_at hl 1 rfl) ?_
        refine lv_iload_n hx hb dJ7_fill_53178_12 rfl (lv_at hl 2 rfl) ?_
        refine c_sti (f := f2) (n := 12) (t0 := 0) hx hb hE hP hD hS hO 36 (sg_36 G h0 a _ _ _ _ _) rfl (vp_in_nI (by omega) (by decide)) (sb_33 G h0 a _ _ _ _ _ _) dJ7_fill_53178_13 (fun H locs w hP hD hS hO => ?_)
        rw [(nI_clamp (show i2 < 2 ^ 31 by omega))] at hO
        refine lv_iinc (v := (nI (i2 + 1))) (lv' := [(2, .int (nI (i2 + 1))), (3, .int 12), (1, .int x), (0, .ref (a 33))]) hx hb dJ7_fill_53178_14 hl (k := 1) rfl (nI_1 i2) (by decide) rfl (fun ls hl => ?_)
        refine lv_goto (tgt := 5) hx hb dJ7_fill_53178_17 (by decide) ?_
        have hO : OKW G h0 a F R Z (updA B 33 (upd f2 i2 x)) J T Pi w := hO.to rfl
        exact ih_i (i2 + 1) (upd f2 i2 x) _ _ _ _ (by omega) (by omega) hP hD hS hO (lv_sub hl [1, 0, 2, 3] rfl)
  have hO : OKW G h0 a F R Z (updA B 33 (B 33)) J T Pi w := hO.to rfl
  exact loop_i (12 + 1) 0 (B 33) _ _ _ _ (by omega) (by omega) hP hD hS hO (lv_sub hl [0, 1, 3, 2] rfl)
theorem dX5_clear_0 : decode cX5_clear 0 = .ok (.aload_n 0, 1) := by decide +kernel
theorem dX5_clear_1 : decode cX5_clear 1 = .ok (.getfield 36, 3) := by decide +kernel
theorem dX5_clear_4 : decode cX5_clear 4 = .ok (.iconst 0, 1) := by decide +kernel
theorem dX5_clear_5 : decode cX5_clear 5 = .ok (.invokestatic 84, 3) := by decide +kernel
theorem dX5_clear_8 : decode cX5_clear 8 = .ok (.aload_n 0, 1) := by decide +kernel
theorem dX5_clear_9 : decode cX5_clear 9 = .ok (.lconst 0, 1) := by decide +kernel
theorem dX5_clear_10 : decode cX5_clear 10 = .ok (.putfield 43, 3) := by decide +kernel
theorem dX5_clear_13 : decode cX5_clear 13 = .ok (.aload_n 0, 1) := by decide +kernel
theorem dX5_clear_14 : decode cX5_clear 14 = .ok (.iconst 0, 1) := by decide +kernel
theorem dX5_clear_15 : decode cX5_clear 15 = .ok (.putfield 90, 3) := by decide +kernel
theorem dX5_clear_18 : decode cX5_clear 18 = .ok (.aload_n 0, 1) := by decide +kernel
theorem dX5_clear_19 : decode cX5_clear 19 = .ok (.iconst 0, 1) := by decide +kernel
theorem dX5_clear_20 : decode cX5_clear 20 = .ok (.putfield 93, 3) := by decide +kernel
theorem dX5_clear_23 : decode cX5_clear 23 = .ok (.aload_n 0, 1) := by decide +kernel
theorem dX5_clear_24 : decode cX5_clear 24 = .ok (.aconst_null, 1) := by decide +kernel
theorem dX5_clear_25 : decode cX5_clear 25 = .ok (.putfield 96, 3) := by decide +kernel
theorem dX5_clear_28 : decode cX5_clear 28 = .ok (.aload_n 0, 1) := by decide +kernel
theorem dX5_clear_29 : decode cX5_clear 29 = .ok (.iconst 0, 1) := by decide +kernel
theorem dX5_clear_30 : decode cX5_clear 30 = .ok (.putfield 100, 3) := by decide +kernel
theorem dX5_clear_33 : decode cX5_clear 33 = .ok (.aload_n 0, 1) := by decide +kernel
theorem dX5_clear_34 : decode cX5_clear 34 = .ok (.iconst 0, 1) := by decide +kernel
theorem dX5_clear_35 : decode cX5_clear 35 = .ok (.putfield 103, 3) := by decide +kernel
theorem dX5_clear_38 : decode cX5_clear 38 = .ok (.aload_n 0, 1) := by decide +kernel
theorem dX5_clear_39 : decode cX5_clear 39 = .ok (.iconst 0, 1) := by decide +kernel
theorem dX5_clear_40 : decode cX5_clear 40 = .ok (.putfield 106, 3) := by decide +kernel
theorem dX5_clear_43 : decode cX5_clear 43 = .ok (.return_, 1) := by decide +kernel
set_option maxHeartbeats 2000000 in
set_option maxRecDepth 100000 in
theorem M_clear (l : Launch) (G : pT) (h0 : Nat) (a : Nat → Nat) (F : Nat → Int32) (R : Nat → Value) (Z : Int64) (B : Nat → Nat → Int32) (J : Nat → Nat → Int64) (T : Nat → Nat) (Pi : Nat → va_E → Prop) (w : va_W) (hO : OKW G h0 a F R Z B J T Pi w) : PM l G pX0 yX5_clear cX5_clear 1 none ({ frames := 3, cells := 0, slots := 0, locals := 83 }) [.ref (a 5)] w (fun (v : Option Value) (u : va_W × ((Nat → Int32))) => v = none ∧ (OKW G h0 a (upd (upd (upd (upd (upd F 18 0) 19 0) 20 0) 22 0) 24 0) (updR R 6 (.null)) 0 (updA B 33 u.2) J T Pi u.1)) (fun u => u.1) := by
  intro sz
  refine Met.ofW (cc := cX5_clear) (maxL := 1) (ret := none) (by decide) rfl ?_
  intro p e s m args below meth c s₁ B9 hml hv
  obtain ⟨rfl, hsz, hP, hD0, hE, hX⟩ := hv
  have hx := B9.exec
  have hb := B9.bytes
  have hr := B9.returns
  have hts := atoms_spec (ws := Cond.code yX5_clear cX5_clear 1 none :: pw) B9.pre
  have hq : ∀ w ∈ pw, w.before _ s = true := fun w h => hts w (List.mem_cons_of_mem _ h)
  have hown : s.vm.findClass RX5 = some m.cls := findClass_of_methodNamed B9.named
  have hlocks := B9.notSynchronized
  subst hsz
  have hD := hD0.self (sz := s.heap.size)
  have hA : ∀ q : Nat, s.heap.size ≤ q → va_A w s.heap.size q := fun q h => Or.inr h
  generalize va_A w s.heap.size = A at hD hE hA ⊢
  have hS : va_S A s.heap s.heap [] := va_S.rf
  have hl := lv_entry ([.ref (a 5)]) (n := 1) (Nat.le_of_ble_eq_true rfl)
  rw [lg_entry_eq]
  generalize (lg_sl ([.ref (a 5)]) ++ List.replicate (1 - (lg_sl ([.ref (a 5)])).length) Slot.unset).toArray = ls at hl ⊢
  have hl : lv_has ls 1 [(0, .ref (a 5))] := hl
  refine lv_aload_n hx hb dX5_clear_0 rfl (lv_at hl 0 rfl) ?_
  refine c_get (v := .ref (a 33)) (C := RX5) (Tc := TX5) (N := 19) (ci := 4) hx hb hq pin_wsX50 hown hE hP hO 28 (sg_28 G h0 a _ _ _ _ _) rfl 7 (by decide) (hq _ pw_478) (fun _ h9 => h9) rfl dX5_clear_1 ?_
  refine lv_iconst (v := 0) hx hb dX5_clear_4 (by decide) ?_
  have hO : OKW G h0 a F R Z B J T Pi w := hO.to rfl
  refine pc_S0 (G := G) (As := [.ref (a 33), .int 0]) (rest := []) hx hb hml hown hq hE hX pX0_al hP hD hS hA hl.1 (K_fill33 l G h0 a F R Z B J T Pi w 0 hO) (gS pw_507 pw_508 pw_433 pw_499) hS_J7_fill_53178 rfl (Nat.le_of_ble_eq_true rfl) dX5_clear_5 ⟨Nat.le_of_ble_eq_true rfl, Nat.le_of_ble_eq_true rfl⟩ ⟨Nat.le_of_ble_eq_true rfl, Nat.le_of_ble_eq_true rfl⟩ (fun v3 u1 H locs hw2 hP hD hS => ?_)
  obtain ⟨w, f4⟩ := u1
  obtain ⟨hw2, hO⟩ := hw2
  obtain rfl : v3 = none := hw2
  have hO : OKW G h0 a F R Z (updA B 33 f4) J T Pi w := hO.to rfl
  refine W.widen (k := 0) (n := 0) (Nat.le_of_ble_eq_true rfl) (Nat.le_of_ble_eq_true rfl) ?_
  refine W.eq (g2 := F0 m 8 ls []) rfl ?_
  refine lv_aload_n hx hb dX5_clear_8 rfl (lv_at hl 0 rfl) ?_
  refine lv_lconst (v := 0) hx hb dX5_clear_9 (by decide) ?_
  refine c_put (v := .long 0) (ty := .long) (C := RX5) (Tc := TX5) (N := 19) (ci := 4) hx hb hq pin_wsX50 tyX5 tyX5_ok nmX5 hown hE hP hD hS hO 28 (sg_28 G h0 a _ _ _ _ _) rfl 14 (by decide) (hq _ pw_485) (fun _ h9 => h9) rfl (by decide +kernel) rfl rfl (Nat.le_of_ble_eq_true rfl) (sz G h0 a _ _ _ _ _ 0) dX5_clear_10 (fun H locs w hP hD hS hO => ?_)
  refine lv_aload_n hx hb dX5_clear_13 rfl (lv_at hl 0 rfl) ?_
  refine lv_iconst (v := 0) hx hb dX5_clear_14 (by decide) ?_
  refine c_put (v := .int 0) (ty := .int) (C := RX5) (Tc := TX5) (N := 19) (ci := 4) hx hb hq pin_wsX50 tyX5 tyX5_ok nmX5 hown hE hP hD hS hO 28 (sg_28 G h0 a _ _ _ _ _) rfl 17 (by decide) (hq _ pw_501) (fun _ h9 => h9) rfl (by decide +kernel) rfl rfl (Nat.le_of_ble_eq_true rfl) (sf_24 G h0 a _ _ _ _ _ 0) dX5_clear_15 (fun H locs w hP hD hS hO => ?_)
  refine lv_aload_n hx hb dX5_clear_18 rfl (lv_at hl 0 rfl) ?_
  refine lv_iconst (v := 0) hx hb dX5_clear_19 (by decide) ?_
  refine c_put (v := .int 0) (ty := .int) (C := RX5) (Tc := TX5) (N := 19) (ci := 4) hx hb hq pin_wsX50 tyX5 tyX5_ok nmX5 hown hE hP hD hS hO 28 (sg_28 G h0 a _ _ _ _ _) rfl 15 (by decide) (hq _ pw_502) (fun _ h9 => h9) rfl (by decide +kernel) rfl rfl (Nat.le_of_ble_eq_true rfl) (sf_22 G h0 a _ _ _ _ _ 0) dX5_clear_20 (fun H locs w hP hD hS hO => ?_)
  refine lv_aload_n hx hb dX5_clear_23 rfl (lv_at hl 0 rfl) ?_
  refine lv_null hx hb dX5_clear_24 ?_
  refine c_put (v := .null) (ty := (.object "JinjaTongue$Method")) (C := RX5) (Tc := TX5) (N := 19) (ci := 4) hx hb hq pin_wsX50 tyX5 tyX5_ok nmX5 hown hE hP hD hS hO 28 (sg_28 G h0 a _ _ _ _ _) rfl 9 (by decide) (hq _ pw_503) (fun _ h9 => h9) rfl (by decide +kernel) rfl rfl (Nat.le_of_ble_eq_true rfl) (sr_6 G h0 a _ _ _ _ _ (.null)) dX5_clear_25 (fun H locs w hP hD hS hO => ?_)
  refine lv_aload_n hx hb dX5_clear_28 rfl (lv_at hl 0 rfl) ?_
  refine lv_iconst (v := 0) hx hb dX5_clear_29 (by decide) ?_
  refine c_put (v := .int 0) (ty := .int) (C := RX5) (Tc := TX5) (N := 19) (ci := 4) hx hb hq pin_wsX50 tyX5 tyX5_ok nmX5 hown hE hP hD hS hO 28 (sg_28 G h0 a _ _ _ _ _) rfl 10 (by decide) (hq _ pw_504) (fun _ h9 => h9) rfl (by decide +kernel) rfl rfl (Nat.le_of_ble_eq_true rfl) (sf_18 G h0 a _ _ _ _ _ 0) dX5_clear_30 (fun H locs w hP hD hS hO => ?_)
  refine lv_aload_n hx hb dX5_clear_33 rfl (lv_at hl 0 rfl) ?_
  refine lv_iconst (v := 0) hx hb dX5_clear_34 (by decide) ?_
  refine c_put (v := .int 0) (ty := .int) (C := RX5) (Tc := TX5) (N := 19) (ci := 4) hx hb hq pin_wsX50 tyX5 tyX5_ok nmX5 hown hE hP hD hS hO 28 (sg_28 G h0 a _ _ _ _ _) rfl 11 (by decide) (hq _ pw_505) (fun _ h9 => h9) rfl (by decide +kernel) rfl rfl (Nat.le_of_ble_eq_true rfl) (sf_19 G h0 a _ _ _ _ _ 0) dX5_clear_35 (fun H locs w hP hD hS hO => ?_)
  refine lv_aload_n hx hb dX5_clear_38 rfl (lv_at hl 0 rfl) ?_
  refine lv_iconst (v := 0) hx hb dX5_clear_39 (by decide) ?_
  refine c_put (v := .int 0) (ty := .int) (C := RX5) (Tc := TX5) (N := 19) (ci := 4) hx hb hq pin_wsX50 tyX5 tyX5_ok nmX5 hown hE hP hD hS hO 28 (sg_28 G h0 a _ _ _ _ _) rfl 12 (by decide) (hq _ pw_506) (fun _ h9 => h9) rfl (by decide +kernel) rfl rfl (Nat.le_of_ble_eq_true rfl) (sf_20 G h0 a _ _ _ _ _ 0) dX5_clear_40 (fun H locs w hP hD hS hO => ?_)
  have hO : OKW G h0 a (upd (upd (upd (upd (upd F 18 0) 19 0) 20 0) 22 0) 24 0) (updR R 6 (.null)) 0 (updA B 33 f4) J T Pi w := hO.to rfl
  exact W.vret hx hb hr (fun t99 ht99 hW99 => ⟨⟨_, (w, f4), rfl, ⟨rfl, hO⟩, by rw [ht99]; exact hP, hD⟩, hS.F ht99⟩) hS.2.2 dX5_clear_43
theorem dX5_uncaught_0 : decode cX5_uncaught 0 = .ok (.aload_n 0, 1) := by decide +kernel
theorem dX5_uncaught_1 : decode cX5_uncaught 1 = .ok (.getfield 43, 3) := by decide +kernel
theorem dX5_uncaught_4 : decode cX5_uncaught 4 = .ok (.lconst 0, 1) := by decide +kernel
theorem dX5_uncaught_5 : decode cX5_uncaught 5 = .ok (.lcmp, 1) := by decide +kernel
theorem dX5_uncaught_6 : decode cX5_uncaught 6 = .ok (.ifCond .eq 10, 3) := by decide +kernel
theorem dX5_uncaught_16 : decode cX5_uncaught 16 = .ok (.aconst_null, 1) := by decide +kernel
theorem dX5_uncaught_17 : decode cX5_uncaught 17 = .ok (.goto 21, 3) := by decide +kernel
theorem dX5_uncaught_38 : decode cX5_uncaught 38 = .ok (.astore_n 2, 1) := by decide +kernel
theorem dX5_uncaught_39 : decode cX5_uncaught 39 = .ok (.aload_n 2, 1) := by decide +kernel
theorem dX5_uncaught_40 : decode cX5_uncaught 40 = .ok (.ifnull 20, 3) := by decide +kernel
theorem dX5_uncaught_60 : decode cX5_uncaught 60 = .ok (.iconst (-1), 1) := by decide +kernel
theorem dX5_uncaught_61 : decode cX5_uncaught 61 = .ok (.ireturn, 1) := by decide +kernel
theorem dX5_uncaught_9 : decode cX5_uncaught 9 = .ok (.aload_n 0, 1) := by decide +kernel
theorem dX5_uncaught_10 : decode cX5_uncaught 10 = .ok (.getfield 47, 3) := by decide +kernel
theorem dX5_uncaught_13 : decode cX5_uncaught 13 = .ok (.ifnonnull 7, 3) := by decide +kernel
set_option maxHeartbeats 2000000 in
set_option maxRecDepth 100000 in
theorem M_uncaughtN (l : Launch) (G : pT) (h0 : Nat) (a : Nat → Nat) (F : Nat → Int32) (R : Nat → Value) (Z : Int64) (B : Nat → Nat → Int32) (J : Nat → Nat → Int64) (T : Nat → Nat) (Pi : Nat → va_E → Prop) (w : va_W) (x : Int32) (hO : OKW G h0 a F (updR R 5 (.null)) Z B J T Pi w) : PM l G pX0 yX5_uncaught cX5_uncaught 5 (some .int) ({ frames := 2, cells := 0, slots := 0, locals := 60 }) [.ref (a 5), .int x] w (fun (v : Option Value) (u : va_W × (Int32)) => v = some (.int u.2) ∧ (OKW G h0 a F (updR R 5 (.null)) Z B J T Pi u.1)) (fun u => u.1) := by
  intro sz
  refine Met.ofW (cc := cX5_uncaught) (maxL := 5) (ret := (some .int)) (by decide) rfl ?_
  intro p e s m args below meth c s₁ B9 hml hv
  obtain ⟨rfl, hsz, hP, hD0, hE, hX⟩ := hv
  have hx := B9.exec
  have hb := B9.bytes
  have hr := B9.returns
  have hts := atoms_spec (ws := Cond.code yX5_uncaught cX5_uncaught 5 (some .int) :: pw) B9.pre
  have hq : ∀ w ∈ pw, w.before _ s = true := fun w h => hts w (List.mem_cons_of_mem _ h)
  have hown : s.vm.findClass RX5 = some m.cls := findClass_of_methodNamed B9.named
  have hlocks := B9.notSynchronized
  subst hsz
  have hD := hD0.self (sz := s.heap.size)
  have hA : ∀ q : Nat, s.heap.size ≤ q → va_A w s.heap.size q := fun q h => Or.inr h
  generalize va_A w s.heap.size = A at hD hE hA ⊢
  have hS : va_S A s.heap s.heap [] := va_S.rf
  have hl := lv_entry ([.ref (a 5), .int x]) (n := 5) (Nat.le_of_ble_eq_true rfl)
  rw [lg_entry_eq]
  generalize (lg_sl ([.ref (a 5), .int x]) ++ List.replicate (5 - (lg_sl ([.ref (a 5), .int x])).length) Slot.unset).toArray = ls at hl ⊢
  have hl : lv_has ls 5 [(0, .ref (a 5)), (1, .int x)] := hl
  refine lv_aload_n hx hb dX5_uncaught_0 rfl (lv_at hl 0 rfl) ?_
  refine c_get (v := .long Z) (C := RX5) (Tc := TX5) (N := 19) (ci := 4) hx hb hq pin_wsX50 hown hE hP hO 28 (sg_28 G h0 a _ _ _ _ _) rfl 14 (by decide) (hq _ pw_485) (fun _ h9 => h9) rfl dX5_uncaught_1 ?_
  refine lv_lconst (v := 0) hx hb dX5_uncaught_4 (by decide) ?_
  refine W.lcmp hx hb dX5_uncaught_5 ?_
  refine lv_topi (fun x1 e2 => ?_)
  refine lv_if_eq (tgt := 16) hx hb dX5_uncaught_6 (by decide) (fun c3 => ?_) (fun c3 => ?_)
  · refine lv_null hx hb dX5_uncaught_16 ?_
    refine lv_goto (tgt := 38) hx hb dX5_uncaught_17 (by decide) ?_
    refine lv_astore_nN (lv' := [(2, .null), (0, .ref (a 5)), (1, .int x)]) hx hb dX5_uncaught_38 rfl hl (by decide) rfl (fun ls hl => ?_)
    refine lv_aload_nN hx hb dX5_uncaught_39 rfl (lv_at hl 0 rfl) ?_
    refine lv_ifnullN (tgt := 60) hx hb dX5_uncaught_40 (by decide) ?_
    refine lv_iconst (v := (-1)) hx hb dX5_uncaught_60 (by decide) ?_
    have hO : OKW G h0 a F (updR R 5 (.null)) Z B J T Pi w := hO.to rfl
    exact W.iret (v := (-1)) hx hb hr (fun t99 ht99 hW99 => ⟨⟨_, (w, ((-1) : Int32)), rfl, ⟨rfl, hO⟩, by rw [ht99]; exact hP, hD⟩, hS.F ht99⟩) hS.2.2 dX5_uncaught_61
  · refine lv_aload_n hx hb dX5_uncaught_9 rfl (lv_at hl 0 rfl) ?_
    refine c_get (v := .null) (C := RX5) (Tc := TX5) (N := 19) (ci := 4) hx hb hq pin_wsX50 hown hE hP hO 28 (sg_28 G h0 a _ _ _ _ _) rfl 8 (by decide) (hq _ pw_486) (fun _ h9 => h9) rfl dX5_uncaught_10 ?_
    refine lv_ifnonnullN hx hb dX5_uncaught_13 ?_
    refine lv_null hx hb dX5_uncaught_16 ?_
    refine lv_goto (tgt := 38) hx hb dX5_uncaught_17 (by decide) ?_
    refine lv_astore_nN (lv' := [(2, .null), (0, .ref (a 5)), (1, .int x)]) hx hb dX5_uncaught_38 rfl hl (by decide) rfl (fun ls hl => ?_)
    refine lv_aload_nN hx hb dX5_uncaught_39 rfl (lv_at hl 0 rfl) ?_
    refine lv_ifnullN (tgt := 60) hx hb dX5_uncaught_40 (by decide) ?_
    refine lv_iconst (v := (-1)) hx hb dX5_uncaught_60 (by decide) ?_
    have hO : OKW G h0 a F (updR R 5 (.null)) Z B J T Pi w := hO.to rfl
    exact W.iret (v := (-1)) hx hb hr (fun t99 ht99 hW99 => ⟨⟨_, (w, ((-1) : Int32)), rfl, ⟨rfl, hO⟩, by rw [ht99]; exact hP, hD⟩, hS.F ht99⟩) hS.2.2 dX5_uncaught_61
theorem dX5_uncaught_20 : decode cX5_uncaught 20 = .ok (.aload_n 0, 1) := by decide +kernel
theorem dX5_uncaught_21 : decode cX5_uncaught 21 = .ok (.getfield 47, 3) := by decide +kernel
theorem dX5_uncaught_24 : decode cX5_uncaught 24 = .ok (.aload_n 0, 1) := by decide +kernel
theorem dX5_uncaught_25 : decode cX5_uncaught 25 = .ok (.getfield 18, 3) := by decide +kernel
theorem dX5_uncaught_28 : decode cX5_uncaught 28 = .ok (.aload_n 0, 1) := by decide +kernel
theorem dX5_uncaught_29 : decode cX5_uncaught 29 = .ok (.getfield 43, 3) := by decide +kernel
theorem dX5_uncaught_32 : decode cX5_uncaught 32 = .ok (.invokevirtual 51, 3) := by decide +kernel
theorem dX5_uncaught_35 : decode cX5_uncaught 35 = .ok (.invokevirtual 55, 3) := by decide +kernel
theorem dX5_uncaught_43 : decode cX5_uncaught 43 = .ok (.iload_n 1, 1) := by decide +kernel
theorem dX5_uncaught_44 : decode cX5_uncaught 44 = .ok (.ifCond .lt 16, 3) := by decide +kernel
theorem dX5_uncaught_47 : decode cX5_uncaught 47 = .ok (.iload_n 1, 1) := by decide +kernel
theorem dX5_uncaught_48 : decode cX5_uncaught 48 = .ok (.iconst 2, 1) := by decide +kernel
theorem dX5_uncaught_49 : decode cX5_uncaught 49 = .ok (.isub, 1) := by decide +kernel
theorem dX5_uncaught_50 : decode cX5_uncaught 50 = .ok (.aload_n 2, 1) := by decide +kernel
theorem dX5_uncaught_51 : decode cX5_uncaught 51 = .ok (.getfield 61, 3) := by decide +kernel
theorem dX5_uncaught_54 : decode cX5_uncaught 54 = .ok (.invokevirtual 67, 3) := by decide +kernel
theorem dX5_uncaught_57 : decode cX5_uncaught 57 = .ok (.if_icmp .lt 5, 3) := by decide +kernel
theorem dX5_uncaught_62 : decode cX5_uncaught 62 = .ok (.iload_n 1, 1) := by decide +kernel
theorem dX5_uncaught_63 : decode cX5_uncaught 63 = .ok (.iconst 2, 1) := by decide +kernel
theorem dX5_uncaught_64 : decode cX5_uncaught 64 = .ok (.if_icmp .ge 22, 3) := by decide +kernel
theorem dX5_uncaught_86 : decode cX5_uncaught 86 = .ok (.aload_n 0, 1) := by decide +kernel
theorem dX5_uncaught_87 : decode cX5_uncaught 87 = .ok (.getfield 18, 3) := by decide +kernel
theorem dX5_uncaught_90 : decode cX5_uncaught 90 = .ok (.aload_n 0, 1) := by decide +kernel
theorem dX5_uncaught_91 : decode cX5_uncaught 91 = .ok (.getfield 43, 3) := by decide +kernel
theorem dX5_uncaught_94 : decode cX5_uncaught 94 = .ok (.iload_n 1, 1) := by decide +kernel
theorem dX5_uncaught_95 : decode cX5_uncaught 95 = .ok (.iconst 2, 1) := by decide +kernel
theorem dX5_uncaught_96 : decode cX5_uncaught 96 = .ok (.isub, 1) := by decide +kernel
theorem dX5_uncaught_97 : decode cX5_uncaught 97 = .ok (.invokevirtual 76, 3) := by decide +kernel
theorem dX5_uncaught_100 : decode cX5_uncaught 100 = .ok (.lstore_n 3, 1) := by decide +kernel
theorem dX5_uncaught_101 : decode cX5_uncaught 101 = .ok (.lload_n 3, 1) := by decide +kernel
theorem dX5_uncaught_102 : decode cX5_uncaught 102 = .ok (.invokestatic 80, 3) := by decide +kernel
theorem dX5_uncaught_105 : decode cX5_uncaught 105 = .ok (.ifCond .eq 7, 3) := by decide +kernel
theorem dX5_uncaught_112 : decode cX5_uncaught 112 = .ok (.lload_n 3, 1) := by decide +kernel
theorem dX5_uncaught_113 : decode cX5_uncaught 113 = .ok (.l2i, 1) := by decide +kernel
theorem dX5_uncaught_114 : decode cX5_uncaught 114 = .ok (.ireturn, 1) := by decide +kernel
theorem dX5_uncaught_108 : decode cX5_uncaught 108 = .ok (.iconst 1, 1) := by decide +kernel
theorem dX5_uncaught_109 : decode cX5_uncaught 109 = .ok (.goto 5, 3) := by decide +kernel
theorem dX5_uncaught_67 : decode cX5_uncaught 67 = .ok (.iload_n 1, 1) := by decide +kernel
theorem dX5_uncaught_68 : decode cX5_uncaught 68 = .ok (.ifCond .ne 10, 3) := by decide +kernel
theorem dX5_uncaught_78 : decode cX5_uncaught 78 = .ok (.aload_n 2, 1) := by decide +kernel
theorem dX5_uncaught_79 : decode cX5_uncaught 79 = .ok (.getfield 61, 3) := by decide +kernel
theorem dX5_uncaught_82 : decode cX5_uncaught 82 = .ok (.invokevirtual 67, 3) := by decide +kernel
theorem dX5_uncaught_85 : decode cX5_uncaught 85 = .ok (.ireturn, 1) := by decide +kernel
theorem dX5_uncaught_71 : decode cX5_uncaught 71 = .ok (.aload_n 2, 1) := by decide +kernel
theorem dX5_uncaught_72 : decode cX5_uncaught 72 = .ok (.getfield 73, 3) := by decide +kernel
theorem dX5_uncaught_75 : decode cX5_uncaught 75 = .ok (.goto 10, 3) := by decide +kernel
set_option maxHeartbeats 16000000 in
set_option maxRecDepth 100000 in
theorem M_uncaught (l : Launch) (G : pT) (h0 : Nat) (a : Nat → Nat) (F : Nat → Int32) (R : Nat → Value) (Z : Int64) (B : Nat → Nat → Int32) (J : Nat → Nat → Int64) (K : PK) (w : va_W) (x : Int32) (sp : Nat) (op : Nat) (ht : Nat) (pq : Nat) (dr : Nat) (ml : Nat) (nd : Nat) (nm : Nat) (cp : Nat) (it : Nat → Nat) (s9 : Nat) (g : Nat → Nat → Nat) (rk : Nat → Nat) (hsp : (sp = 34 ∧ op = 35) ∨ (sp = 35 ∧ op = 34)) (hht : 8 ≤ ht ∧ ht ≤ 3008) (hwp : WPr G K g) (hps : PgT G K g (a 1) pq dr ml nd nm cp it s9) (hrk : RkO K rk) (hO : OKP G h0 a (upd F 26 (nI ht)) (updR (updR (updR R 5 (.ref pq)) 7 (.ref (a sp))) 8 (.ref (a op))) Z B J K w) : PM l G pX0 yX5_uncaught cX5_uncaught 5 (some .int) ({ frames := 6, cells := 0, slots := 0, locals := 153 }) [.ref (a 5), .int x] w (fun (v : Option Value) (u : va_W × (Int32)) => v = some (.int u.2) ∧ (OKP G h0 a (upd F 26 (nI ht)) (updR (updR (updR R 5 (.ref pq)) 7 (.ref (a sp))) 8 (.ref (a op))) Z B J K u.1)) (fun u => u.1) := by
  intro sz
  refine Met.ofW (cc := cX5_uncaught) (maxL := 5) (ret := (some .int)) (by decide) rfl ?_
  intro p e s m args below meth c s₁ B9 hml hv
  obtain ⟨rfl, hsz, hP, hD0, hE, hX⟩ := hv
  have hx := B9.exec
  have hb := B9.bytes
  have hr := B9.returns
  have hts := atoms_spec (ws := Cond.code yX5_uncaught cX5_uncaught 5 (some .int) :: pw) B9.pre
  have hq : ∀ w ∈ pw, w.before _ s = true := fun w h => hts w (List.mem_cons_of_mem _ h)
  have hown : s.vm.findClass RX5 = some m.cls := findClass_of_methodNamed B9.named
  have hlocks := B9.notSynchronized
  subst hsz
  have hD := hD0.self (sz := s.heap.size)
  have hA : ∀ q : Nat, s.heap.size ≤ q → va_A w s.heap.size q := fun q h => Or.inr h
  generalize va_A w s.heap.size = A at hD hE hA ⊢
  have hS : va_S A s.heap s.heap [] := va_S.rf
  have hl := lv_entry ([.ref (a 5), .int x]) (n := 5) (Nat.le_of_ble_eq_true rfl)
  rw [lg_entry_eq]
  generalize (lg_sl ([.ref (a 5), .int x]) ++ List.replicate (5 - (lg_sl ([.ref (a 5), .int x])).length) Slot.unset).toArray = ls at hl ⊢
  have hl : lv_has ls 5 [(0, .ref (a 5)), (1, .int x)] := hl
  have hpg := hps.1
  have hp1 := hpg.1
  have hp2 := hpg.2.1
  have hp3 := hpg.2.2.1
  have hp4 := hpg.2.2.2.1
  have hp5 := hpg.2.2.2.2.1
  have hp6 := hpg.2.2.2.2.2.1
  have hp8 := hpg.2.2.2.2.2.2.2.1
  have hp9 := hpg.2.2.2.2.2.2.2.2
  refine lv_aload_n hx hb dX5_uncaught_0 rfl (lv_at hl 0 rfl) ?_
  refine c_get (v := .long Z) (C := RX5) (Tc := TX5) (N := 19) (ci := 4) hx hb hq pin_wsX50 hown hE hP hO 28 (sg_28 G h0 a _ _ _ _ _) rfl 14 (by decide) (hq _ pw_485) (fun _ h9 => h9) rfl dX5_uncaught_1 ?_
  refine lv_lconst (v := 0) hx hb dX5_uncaught_4 (by decide) ?_
  refine W.lcmp hx hb dX5_uncaught_5 ?_
  refine lv_topi (fun x1 e2 => ?_)
  refine lv_if_eq (tgt := 16) hx hb dX5_uncaught_6 (by decide) (fun c3 => ?_) (fun c3 => ?_)
  · refine lv_null hx hb dX5_uncaught_16 ?_
    refine lv_goto (tgt := 38) hx hb dX5_uncaught_17 (by decide) ?_
    refine lv_astore_nN (lv' := [(2, .null), (0, .ref (a 5)), (1, .int x)]) hx hb dX5_uncaught_38 rfl hl (by decide) rfl (fun ls hl => ?_)
    refine lv_aload_nN hx hb dX5_uncaught_39 rfl (lv_at hl 0 rfl) ?_
    refine lv_ifnullN (tgt := 60) hx hb dX5_uncaught_40 (by decide) ?_
    refine lv_iconst (v := (-1)) hx hb dX5_uncaught_60 (by decide) ?_
    have hO : OKP G h0 a (upd F 26 (nI ht)) (updR (updR (updR R 5 (.ref pq)) 7 (.ref (a sp))) 8 (.ref (a op))) Z B J K w := hO.to rfl
    exact W.iret (v := (-1)) hx hb hr (fun t99 ht99 hW99 => ⟨⟨_, (w, ((-1) : Int32)), rfl, ⟨rfl, hO⟩, by rw [ht99]; exact hP, hD⟩, hS.F ht99⟩) hS.2.2 dX5_uncaught_61
  · refine lv_aload_n hx hb dX5_uncaught_9 rfl (lv_at hl 0 rfl) ?_
    refine c_get (v := .ref pq) (C := RX5) (Tc := TX5) (N := 19) (ci := 4) hx hb hq pin_wsX50 hown hE hP hO 28 (sg_28 G h0 a _ _ _ _ _) rfl 8 (by decide) (hq _ pw_486) (fun _ h9 => h9) rfl dX5_uncaught_10 ?_
    refine lv_ifnonnull (tgt := 20) hx hb dX5_uncaught_13 (by decide) ?_
    refine lv_aload_n hx hb dX5_uncaught_20 rfl (lv_at hl 0 rfl) ?_
    refine c_get (v := .ref pq) (C := RX5) (Tc := TX5) (N := 19) (ci := 4) hx hb hq pin_wsX50 hown hE hP hO 28 (sg_28 G h0 a _ _ _ _ _) rfl 8 (by decide) (hq _ pw_486) (fun _ h9 => h9) rfl dX5_uncaught_21 ?_
    refine lv_aload_n hx hb dX5_uncaught_24 rfl (lv_at hl 0 rfl) ?_
    refine c_get (v := .ref (a 28)) (C := RX5) (Tc := TX5) (N := 19) (ci := 4) hx hb hq pin_wsX50 hown hE hP hO 28 (sg_28 G h0 a _ _ _ _ _) rfl 1 (by decide) (hq _ pw_473) (fun _ h9 => h9) rfl dX5_uncaught_25 ?_
    refine lv_aload_n hx hb dX5_uncaught_28 rfl (lv_at hl 0 rfl) ?_
    refine c_get (v := .long Z) (C := RX5) (Tc := TX5) (N := 19) (ci := 4) hx hb hq pin_wsX50 hown hE hP hO 28 (sg_28 G h0 a _ _ _ _ _) rfl 14 (by decide) (hq _ pw_485) (fun _ h9 => h9) rfl dX5_uncaught_29 ?_
    have hO : OKW G h0 a (upd (upd F 26 (nI ht)) 26 (nI ht)) (updR (updR (updR (updR (updR R 5 (.ref pq)) 7 (.ref (a sp))) 8 (.ref (a op))) 7 (.ref (a sp))) 8 (.ref (a op))) Z B J K.1 (fun q99 x99 => x99 = rep G a K q99) w := hO.to rfl
    obtain ⟨_, qr7, hqr8⟩ := hO.2.1 29 _ (sg_29 G h0 a _ _ _ _ _)
    refine pc_V0 (G := G) (As := [.long Z]) (rest := [.ref pq]) hx hb hml hown hq hE hX pX0_al hP hD hS hA hl.1 (K_typeOf l G h0 a (upd F 26 (nI ht)) (updR (updR (updR R 5 (.ref pq)) 7 (.ref (a sp))) 8 (.ref (a op))) Z B J K.1 (fun q99 x99 => x99 = rep G a K q99) w Z sp op ht hsp (by omega) hO) (gV pw_489 pw_490 pw_491 pw_440 pw_441) hV_X3_typeOf qr7 3 hqr8 rfl rfl rfl (Nat.le_of_ble_eq_true rfl) dX5_uncaught_32 ⟨Nat.le_of_ble_eq_true rfl, Nat.le_of_ble_eq_true rfl⟩ ⟨Nat.le_of_ble_eq_true rfl, Nat.le_of_ble_eq_true rfl⟩ (fun v6 u4 H locs hw5 hP hD hS => ?_)
    obtain ⟨w, r9⟩ := u4
    obtain ⟨hw5, hO⟩ := hw5
    obtain rfl : v6 = some (.int r9) := hw5
    have hO : OKP G h0 a (upd F 26 (nI ht)) (updR (updR (updR R 5 (.ref pq)) 7 (.ref (a sp))) 8 (.ref (a op))) Z B J K w := hO.to rfl
    refine W.widen (k := 0) (n := 0) (Nat.le_of_ble_eq_true rfl) (Nat.le_of_ble_eq_true rfl) ?_
    refine W.eq (g2 := F0 m 35 ls [.int r9, .ref pq]) rfl ?_
    have hO : OKP G h0 a (upd F 26 (nI ht)) (updR (updR (updR R 5 (.ref pq)) 7 (.ref (a sp))) 8 (.ref (a op))) Z B J K w := hO.to rfl
    obtain ⟨qr13, hqr14⟩ := p_recv hO (by rw [hp1]; decide) (rep_7 hp1)
    refine pc_V0 (G := G) (As := [.int r9]) (rest := []) hx hb hml hown hq hE hX pX0_al hP hD hS hA hl.1 (G_decl l G h0 a (upd F 26 (nI ht)) (updR (updR (updR R 5 (.ref pq)) 7 (.ref (a sp))) 8 (.ref (a op))) Z B J K w pq dr ml nd r9 g hps.1 hps.2.1 hO) (gV pw_492 pw_182 pw_183 pw_106 pw_13) hV_X9_decl qr13 6 hqr14 rfl rfl rfl (Nat.le_of_ble_eq_true rfl) dX5_uncaught_35 ⟨Nat.le_of_ble_eq_true rfl, Nat.le_of_ble_eq_true rfl⟩ ⟨Nat.le_of_ble_eq_true rfl, Nat.le_of_ble_eq_true rfl⟩ (fun v12 u10 H locs hw11 hP hD hS => ?_)
    obtain ⟨w, o15⟩ := u10
    obtain ⟨hw11, h16, h17, hO⟩ := hw11
    have h16 : DoN K o15 := h16
    have h17 : DoK K dr nd r9 o15 := h17
    obtain rfl : v12 = some ((va_rf o15)) := hw11
    have hO : OKP G h0 a (upd F 26 (nI ht)) (updR (updR (updR R 5 (.ref pq)) 7 (.ref (a sp))) 8 (.ref (a op))) Z B J K w := hO.to rfl
    refine W.widen (k := 0) (n := 0) (Nat.le_of_ble_eq_true rfl) (Nat.le_of_ble_eq_true rfl) ?_
    refine W.eq (g2 := F0 m 38 ls [(va_rf o15)]) rfl ?_
    rcases o15 with _ | d18
    · have hl : lv_has ls 5 [(0, .ref (a 5)), (1, .int x)] := hl
      refine W.eq (g2 := F0 m 38 ls [.null]) rfl ?_
      refine lv_astore_nN (lv' := [(2, .null), (0, .ref (a 5)), (1, .int x)]) hx hb dX5_uncaught_38 rfl hl (by decide) rfl (fun ls hl => ?_)
      refine lv_aload_nN hx hb dX5_uncaught_39 rfl (lv_at hl 0 rfl) ?_
      refine lv_ifnullN (tgt := 60) hx hb dX5_uncaught_40 (by decide) ?_
      refine lv_iconst (v := (-1)) hx hb dX5_uncaught_60 (by decide) ?_
      have hO : OKP G h0 a (upd F 26 (nI ht)) (updR (updR (updR R 5 (.ref pq)) 7 (.ref (a sp))) 8 (.ref (a op))) Z B J K w := hO.to rfl
      exact W.iret (v := (-1)) hx hb hr (fun t99 ht99 hW99 => ⟨⟨_, (w, ((-1) : Int32)), rfl, ⟨rfl, hO⟩, by rw [ht99]; exact hP, hD⟩, hS.F ht99⟩) hS.2.2 dX5_uncaught_61
    · have hl : lv_has ls 5 [(0, .ref (a 5)), (1, .int x)] := hl
      refine W.eq (g2 := F0 m 38 ls [.ref d18]) rfl ?_
      have hdT := h16 d18 rfl
      obtain ⟨lm, hflm, htlm, hrlm, holm⟩ := (hwp.2.2.1 d18 hdT).2.2.1
      obtain ⟨nlm, itlm, cplm, hlclm, hnblm, hcblm⟩ := hwp.2.1 lm htlm
      rw [hrlm] at hlclm hnblm
      have hnclm := hlclm.2.2.1
      have hnblm : nlm ≤ 5000 := hnblm
      have hlclm : LsC G K lm 1 nlm itlm cplm := hlclm
      refine lv_astore_n (lv' := [(2, .ref d18), (0, .ref (a 5)), (1, .int x)]) hx hb dX5_uncaught_38 rfl hl (by decide) rfl (fun ls hl => ?_)
      refine lv_aload_n hx hb dX5_uncaught_39 rfl (lv_at hl 0 rfl) ?_
      refine lv_ifnull hx hb dX5_uncaught_40 ?_
      refine lv_iload_n hx hb dX5_uncaught_43 rfl (lv_at hl 2 rfl) ?_
      refine lv_if_lt (tgt := 60) hx hb dX5_uncaught_44 (by decide) (fun c19 => ?_) (fun c19 => ?_)
      · refine lv_iconst (v := (-1)) hx hb dX5_uncaught_60 (by decide) ?_
        have hO : OKP G h0 a (upd F 26 (nI ht)) (updR (updR (updR R 5 (.ref pq)) 7 (.ref (a sp))) 8 (.ref (a op))) Z B J K w := hO.to rfl
        exact W.iret (v := (-1)) hx hb hr (fun t99 ht99 hW99 => ⟨⟨_, (w, ((-1) : Int32)), rfl, ⟨rfl, hO⟩, by rw [ht99]; exact hP, hD⟩, hS.F ht99⟩) hS.2.2 dX5_uncaught_61
      · refine lv_iload_n hx hb dX5_uncaught_47 rfl (lv_at hl 2 rfl) ?_
        refine lv_iconst (v := 2) hx hb dX5_uncaught_48 (by decide) ?_
        refine lv_isub hx hb dX5_uncaught_49 ?_
        refine lv_topi (fun x20 e21 => ?_)
        refine lv_aload_n hx hb dX5_uncaught_50 rfl (lv_at hl 0 rfl) ?_
        refine p_get (v := .ref lm) (C := RX2) (Tc := TX2) (N := 13) (ci := 2) hx hb hq pin_wsX20 hown hE hP hO (by rw [hdT]; decide) (rep_4 hdT) rfl 11 (by decide) (hq _ pw_487) (fun _ h9 => h9) (congrArg (fun z => some (va_rf z)) hflm) dX5_uncaught_51 ?_
        have hO : OKP G h0 a (upd F 26 (nI ht)) (updR (updR (updR R 5 (.ref pq)) 7 (.ref (a sp))) 8 (.ref (a op))) Z B J K w := hO.to rfl
        obtain ⟨qr25, hqr26⟩ := p_recv hO (by rw [htlm]; decide) (rep_5 htlm)
        refine pc_V0 (G := G) (As := []) (rest := [.int x20]) hx hb hml hown hq hE hX pX0_al hP hD hS hA hl.1 (L_size l G h0 a (upd F 26 (nI ht)) (updR (updR (updR R 5 (.ref pq)) 7 (.ref (a sp))) 8 (.ref (a op))) Z B J K w lm 1 nlm itlm hlclm.ls hO) (gV pw_493 pw_87 pw_88 pw_32 pw_16) hV_Jx4a65c_size_8abf5 qr25 10 hqr26 rfl rfl rfl (Nat.le_of_ble_eq_true rfl) dX5_uncaught_54 ⟨Nat.le_of_ble_eq_true rfl, Nat.le_of_ble_eq_true rfl⟩ ⟨Nat.le_of_ble_eq_true rfl, Nat.le_of_ble_eq_true rfl⟩ (fun v24 u22 H locs hw23 hP hD hS => ?_)
        obtain ⟨w, _⟩ := u22
        obtain ⟨hw23, hO⟩ := hw23
        obtain rfl : v24 = some (.int (nI nlm)) := hw23
        have hO : OKP G h0 a (upd F 26 (nI ht)) (updR (updR (updR R 5 (.ref pq)) 7 (.ref (a sp))) 8 (.ref (a op))) Z B J K w := hO.to rfl
        refine W.widen (k := 0) (n := 0) (Nat.le_of_ble_eq_true rfl) (Nat.le_of_ble_eq_true rfl) ?_
        refine W.eq (g2 := F0 m 57 ls [.int (nI nlm), .int x20]) rfl ?_
        refine lv_icmp_lt (tgt := 62) hx hb dX5_uncaught_57 (by decide) (fun c27 => ?_) (fun c27 => ?_)
        · refine lv_iload_n hx hb dX5_uncaught_62 rfl (lv_at hl 2 rfl) ?_
          refine lv_iconst (v := 2) hx hb dX5_uncaught_63 (by decide) ?_
          refine lv_icmp_ge (tgt := 86) hx hb dX5_uncaught_64 (by decide) (fun c28 => ?_) (fun c28 => ?_)
          · refine lv_aload_n hx hb dX5_uncaught_86 rfl (lv_at hl 1 rfl) ?_
            refine c_get (v := .ref (a 28)) (C := RX5) (Tc := TX5) (N := 19) (ci := 4) hx hb hq pin_wsX50 hown hE hP hO 28 (sg_28 G h0 a _ _ _ _ _) rfl 1 (by decide) (hq _ pw_473) (fun _ h9 => h9) rfl dX5_uncaught_87 ?_
            refine lv_aload_n hx hb dX5_uncaught_90 rfl (lv_at hl 1 rfl) ?_
            refine c_get (v := .long Z) (C := RX5) (Tc := TX5) (N := 19) (ci := 4) hx hb hq pin_wsX50 hown hE hP hO 28 (sg_28 G h0 a _ _ _ _ _) rfl 14 (by decide) (hq _ pw_485) (fun _ h9 => h9) rfl dX5_uncaught_91 ?_
            refine lv_iload_n hx hb dX5_uncaught_94 rfl (lv_at hl 2 rfl) ?_
            refine lv_iconst (v := 2) hx hb dX5_uncaught_95 (by decide) ?_
            refine lv_isub hx hb dX5_uncaught_96 ?_
            refine lv_topi (fun x29 e30 => ?_)
            have hO : OKW G h0 a (upd (upd F 26 (nI ht)) 26 (nI ht)) (updR (updR (updR (updR (updR R 5 (.ref pq)) 7 (.ref (a sp))) 8 (.ref (a op))) 7 (.ref (a sp))) 8 (.ref (a op))) Z B J K.1 (fun q99 x99 => x99 = rep G a K q99) w := hO.to rfl
            obtain ⟨_, qr34, hqr35⟩ := hO.2.1 29 _ (sg_29 G h0 a _ _ _ _ _)
            refine pc_V0 (G := G) (As := [.long Z, .int x29]) (rest := []) hx hb hml hown hq hE hX pX0_al hP hD hS hA hl.1 (K_get l G h0 a (upd F 26 (nI ht)) (updR (updR (updR R 5 (.ref pq)) 7 (.ref (a sp))) 8 (.ref (a op))) Z B J K.1 (fun q99 x99 => x99 = rep G a K q99) w Z x29 sp op ht hsp (by omega) hO) (gV pw_494 pw_495 pw_496 pw_440 pw_452) hV_X3_get qr34 3 hqr35 rfl rfl rfl (Nat.le_of_ble_eq_true rfl) dX5_uncaught_97 ⟨Nat.le_of_ble_eq_true rfl, Nat.le_of_ble_eq_true rfl⟩ ⟨Nat.le_of_ble_eq_true rfl, Nat.le_of_ble_eq_true rfl⟩ (fun v33 u31 H locs hw32 hP hD hS => ?_)
            obtain ⟨w, r36⟩ := u31
            obtain ⟨hw32, hO⟩ := hw32
            obtain rfl : v33 = some (.long r36) := hw32
            have hO : OKP G h0 a (upd F 26 (nI ht)) (updR (updR (updR R 5 (.ref pq)) 7 (.ref (a sp))) 8 (.ref (a op))) Z B J K w := hO.to rfl
            refine W.widen (k := 0) (n := 0) (Nat.le_of_ble_eq_true rfl) (Nat.le_of_ble_eq_true rfl) ?_
            refine W.eq (g2 := F0 m 100 ls [.long r36]) rfl ?_
            refine lv_lstore_n (lv' := [(3, .long r36), (2, .ref d18), (0, .ref (a 5)), (1, .int x)]) hx hb dX5_uncaught_100 rfl hl (by decide) rfl (fun ls hl => ?_)
            refine lv_lload_n hx hb dX5_uncaught_101 rfl (lv_at hl 0 rfl) ?_
            refine pc_SN (G := G) (As := [.long r36]) (rest := []) hx hb hml hown hq hE hX pX0_al hP hS hA hl.1 (s_isRef l G r36) (gS pw_497 pw_439 pw_440 pw_423) hS_X3_isReference rfl (Nat.le_of_ble_eq_true rfl) dX5_uncaught_102 ⟨Nat.le_of_ble_eq_true rfl, Nat.le_of_ble_eq_true rfl⟩ ⟨Nat.le_of_ble_eq_true rfl, Nat.le_of_ble_eq_true rfl⟩ (fun v39 u37 H locs hw38 hP hS => ?_)
            obtain ⟨rfl, h41⟩ := hw38
            refine W.widen (k := 0) (n := 0) (Nat.le_of_ble_eq_true rfl) (Nat.le_of_ble_eq_true rfl) ?_
            refine W.eq (g2 := F0 m 105 ls [.int (nI u37)]) rfl ?_
            refine lv_if_eq (tgt := 112) hx hb dX5_uncaught_105 (by decide) (fun c42 => ?_) (fun c42 => ?_)
            · have n43 : u37 = 0 := (nI_eq (a := u37) (b := 0) (by omega) (by omega)).mp c42
              refine lv_lload_n hx hb dX5_uncaught_112 rfl (lv_at hl 0 rfl) ?_
              refine lv_l2i hx hb dX5_uncaught_113 rfl ?_
              refine lv_topi (fun x44 e45 => ?_)
              have hO : OKP G h0 a (upd F 26 (nI ht)) (updR (updR (updR R 5 (.ref pq)) 7 (.ref (a sp))) 8 (.ref (a op))) Z B J K w := hO.to rfl
              exact W.iret (v := x44) hx hb hr (fun t99 ht99 hW99 => ⟨⟨_, (w, x44), rfl, ⟨rfl, hO⟩, by rw [ht99]; exact hP, hD⟩, hS.F ht99⟩) hS.2.2 dX5_uncaught_114
            · have n46 : ¬ (u37 = 0) := fun h9 => c42 ((nI_eq (a := u37) (b := 0) (by omega) (by omega)).mpr h9)
              refine lv_iconst (v := 1) hx hb dX5_uncaught_108 (by decide) ?_
              refine lv_goto (tgt := 114) hx hb dX5_uncaught_109 (by decide) ?_
              have hO : OKP G h0 a (upd F 26 (nI ht)) (updR (updR (updR R 5 (.ref pq)) 7 (.ref (a sp))) 8 (.ref (a op))) Z B J K w := hO.to rfl
              exact W.iret (v := 1) hx hb hr (fun t99 ht99 hW99 => ⟨⟨_, (w, (1 : Int32)), rfl, ⟨rfl, hO⟩, by rw [ht99]; exact hP, hD⟩, hS.F ht99⟩) hS.2.2 dX5_uncaught_114
          · refine lv_iload_n hx hb dX5_uncaught_67 rfl (lv_at hl 2 rfl) ?_
            refine lv_if_ne (tgt := 78) hx hb dX5_uncaught_68 (by decide) (fun c47 => ?_) (fun c47 => ?_)
            · refine lv_aload_n hx hb dX5_uncaught_78 rfl (lv_at hl 0 rfl) ?_
              refine p_get (v := .ref lm) (C := RX2) (Tc := TX2) (N := 13) (ci := 2) hx hb hq pin_wsX20 hown hE hP hO (by rw [hdT]; decide) (rep_4 hdT) rfl 11 (by decide) (hq _ pw_487) (fun _ h9 => h9) (congrArg (fun z => some (va_rf z)) hflm) dX5_uncaught_79 ?_
              have hO : OKP G h0 a (upd F 26 (nI ht)) (updR (updR (updR R 5 (.ref pq)) 7 (.ref (a sp))) 8 (.ref (a op))) Z B J K w := hO.to rfl
              obtain ⟨qr51, hqr52⟩ := p_recv hO (by rw [htlm]; decide) (rep_5 htlm)
              refine pc_V0 (G := G) (As := []) (rest := []) hx hb hml hown hq hE hX pX0_al hP hD hS hA hl.1 (L_size l G h0 a (upd F 26 (nI ht)) (updR (updR (updR R 5 (.ref pq)) 7 (.ref (a sp))) 8 (.ref (a op))) Z B J K w lm 1 nlm itlm hlclm.ls hO) (gV pw_493 pw_87 pw_88 pw_32 pw_16) hV_Jx4a65c_size_8abf5 qr51 10 hqr52 rfl rfl rfl (Nat.le_of_ble_eq_true rfl) dX5_uncaught_82 ⟨Nat.le_of_ble_eq_true rfl, Nat.le_of_ble_eq_true rfl⟩ ⟨Nat.le_of_ble_eq_true rfl, Nat.le_of_ble_eq_true rfl⟩ (fun v50 u48 H locs hw49 hP hD hS => ?_)
              obtain ⟨w, _⟩ := u48
              obtain ⟨hw49, hO⟩ := hw49
              obtain rfl : v50 = some (.int (nI nlm)) := hw49
              have hO : OKP G h0 a (upd F 26 (nI ht)) (updR (updR (updR R 5 (.ref pq)) 7 (.ref (a sp))) 8 (.ref (a op))) Z B J K w := hO.to rfl
              refine W.widen (k := 0) (n := 0) (Nat.le_of_ble_eq_true rfl) (Nat.le_of_ble_eq_true rfl) ?_
              refine W.eq (g2 := F0 m 85 ls [.int (nI nlm)]) rfl ?_
              have hO : OKP G h0 a (upd F 26 (nI ht)) (updR (updR (updR R 5 (.ref pq)) 7 (.ref (a sp))) 8 (.ref (a op))) Z B J K w := hO.to rfl
              exact W.iret (v := (nI nlm)) hx hb hr (fun t99 ht99 hW99 => ⟨⟨_, (w, (nI nlm)), rfl, ⟨rfl, hO⟩, by rw [ht99]; exact hP, hD⟩, hS.F ht99⟩) hS.2.2 dX5_uncaught_85
            · refine lv_aload_n hx hb dX5_uncaught_71 rfl (lv_at hl 0 rfl) ?_
              refine p_get (v := .int (K.2.1 15 d18)) (C := RX2) (Tc := TX2) (N := 13) (ci := 2) hx hb hq pin_wsX20 hown hE hP hO (by rw [hdT]; decide) (rep_4 hdT) rfl 0 (by decide) (hq _ pw_488) (fun _ h9 => h9) rfl dX5_uncaught_72 ?_
              refine lv_goto (tgt := 85) hx hb dX5_uncaught_75 (by decide) ?_
              have hO : OKP G h0 a (upd F 26 (nI ht)) (updR (updR (updR R 5 (.ref pq)) 7 (.ref (a sp))) 8 (.ref (a op))) Z B J K w := hO.to rfl
              exact W.iret (v := (K.2.1 15 d18)) hx hb hr (fun t99 ht99 hW99 => ⟨⟨_, (w, (K.2.1 15 d18)), rfl, ⟨rfl, hO⟩, by rw [ht99]; exact hP, hD⟩, hS.F ht99⟩) hS.2.2 dX5_uncaught_85
        · refine lv_iconst (v := (-1)) hx hb dX5_uncaught_60 (by decide) ?_
          have hO : OKP G h0 a (upd F 26 (nI ht)) (updR (updR (updR R 5 (.ref pq)) 7 (.ref (a sp))) 8 (.ref (a op))) Z B J K w := hO.to rfl
          exact W.iret (v := (-1)) hx hb hr (fun t99 ht99 hW99 => ⟨⟨_, (w, ((-1) : Int32)), rfl, ⟨rfl, hO⟩, by rw [ht99]; exact hP, hD⟩, hS.F ht99⟩) hS.2.2 dX5_uncaught_61

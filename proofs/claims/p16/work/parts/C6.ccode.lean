theorem dX1_clear_0 : decode cX1_clear 0 = .ok (.aload_n 0, 1) := by decide +kernel
theorem dX1_clear_1 : decode cX1_clear 1 = .ok (.iconst 0, 1) := by decide +kernel
theorem dX1_clear_2 : decode cX1_clear 2 = .ok (.putfield 39, 3) := by decide +kernel
theorem dX1_clear_5 : decode cX1_clear 5 = .ok (.aload_n 0, 1) := by decide +kernel
theorem dX1_clear_6 : decode cX1_clear 6 = .ok (.iconst 0, 1) := by decide +kernel
theorem dX1_clear_7 : decode cX1_clear 7 = .ok (.putfield 43, 3) := by decide +kernel
theorem dX1_clear_10 : decode cX1_clear 10 = .ok (.return_, 1) := by decide +kernel
set_option maxHeartbeats 2000000 in
set_option maxRecDepth 100000 in
theorem K_codeClear (l : Launch) (G : pT) (h0 : Nat) (a : Nat → Nat) (F : Nat → Int32) (R : Nat → Value) (Z : Int64) (B : Nat → Nat → Int32) (J : Nat → Nat → Int64) (T : Nat → Nat) (Pi : Nat → va_E → Prop) (w : va_W) (hO : OKW G h0 a F R Z B J T Pi w) : PM l G pX0 yX1_clear cX1_clear 1 none ({ frames := 2, cells := 0, slots := 0, locals := 60 }) [.ref (a 2)] w (fun (v : Option Value) (u : va_W × (Unit)) => v = none ∧ (OKW G h0 a (upd (upd F 5 0) 6 0) R Z B J T Pi u.1)) (fun u => u.1) := by
  intro sz
  refine Met.ofW (cc := cX1_clear) (maxL := 1) (ret := none) (by decide) rfl ?_
  intro p e s m args below meth c s₁ B9 hml hv
  obtain ⟨rfl, hsz, hP, hD0, hE, hX⟩ := hv
  have hx := B9.exec
  have hb := B9.bytes
  have hr := B9.returns
  have hts := atoms_spec (ws := Cond.code yX1_clear cX1_clear 1 none :: pw) B9.pre
  have hq : ∀ w ∈ pw, w.before _ s = true := fun w h => hts w (List.mem_cons_of_mem _ h)
  have hown : s.vm.findClass RX1 = some m.cls := findClass_of_methodNamed B9.named
  have hlocks := B9.notSynchronized
  subst hsz
  have hD := hD0.self (sz := s.heap.size)
  have hA : ∀ q : Nat, s.heap.size ≤ q → va_A w s.heap.size q := fun q h => Or.inr h
  generalize va_A w s.heap.size = A at hD hE hA ⊢
  have hS : va_S A s.heap s.heap [] := va_S.rf
  have hl := lv_entry ([.ref (a 2)]) (n := 1) (Nat.le_of_ble_eq_true rfl)
  rw [lg_entry_eq]
  generalize (lg_sl ([.ref (a 2)]) ++ List.replicate (1 - (lg_sl ([.ref (a 2)])).length) Slot.unset).toArray = ls at hl ⊢
  have hl : lv_has ls 1 [(0, .ref (a 2))] := hl
  refine lv_aload_n hx hb dX1_clear_0 rfl (lv_at hl 0 rfl) ?_
  refine lv_iconst (v := 0) hx hb dX1_clear_1 (by decide) ?_
  refine c_put (v := .int 0) (ty := .int) (C := RX1) (Tc := TX1) (N := 13) (ci := 1) hx hb hq pin_wsX10 tyX1 tyX1_ok nmX1 hown hE hP hD hS hO 13 (sg_13 G h0 a _ _ _ _ _) rfl 4 (by decide) (hq _ pw_11) (fun _ h9 => h9) rfl (by decide +kernel) rfl rfl (Nat.le_of_ble_eq_true rfl) (sf_5 G h0 a _ _ _ _ _ 0) dX1_clear_2 (fun H locs w hP hD hS hO => ?_)
  refine lv_aload_n hx hb dX1_clear_5 rfl (lv_at hl 0 rfl) ?_
  refine lv_iconst (v := 0) hx hb dX1_clear_6 (by decide) ?_
  refine c_put (v := .int 0) (ty := .int) (C := RX1) (Tc := TX1) (N := 13) (ci := 1) hx hb hq pin_wsX10 tyX1 tyX1_ok nmX1 hown hE hP hD hS hO 13 (sg_13 G h0 a _ _ _ _ _) rfl 10 (by decide) (hq _ pw_12) (fun _ h9 => h9) rfl (by decide +kernel) rfl rfl (Nat.le_of_ble_eq_true rfl) (sf_6 G h0 a _ _ _ _ _ 0) dX1_clear_7 (fun H locs w hP hD hS hO => ?_)
  have hO : OKW G h0 a (upd (upd F 5 0) 6 0) R Z B J T Pi w := hO.to rfl
  exact W.vret hx hb hr (fun t99 ht99 hW99 => ⟨⟨_, (w, ()), rfl, ⟨rfl, hO⟩, by rw [ht99]; exact hP, hD⟩, hS.F ht99⟩) hS.2.2 dX1_clear_10
theorem dX1_beginMethod_0 : decode cX1_beginMethod 0 = .ok (.aload_n 0, 1) := by decide +kernel
theorem dX1_beginMethod_1 : decode cX1_beginMethod 1 = .ok (.iconst 1, 1) := by decide +kernel
theorem dX1_beginMethod_2 : decode cX1_beginMethod 2 = .ok (.putfield 46, 3) := by decide +kernel
theorem dX1_beginMethod_5 : decode cX1_beginMethod 5 = .ok (.aload_n 0, 1) := by decide +kernel
theorem dX1_beginMethod_6 : decode cX1_beginMethod 6 = .ok (.iconst 1, 1) := by decide +kernel
theorem dX1_beginMethod_7 : decode cX1_beginMethod 7 = .ok (.putfield 49, 3) := by decide +kernel
theorem dX1_beginMethod_10 : decode cX1_beginMethod 10 = .ok (.return_, 1) := by decide +kernel
set_option maxHeartbeats 2000000 in
set_option maxRecDepth 100000 in
theorem K_codeBegin (l : Launch) (G : pT) (h0 : Nat) (a : Nat → Nat) (F : Nat → Int32) (R : Nat → Value) (Z : Int64) (B : Nat → Nat → Int32) (J : Nat → Nat → Int64) (T : Nat → Nat) (Pi : Nat → va_E → Prop) (w : va_W) (hO : OKW G h0 a F R Z B J T Pi w) : PM l G pX0 yX1_beginMethod cX1_beginMethod 1 none ({ frames := 2, cells := 0, slots := 0, locals := 60 }) [.ref (a 2)] w (fun (v : Option Value) (u : va_W × (Unit)) => v = none ∧ (OKW G h0 a (upd (upd F 7 1) 8 1) R Z B J T Pi u.1)) (fun u => u.1) := by
  intro sz
  refine Met.ofW (cc := cX1_beginMethod) (maxL := 1) (ret := none) (by decide) rfl ?_
  intro p e s m args below meth c s₁ B9 hml hv
  obtain ⟨rfl, hsz, hP, hD0, hE, hX⟩ := hv
  have hx := B9.exec
  have hb := B9.bytes
  have hr := B9.returns
  have hts := atoms_spec (ws := Cond.code yX1_beginMethod cX1_beginMethod 1 none :: pw) B9.pre
  have hq : ∀ w ∈ pw, w.before _ s = true := fun w h => hts w (List.mem_cons_of_mem _ h)
  have hown : s.vm.findClass RX1 = some m.cls := findClass_of_methodNamed B9.named
  have hlocks := B9.notSynchronized
  subst hsz
  have hD := hD0.self (sz := s.heap.size)
  have hA : ∀ q : Nat, s.heap.size ≤ q → va_A w s.heap.size q := fun q h => Or.inr h
  generalize va_A w s.heap.size = A at hD hE hA ⊢
  have hS : va_S A s.heap s.heap [] := va_S.rf
  have hl := lv_entry ([.ref (a 2)]) (n := 1) (Nat.le_of_ble_eq_true rfl)
  rw [lg_entry_eq]
  generalize (lg_sl ([.ref (a 2)]) ++ List.replicate (1 - (lg_sl ([.ref (a 2)])).length) Slot.unset).toArray = ls at hl ⊢
  have hl : lv_has ls 1 [(0, .ref (a 2))] := hl
  refine lv_aload_n hx hb dX1_beginMethod_0 rfl (lv_at hl 0 rfl) ?_
  refine lv_iconst (v := 1) hx hb dX1_beginMethod_1 (by decide) ?_
  refine c_put (v := .int 1) (ty := .int) (C := RX1) (Tc := TX1) (N := 13) (ci := 1) hx hb hq pin_wsX10 tyX1 tyX1_ok nmX1 hown hE hP hD hS hO 13 (sg_13 G h0 a _ _ _ _ _) rfl 11 (by decide) (hq _ pw_34) (fun _ h9 => h9) rfl (by decide +kernel) rfl rfl (Nat.le_of_ble_eq_true rfl) (sf_7 G h0 a _ _ _ _ _ 1) dX1_beginMethod_2 (fun H locs w hP hD hS hO => ?_)
  refine lv_aload_n hx hb dX1_beginMethod_5 rfl (lv_at hl 0 rfl) ?_
  refine lv_iconst (v := 1) hx hb dX1_beginMethod_6 (by decide) ?_
  refine c_put (v := .int 1) (ty := .int) (C := RX1) (Tc := TX1) (N := 13) (ci := 1) hx hb hq pin_wsX10 tyX1 tyX1_ok nmX1 hown hE hP hD hS hO 13 (sg_13 G h0 a _ _ _ _ _) rfl 12 (by decide) (hq _ pw_35) (fun _ h9 => h9) rfl (by decide +kernel) rfl rfl (Nat.le_of_ble_eq_true rfl) (sf_8 G h0 a _ _ _ _ _ 1) dX1_beginMethod_7 (fun H locs w hP hD hS hO => ?_)
  have hO : OKW G h0 a (upd (upd F 7 1) 8 1) R Z B J T Pi w := hO.to rfl
  exact W.vret hx hb hr (fun t99 ht99 hW99 => ⟨⟨_, (w, ()), rfl, ⟨rfl, hO⟩, by rw [ht99]; exact hP, hD⟩, hS.F ht99⟩) hS.2.2 dX1_beginMethod_10
theorem dX1_hold_0 : decode cX1_hold 0 = .ok (.aload_n 0, 1) := by decide +kernel
theorem dX1_hold_1 : decode cX1_hold 1 = .ok (.dup, 1) := by decide +kernel
theorem dX1_hold_2 : decode cX1_hold 2 = .ok (.getfield 46, 3) := by decide +kernel
theorem dX1_hold_5 : decode cX1_hold 5 = .ok (.iload_n 1, 1) := by decide +kernel
theorem dX1_hold_6 : decode cX1_hold 6 = .ok (.iadd, 1) := by decide +kernel
theorem dX1_hold_7 : decode cX1_hold 7 = .ok (.putfield 46, 3) := by decide +kernel
theorem dX1_hold_10 : decode cX1_hold 10 = .ok (.aload_n 0, 1) := by decide +kernel
theorem dX1_hold_11 : decode cX1_hold 11 = .ok (.aload_n 0, 1) := by decide +kernel
theorem dX1_hold_12 : decode cX1_hold 12 = .ok (.getfield 49, 3) := by decide +kernel
theorem dX1_hold_15 : decode cX1_hold 15 = .ok (.aload_n 0, 1) := by decide +kernel
theorem dX1_hold_16 : decode cX1_hold 16 = .ok (.getfield 46, 3) := by decide +kernel
theorem dX1_hold_19 : decode cX1_hold 19 = .ok (.invokestatic 52, 3) := by decide +kernel
theorem dX1_hold_22 : decode cX1_hold 22 = .ok (.putfield 49, 3) := by decide +kernel
theorem dX1_hold_25 : decode cX1_hold 25 = .ok (.return_, 1) := by decide +kernel
set_option maxHeartbeats 2000000 in
set_option maxRecDepth 100000 in
theorem K_hold (l : Launch) (G : pT) (h0 : Nat) (a : Nat → Nat) (F : Nat → Int32) (R : Nat → Value) (Z : Int64) (B : Nat → Nat → Int32) (J : Nat → Nat → Int64) (T : Nat → Nat) (Pi : Nat → va_E → Prop) (w : va_W) (mo : Nat) (hd : Nat) (dp : Nat) (hh : hd + mo ≤ 1000) (hdp : dp ≤ 1000) (hO : OKW G h0 a (upd (upd F 7 (nI hd)) 8 (nI dp)) R Z B J T Pi w) : PM l G pX0 yX1_hold cX1_hold 2 none ({ frames := 2, cells := 0, slots := 0, locals := 60 }) [.ref (a 2), .int (nI mo)] w (fun (v : Option Value) (u : va_W × (Nat)) => v = none ∧ (u.2 ≤ 1000) ∧ (OKW G h0 a (upd (upd F 7 (nI (hd + mo))) 8 (nI u.2)) R Z B J T Pi u.1)) (fun u => u.1) := by
  intro sz
  refine Met.ofW (cc := cX1_hold) (maxL := 2) (ret := none) (by decide) rfl ?_
  intro p e s m args below meth c s₁ B9 hml hv
  obtain ⟨rfl, hsz, hP, hD0, hE, hX⟩ := hv
  have hx := B9.exec
  have hb := B9.bytes
  have hr := B9.returns
  have hts := atoms_spec (ws := Cond.code yX1_hold cX1_hold 2 none :: pw) B9.pre
  have hq : ∀ w ∈ pw, w.before _ s = true := fun w h => hts w (List.mem_cons_of_mem _ h)
  have hown : s.vm.findClass RX1 = some m.cls := findClass_of_methodNamed B9.named
  have hlocks := B9.notSynchronized
  subst hsz
  have hD := hD0.self (sz := s.heap.size)
  have hA : ∀ q : Nat, s.heap.size ≤ q → va_A w s.heap.size q := fun q h => Or.inr h
  generalize va_A w s.heap.size = A at hD hE hA ⊢
  have hS : va_S A s.heap s.heap [] := va_S.rf
  have hl := lv_entry ([.ref (a 2), .int (nI mo)]) (n := 2) (Nat.le_of_ble_eq_true rfl)
  rw [lg_entry_eq]
  generalize (lg_sl ([.ref (a 2), .int (nI mo)]) ++ List.replicate (2 - (lg_sl ([.ref (a 2), .int (nI mo)])).length) Slot.unset).toArray = ls at hl ⊢
  have hl : lv_has ls 2 [(0, .ref (a 2)), (1, .int (nI mo))] := hl
  refine lv_aload_n hx hb dX1_hold_0 rfl (lv_at hl 0 rfl) ?_
  refine lv_dup hx hb dX1_hold_1 rfl ?_
  refine c_get (v := .int (nI hd)) (C := RX1) (Tc := TX1) (N := 13) (ci := 1) hx hb hq pin_wsX10 hown hE hP hO 13 (sg_13 G h0 a _ _ _ _ _) rfl 11 (by decide) (hq _ pw_34) (fun _ h9 => h9) rfl dX1_hold_2 ?_
  refine lv_iload_n hx hb dX1_hold_5 rfl (lv_at hl 1 rfl) ?_
  refine lv_iadd hx hb dX1_hold_6 ?_
  refine lv_topi (fun x1 e2 => ?_)
  obtain rfl : x1 = nI (hd + mo) := e2.trans (nI_add (hd) (mo))
  refine c_put (v := .int (nI (hd + mo))) (ty := .int) (C := RX1) (Tc := TX1) (N := 13) (ci := 1) hx hb hq pin_wsX10 tyX1 tyX1_ok nmX1 hown hE hP hD hS hO 13 (sg_13 G h0 a _ _ _ _ _) rfl 11 (by decide) (hq _ pw_34) (fun _ h9 => h9) rfl (by decide +kernel) rfl rfl (Nat.le_of_ble_eq_true rfl) (sf_7 G h0 a _ _ _ _ _ (nI (hd + mo))) dX1_hold_7 (fun H locs w hP hD hS hO => ?_)
  refine lv_aload_n hx hb dX1_hold_10 rfl (lv_at hl 0 rfl) ?_
  refine lv_aload_n hx hb dX1_hold_11 rfl (lv_at hl 0 rfl) ?_
  refine c_get (v := .int (nI dp)) (C := RX1) (Tc := TX1) (N := 13) (ci := 1) hx hb hq pin_wsX10 hown hE hP hO 13 (sg_13 G h0 a _ _ _ _ _) rfl 12 (by decide) (hq _ pw_35) (fun _ h9 => h9) rfl dX1_hold_12 ?_
  refine lv_aload_n hx hb dX1_hold_15 rfl (lv_at hl 0 rfl) ?_
  refine c_get (v := .int (nI (hd + mo))) (C := RX1) (Tc := TX1) (N := 13) (ci := 1) hx hb hq pin_wsX10 hown hE hP hO 13 (sg_13 G h0 a _ _ _ _ _) rfl 11 (by decide) (hq _ pw_34) (fun _ h9 => h9) rfl dX1_hold_16 ?_
  refine va_mmax (own := RX1) hx hb (by rw [hml]; exact hl.1.symm) hown (hq _ pw_50) (hq _ pw_51) (hq _ pw_52) (hq _ pw_53) (Nat.le_of_ble_eq_true rfl) (Nat.le_of_ble_eq_true rfl) (Nat.le_of_ble_eq_true rfl) (Nat.le_of_ble_eq_true rfl) dX1_hold_19 ?_
  refine lv_topi (fun x3 e4 => ?_)
  obtain ⟨k9, hk9, hl9⟩ := mx_n (x := dp) (y := hd + mo) (n := 1000) (by omega) (by omega)
  obtain rfl : x3 = nI k9 := e4.trans hk9
  refine c_put (v := .int (nI k9)) (ty := .int) (C := RX1) (Tc := TX1) (N := 13) (ci := 1) hx hb hq pin_wsX10 tyX1 tyX1_ok nmX1 hown hE hP hD hS hO 13 (sg_13 G h0 a _ _ _ _ _) rfl 12 (by decide) (hq _ pw_35) (fun _ h9 => h9) rfl (by decide +kernel) rfl rfl (Nat.le_of_ble_eq_true rfl) (sf_8 G h0 a _ _ _ _ _ (nI k9)) dX1_hold_22 (fun H locs w hP hD hS hO => ?_)
  have hz5 : k9 ≤ 1000 := (by omega)
  have hO : OKW G h0 a (upd (upd F 7 (nI (hd + mo))) 8 (nI k9)) R Z B J T Pi w := hO.to rfl
  exact W.vret hx hb hr (fun t99 ht99 hW99 => ⟨⟨_, (w, k9), rfl, ⟨rfl, hz5, hO⟩, by rw [ht99]; exact hP, hD⟩, hS.F ht99⟩) hS.2.2 dX1_hold_25
theorem dX1_emit_0 : decode cX1_emit 0 = .ok (.aload_n 0, 1) := by decide +kernel
theorem dX1_emit_1 : decode cX1_emit 1 = .ok (.getfield 39, 3) := by decide +kernel
theorem dX1_emit_4 : decode cX1_emit 4 = .ok (.sipush 10000, 3) := by decide +kernel
theorem dX1_emit_7 : decode cX1_emit 7 = .ok (.if_icmp .ge 56, 3) := by decide +kernel
theorem dX1_emit_63 : decode cX1_emit 63 = .ok (.return_, 1) := by decide +kernel
theorem dX1_emit_10 : decode cX1_emit 10 = .ok (.aload_n 0, 1) := by decide +kernel
theorem dX1_emit_11 : decode cX1_emit 11 = .ok (.getfield 11, 3) := by decide +kernel
theorem dX1_emit_14 : decode cX1_emit 14 = .ok (.aload_n 0, 1) := by decide +kernel
theorem dX1_emit_15 : decode cX1_emit 15 = .ok (.getfield 39, 3) := by decide +kernel
theorem dX1_emit_18 : decode cX1_emit 18 = .ok (.iload_n 1, 1) := by decide +kernel
theorem dX1_emit_19 : decode cX1_emit 19 = .ok (.iastore, 1) := by decide +kernel
theorem dX1_emit_20 : decode cX1_emit 20 = .ok (.aload_n 0, 1) := by decide +kernel
theorem dX1_emit_21 : decode cX1_emit 21 = .ok (.getfield 15, 3) := by decide +kernel
theorem dX1_emit_24 : decode cX1_emit 24 = .ok (.aload_n 0, 1) := by decide +kernel
theorem dX1_emit_25 : decode cX1_emit 25 = .ok (.getfield 39, 3) := by decide +kernel
theorem dX1_emit_28 : decode cX1_emit 28 = .ok (.iload_n 2, 1) := by decide +kernel
theorem dX1_emit_29 : decode cX1_emit 29 = .ok (.iastore, 1) := by decide +kernel
theorem dX1_emit_30 : decode cX1_emit 30 = .ok (.aload_n 0, 1) := by decide +kernel
theorem dX1_emit_31 : decode cX1_emit 31 = .ok (.getfield 18, 3) := by decide +kernel
theorem dX1_emit_34 : decode cX1_emit 34 = .ok (.aload_n 0, 1) := by decide +kernel
theorem dX1_emit_35 : decode cX1_emit 35 = .ok (.getfield 39, 3) := by decide +kernel
theorem dX1_emit_38 : decode cX1_emit 38 = .ok (.iload_n 3, 1) := by decide +kernel
theorem dX1_emit_39 : decode cX1_emit 39 = .ok (.iastore, 1) := by decide +kernel
theorem dX1_emit_40 : decode cX1_emit 40 = .ok (.aload_n 0, 1) := by decide +kernel
theorem dX1_emit_41 : decode cX1_emit 41 = .ok (.getfield 21, 3) := by decide +kernel
theorem dX1_emit_44 : decode cX1_emit 44 = .ok (.aload_n 0, 1) := by decide +kernel
theorem dX1_emit_45 : decode cX1_emit 45 = .ok (.getfield 39, 3) := by decide +kernel
theorem dX1_emit_48 : decode cX1_emit 48 = .ok (.aload_n 0, 1) := by decide +kernel
theorem dX1_emit_49 : decode cX1_emit 49 = .ok (.getfield 46, 3) := by decide +kernel
theorem dX1_emit_52 : decode cX1_emit 52 = .ok (.iastore, 1) := by decide +kernel
theorem dX1_emit_53 : decode cX1_emit 53 = .ok (.aload_n 0, 1) := by decide +kernel
theorem dX1_emit_54 : decode cX1_emit 54 = .ok (.dup, 1) := by decide +kernel
theorem dX1_emit_55 : decode cX1_emit 55 = .ok (.getfield 39, 3) := by decide +kernel
theorem dX1_emit_58 : decode cX1_emit 58 = .ok (.iconst 1, 1) := by decide +kernel
theorem dX1_emit_59 : decode cX1_emit 59 = .ok (.iadd, 1) := by decide +kernel
theorem dX1_emit_60 : decode cX1_emit 60 = .ok (.putfield 39, 3) := by decide +kernel
set_option maxHeartbeats 2000000 in
set_option maxRecDepth 100000 in
theorem K_emit (l : Launch) (G : pT) (h0 : Nat) (a : Nat → Nat) (F : Nat → Int32) (R : Nat → Value) (Z : Int64) (B : Nat → Nat → Int32) (J : Nat → Nat → Int64) (T : Nat → Nat) (Pi : Nat → va_E → Prop) (w : va_W) (x1 : Int32) (x2 : Int32) (rt : Nat) (cs : Nat) (hcs : cs ≤ 10000) (hrt : rt ≤ 6000) (hng : Nng (B 18)) (hO : OKW G h0 a (upd F 5 (nI cs)) R Z B J T Pi w) : PM l G pX0 yX1_emit cX1_emit 4 none ({ frames := 2, cells := 0, slots := 0, locals := 60 }) [.ref (a 2), .int x1, .int x2, .int (nI rt)] w (fun (v : Option Value) (u : va_W × (Nat × (Nat → Int32) × (Nat → Int32) × (Nat → Int32) × (Nat → Int32))) => v = none ∧ (cs ≤ u.2.1 ∧ u.2.1 ≤ cs + 1 ∧ u.2.1 ≤ 10000) ∧ (Nng u.2.2.2.2.1) ∧ (OKW G h0 a (upd F 5 (nI u.2.1)) R Z (updA (updA (updA (updA B 16 u.2.2.1) 17 u.2.2.2.1) 18 u.2.2.2.2.1) 19 u.2.2.2.2.2) J T Pi u.1)) (fun u => u.1) := by
  intro sz
  refine Met.ofW (cc := cX1_emit) (maxL := 4) (ret := none) (by decide) rfl ?_
  intro p e s m args below meth c s₁ B9 hml hv
  obtain ⟨rfl, hsz, hP, hD0, hE, hX⟩ := hv
  have hx := B9.exec
  have hb := B9.bytes
  have hr := B9.returns
  have hts := atoms_spec (ws := Cond.code yX1_emit cX1_emit 4 none :: pw) B9.pre
  have hq : ∀ w ∈ pw, w.before _ s = true := fun w h => hts w (List.mem_cons_of_mem _ h)
  have hown : s.vm.findClass RX1 = some m.cls := findClass_of_methodNamed B9.named
  have hlocks := B9.notSynchronized
  subst hsz
  have hD := hD0.self (sz := s.heap.size)
  have hA : ∀ q : Nat, s.heap.size ≤ q → va_A w s.heap.size q := fun q h => Or.inr h
  generalize va_A w s.heap.size = A at hD hE hA ⊢
  have hS : va_S A s.heap s.heap [] := va_S.rf
  have hl := lv_entry ([.ref (a 2), .int x1, .int x2, .int (nI rt)]) (n := 4) (Nat.le_of_ble_eq_true rfl)
  rw [lg_entry_eq]
  generalize (lg_sl ([.ref (a 2), .int x1, .int x2, .int (nI rt)]) ++ List.replicate (4 - (lg_sl ([.ref (a 2), .int x1, .int x2, .int (nI rt)])).length) Slot.unset).toArray = ls at hl ⊢
  have hl : lv_has ls 4 [(0, .ref (a 2)), (1, .int x1), (2, .int x2), (3, .int (nI rt))] := hl
  refine lv_aload_n hx hb dX1_emit_0 rfl (lv_at hl 0 rfl) ?_
  refine c_get (v := .int (nI cs)) (C := RX1) (Tc := TX1) (N := 13) (ci := 1) hx hb hq pin_wsX10 hown hE hP hO 13 (sg_13 G h0 a _ _ _ _ _) rfl 4 (by decide) (hq _ pw_11) (fun _ h9 => h9) rfl dX1_emit_1 ?_
  refine lv_sipush (v := 10000) hx hb dX1_emit_4 (by decide) ?_
  refine lv_icmp_ge (tgt := 63) hx hb dX1_emit_7 (by decide) (fun c1 => ?_) (fun c1 => ?_)
  · have n2 : 10000 ≤ cs := (nI_leI (a := 10000) (b := cs) (by omega) (by omega)).mp c1
    have hz3 : cs ≤ cs ∧ cs ≤ cs + 1 ∧ cs ≤ 10000 := (by omega)
    have hz4 : Nng (B 18) := hng
    have hO : OKW G h0 a (upd F 5 (nI cs)) R Z (updA (updA (updA (updA B 16 (B 16)) 17 (B 17)) 18 (B 18)) 19 (B 19)) J T Pi w := hO.to rfl
    exact W.vret hx hb hr (fun t99 ht99 hW99 => ⟨⟨_, (w, (cs, (B 16), (B 17), (B 18), (B 19))), rfl, ⟨rfl, hz3, hz4, hO⟩, by rw [ht99]; exact hP, hD⟩, hS.F ht99⟩) hS.2.2 dX1_emit_63
  · have n5 : ¬ (10000 ≤ cs) := fun h9 => c1 ((nI_leI (a := 10000) (b := cs) (by omega) (by omega)).mpr h9)
    refine lv_aload_n hx hb dX1_emit_10 rfl (lv_at hl 0 rfl) ?_
    refine c_get (v := .ref (a 16)) (C := RX1) (Tc := TX1) (N := 13) (ci := 1) hx hb hq pin_wsX10 hown hE hP hO 13 (sg_13 G h0 a _ _ _ _ _) rfl 0 (by decide) (hq _ pw_116) (fun _ h9 => h9) rfl dX1_emit_11 ?_
    refine lv_aload_n hx hb dX1_emit_14 rfl (lv_at hl 0 rfl) ?_
    refine c_get (v := .int (nI cs)) (C := RX1) (Tc := TX1) (N := 13) (ci := 1) hx hb hq pin_wsX10 hown hE hP hO 13 (sg_13 G h0 a _ _ _ _ _) rfl 4 (by decide) (hq _ pw_11) (fun _ h9 => h9) rfl dX1_emit_15 ?_
    refine lv_iload_n hx hb dX1_emit_18 rfl (lv_at hl 1 rfl) ?_
    refine c_sti (f := (B 16)) (n := 10000) (t0 := 0) hx hb hE hP hD hS hO 14 (sg_14 G h0 a _ _ _ _ _) rfl (vp_in_nI (by omega) (by decide)) (sb_16 G h0 a _ _ _ _ _ _) dX1_emit_19 (fun H locs w hP hD hS hO => ?_)
    rw [(nI_clamp (show cs < 2 ^ 31 by omega))] at hO
    refine lv_aload_n hx hb dX1_emit_20 rfl (lv_at hl 0 rfl) ?_
    refine c_get (v := .ref (a 17)) (C := RX1) (Tc := TX1) (N := 13) (ci := 1) hx hb hq pin_wsX10 hown hE hP hO 13 (sg_13 G h0 a _ _ _ _ _) rfl 1 (by decide) (hq _ pw_117) (fun _ h9 => h9) rfl dX1_emit_21 ?_
    refine lv_aload_n hx hb dX1_emit_24 rfl (lv_at hl 0 rfl) ?_
    refine c_get (v := .int (nI cs)) (C := RX1) (Tc := TX1) (N := 13) (ci := 1) hx hb hq pin_wsX10 hown hE hP hO 13 (sg_13 G h0 a _ _ _ _ _) rfl 4 (by decide) (hq _ pw_11) (fun _ h9 => h9) rfl dX1_emit_25 ?_
    refine lv_iload_n hx hb dX1_emit_28 rfl (lv_at hl 2 rfl) ?_
    refine c_sti (f := (B 17)) (n := 10000) (t0 := 0) hx hb hE hP hD hS hO 15 (sg_15 G h0 a _ _ _ _ _) rfl (vp_in_nI (by omega) (by decide)) (sb_17 G h0 a _ _ _ _ _ _) dX1_emit_29 (fun H locs w hP hD hS hO => ?_)
    rw [(nI_clamp (show cs < 2 ^ 31 by omega))] at hO
    refine lv_aload_n hx hb dX1_emit_30 rfl (lv_at hl 0 rfl) ?_
    refine c_get (v := .ref (a 18)) (C := RX1) (Tc := TX1) (N := 13) (ci := 1) hx hb hq pin_wsX10 hown hE hP hO 13 (sg_13 G h0 a _ _ _ _ _) rfl 2 (by decide) (hq _ pw_118) (fun _ h9 => h9) rfl dX1_emit_31 ?_
    refine lv_aload_n hx hb dX1_emit_34 rfl (lv_at hl 0 rfl) ?_
    refine c_get (v := .int (nI cs)) (C := RX1) (Tc := TX1) (N := 13) (ci := 1) hx hb hq pin_wsX10 hown hE hP hO 13 (sg_13 G h0 a _ _ _ _ _) rfl 4 (by decide) (hq _ pw_11) (fun _ h9 => h9) rfl dX1_emit_35 ?_
    refine lv_iload_n hx hb dX1_emit_38 rfl (lv_at hl 3 rfl) ?_
    refine c_sti (f := (B 18)) (n := 10000) (t0 := 0) hx hb hE hP hD hS hO 16 (sg_16 G h0 a _ _ _ _ _) rfl (vp_in_nI (by omega) (by decide)) (sb_18 G h0 a _ _ _ _ _ _) dX1_emit_39 (fun H locs w hP hD hS hO => ?_)
    rw [(nI_clamp (show cs < 2 ^ 31 by omega))] at hO
    refine lv_aload_n hx hb dX1_emit_40 rfl (lv_at hl 0 rfl) ?_
    refine c_get (v := .ref (a 19)) (C := RX1) (Tc := TX1) (N := 13) (ci := 1) hx hb hq pin_wsX10 hown hE hP hO 13 (sg_13 G h0 a _ _ _ _ _) rfl 3 (by decide) (hq _ pw_119) (fun _ h9 => h9) rfl dX1_emit_41 ?_
    refine lv_aload_n hx hb dX1_emit_44 rfl (lv_at hl 0 rfl) ?_
    refine c_get (v := .int (nI cs)) (C := RX1) (Tc := TX1) (N := 13) (ci := 1) hx hb hq pin_wsX10 hown hE hP hO 13 (sg_13 G h0 a _ _ _ _ _) rfl 4 (by decide) (hq _ pw_11) (fun _ h9 => h9) rfl dX1_emit_45 ?_
    refine lv_aload_n hx hb dX1_emit_48 rfl (lv_at hl 0 rfl) ?_
    refine c_get (v := .int (F 7)) (C := RX1) (Tc := TX1) (N := 13) (ci := 1) hx hb hq pin_wsX10 hown hE hP hO 13 (sg_13 G h0 a _ _ _ _ _) rfl 11 (by decide) (hq _ pw_34) (fun _ h9 => h9) rfl dX1_emit_49 ?_
    refine c_sti (f := (B 19)) (n := 10000) (t0 := 0) hx hb hE hP hD hS hO 17 (sg_17 G h0 a _ _ _ _ _) rfl (vp_in_nI (by omega) (by decide)) (sb_19 G h0 a _ _ _ _ _ _) dX1_emit_52 (fun H locs w hP hD hS hO => ?_)
    rw [(nI_clamp (show cs < 2 ^ 31 by omega))] at hO
    refine lv_aload_n hx hb dX1_emit_53 rfl (lv_at hl 0 rfl) ?_
    refine lv_dup hx hb dX1_emit_54 rfl ?_
    refine c_get (v := .int (nI cs)) (C := RX1) (Tc := TX1) (N := 13) (ci := 1) hx hb hq pin_wsX10 hown hE hP hO 13 (sg_13 G h0 a _ _ _ _ _) rfl 4 (by decide) (hq _ pw_11) (fun _ h9 => h9) rfl dX1_emit_55 ?_
    refine lv_iconst (v := 1) hx hb dX1_emit_58 (by decide) ?_
    refine lv_iadd hx hb dX1_emit_59 ?_
    refine lv_topi (fun x6 e7 => ?_)
    obtain rfl : x6 = nI (cs + 1) := e7.trans (nI_add (cs) (1))
    refine c_put (v := .int (nI (cs + 1))) (ty := .int) (C := RX1) (Tc := TX1) (N := 13) (ci := 1) hx hb hq pin_wsX10 tyX1 tyX1_ok nmX1 hown hE hP hD hS hO 13 (sg_13 G h0 a _ _ _ _ _) rfl 4 (by decide) (hq _ pw_11) (fun _ h9 => h9) rfl (by decide +kernel) rfl rfl (Nat.le_of_ble_eq_true rfl) (sf_5 G h0 a _ _ _ _ _ (nI (cs + 1))) dX1_emit_60 (fun H locs w hP hD hS hO => ?_)
    have hz8 : cs ≤ (cs + 1) ∧ (cs + 1) ≤ cs + 1 ∧ (cs + 1) ≤ 10000 := (by omega)
    have hz9 : Nng (upd (B 18) cs (nI rt)) := (Nng.set hng hrt)
    have hO : OKW G h0 a (upd F 5 (nI (cs + 1))) R Z (updA (updA (updA (updA B 16 (upd (B 16) cs x1)) 17 (upd (B 17) cs x2)) 18 (upd (B 18) cs (nI rt))) 19 (upd (B 19) cs (F 7))) J T Pi w := hO.to rfl
    exact W.vret hx hb hr (fun t99 ht99 hW99 => ⟨⟨_, (w, ((cs + 1), (upd (B 16) cs x1), (upd (B 17) cs x2), (upd (B 18) cs (nI rt)), (upd (B 19) cs (F 7)))), rfl, ⟨rfl, hz8, hz9, hO⟩, by rw [ht99]; exact hP, hD⟩, hS.F ht99⟩) hS.2.2 dX1_emit_63
theorem dX1_jump_0 : decode cX1_jump 0 = .ok (.aload_n 0, 1) := by decide +kernel
theorem dX1_jump_1 : decode cX1_jump 1 = .ok (.iload_n 1, 1) := by decide +kernel
theorem dX1_jump_2 : decode cX1_jump 2 = .ok (.iload_n 2, 1) := by decide +kernel
theorem dX1_jump_3 : decode cX1_jump 3 = .ok (.iload_n 3, 1) := by decide +kernel
theorem dX1_jump_4 : decode cX1_jump 4 = .ok (.invokevirtual 58, 3) := by decide +kernel
theorem dX1_jump_7 : decode cX1_jump 7 = .ok (.aload_n 0, 1) := by decide +kernel
theorem dX1_jump_8 : decode cX1_jump 8 = .ok (.getfield 39, 3) := by decide +kernel
theorem dX1_jump_11 : decode cX1_jump 11 = .ok (.iconst 1, 1) := by decide +kernel
theorem dX1_jump_12 : decode cX1_jump 12 = .ok (.isub, 1) := by decide +kernel
theorem dX1_jump_13 : decode cX1_jump 13 = .ok (.ireturn, 1) := by decide +kernel
theorem hV_X1_emit : yX1_emit.cls = RX1 ∧ yX1_emit.cls ≠ "java/lang/invoke/MethodHandle" ∧ yX1_emit.cls ≠ "java/lang/invoke/VarHandle" ∧ (parseMethodDescriptor yX1_emit.desc).map (fun d => d.parameters.length) = some 3 := by decide +kernel
set_option maxHeartbeats 2000000 in
set_option maxRecDepth 100000 in
theorem K_jump (l : Launch) (G : pT) (h0 : Nat) (a : Nat → Nat) (F : Nat → Int32) (R : Nat → Value) (Z : Int64) (B : Nat → Nat → Int32) (J : Nat → Nat → Int64) (T : Nat → Nat) (Pi : Nat → va_E → Prop) (w : va_W) (x1 : Int32) (x2 : Int32) (rt : Nat) (cs : Nat) (hcs : cs ≤ 10000) (hrt : rt ≤ 6000) (hng : Nng (B 18)) (hO : OKW G h0 a (upd F 5 (nI cs)) R Z B J T Pi w) : PM l G pX0 yX1_jump cX1_jump 4 (some .int) ({ frames := 3, cells := 0, slots := 0, locals := 83 }) [.ref (a 2), .int x1, .int x2, .int (nI rt)] w (fun (v : Option Value) (u : va_W × (Nat × (Nat → Int32) × (Nat → Int32) × (Nat → Int32) × (Nat → Int32) × Int32)) => v = some (.int u.2.2.2.2.2.2) ∧ (cs ≤ u.2.1 ∧ u.2.1 ≤ cs + 1 ∧ u.2.1 ≤ 10000) ∧ (Nng u.2.2.2.2.1) ∧ (OKW G h0 a (upd F 5 (nI u.2.1)) R Z (updA (updA (updA (updA B 16 u.2.2.1) 17 u.2.2.2.1) 18 u.2.2.2.2.1) 19 u.2.2.2.2.2.1) J T Pi u.1)) (fun u => u.1) := by
  intro sz
  refine Met.ofW (cc := cX1_jump) (maxL := 4) (ret := (some .int)) (by decide) rfl ?_
  intro p e s m args below meth c s₁ B9 hml hv
  obtain ⟨rfl, hsz, hP, hD0, hE, hX⟩ := hv
  have hx := B9.exec
  have hb := B9.bytes
  have hr := B9.returns
  have hts := atoms_spec (ws := Cond.code yX1_jump cX1_jump 4 (some .int) :: pw) B9.pre
  have hq : ∀ w ∈ pw, w.before _ s = true := fun w h => hts w (List.mem_cons_of_mem _ h)
  have hown : s.vm.findClass RX1 = some m.cls := findClass_of_methodNamed B9.named
  have hlocks := B9.notSynchronized
  subst hsz
  have hD := hD0.self (sz := s.heap.size)
  have hA : ∀ q : Nat, s.heap.size ≤ q → va_A w s.heap.size q := fun q h => Or.inr h
  generalize va_A w s.heap.size = A at hD hE hA ⊢
  have hS : va_S A s.heap s.heap [] := va_S.rf
  have hl := lv_entry ([.ref (a 2), .int x1, .int x2, .int (nI rt)]) (n := 4) (Nat.le_of_ble_eq_true rfl)
  rw [lg_entry_eq]
  generalize (lg_sl ([.ref (a 2), .int x1, .int x2, .int (nI rt)]) ++ List.replicate (4 - (lg_sl ([.ref (a 2), .int x1, .int x2, .int (nI rt)])).length) Slot.unset).toArray = ls at hl ⊢
  have hl : lv_has ls 4 [(0, .ref (a 2)), (1, .int x1), (2, .int x2), (3, .int (nI rt))] := hl
  refine lv_aload_n hx hb dX1_jump_0 rfl (lv_at hl 0 rfl) ?_
  refine lv_iload_n hx hb dX1_jump_1 rfl (lv_at hl 1 rfl) ?_
  refine lv_iload_n hx hb dX1_jump_2 rfl (lv_at hl 2 rfl) ?_
  refine lv_iload_n hx hb dX1_jump_3 rfl (lv_at hl 3 rfl) ?_
  have hO : OKW G h0 a (upd (upd F 5 (nI cs)) 5 (nI cs)) R Z B J T Pi w := hO.to rfl
  obtain ⟨_, qr4, hqr5⟩ := hO.2.1 13 _ (sg_13 G h0 a _ _ _ _ _)
  refine pc_V0 (G := G) (As := [.int x1, .int x2, .int (nI rt)]) (rest := []) hx hb hml hown hq hE hX pX0_al hP hD hS hA hl.1 (K_emit l G h0 a (upd F 5 (nI cs)) R Z B J T Pi w x1 x2 rt cs (by omega) (by omega) hng hO) (gV pw_133 pw_130 pw_131 pw_70 pw_115) hV_X1_emit qr4 1 hqr5 rfl rfl rfl (Nat.le_of_ble_eq_true rfl) dX1_jump_4 ⟨Nat.le_of_ble_eq_true rfl, Nat.le_of_ble_eq_true rfl⟩ ⟨Nat.le_of_ble_eq_true rfl, Nat.le_of_ble_eq_true rfl⟩ (fun v3 u1 H locs hw2 hP hD hS => ?_)
  obtain ⟨w, cs6, f7, f8, f9, f10⟩ := u1
  obtain ⟨hw2, h11, h12, hO⟩ := hw2
  have h11 : cs ≤ cs6 ∧ cs6 ≤ cs + 1 ∧ cs6 ≤ 10000 := h11
  have h12 : Nng f9 := h12
  obtain rfl : v3 = none := hw2
  have hO : OKW G h0 a (upd F 5 (nI cs6)) R Z (updA (updA (updA (updA B 16 f7) 17 f8) 18 f9) 19 f10) J T Pi w := hO.to rfl
  refine W.widen (k := 0) (n := 0) (Nat.le_of_ble_eq_true rfl) (Nat.le_of_ble_eq_true rfl) ?_
  refine W.eq (g2 := F0 m 7 ls []) rfl ?_
  refine lv_aload_n hx hb dX1_jump_7 rfl (lv_at hl 0 rfl) ?_
  refine c_get (v := .int (nI cs6)) (C := RX1) (Tc := TX1) (N := 13) (ci := 1) hx hb hq pin_wsX10 hown hE hP hO 13 (sg_13 G h0 a _ _ _ _ _) rfl 4 (by decide) (hq _ pw_11) (fun _ h9 => h9) rfl dX1_jump_8 ?_
  refine lv_iconst (v := 1) hx hb dX1_jump_11 (by decide) ?_
  refine lv_isub hx hb dX1_jump_12 ?_
  refine lv_topi (fun x13 e14 => ?_)
  have hz15 : cs ≤ cs6 ∧ cs6 ≤ cs + 1 ∧ cs6 ≤ 10000 := (by omega)
  have hz16 : Nng f9 := h12
  have hO : OKW G h0 a (upd F 5 (nI cs6)) R Z (updA (updA (updA (updA B 16 f7) 17 f8) 18 f9) 19 f10) J T Pi w := hO.to rfl
  exact W.iret (v := x13) hx hb hr (fun t99 ht99 hW99 => ⟨⟨_, (w, (cs6, f7, f8, f9, f10, x13)), rfl, ⟨rfl, hz15, hz16, hO⟩, by rw [ht99]; exact hP, hD⟩, hS.F ht99⟩) hS.2.2 dX1_jump_13
theorem dX1_land_0 : decode cX1_land 0 = .ok (.iload_n 1, 1) := by decide +kernel
theorem dX1_land_1 : decode cX1_land 1 = .ok (.istore_n 2, 1) := by decide +kernel
theorem dX1_land_2 : decode cX1_land 2 = .ok (.iconst 0, 1) := by decide +kernel
theorem dX1_land_3 : decode cX1_land 3 = .ok (.istore_n 3, 1) := by decide +kernel
theorem dX1_land_4 : decode cX1_land 4 = .ok (.iload_n 3, 1) := by decide +kernel
theorem dX1_land_5 : decode cX1_land 5 = .ok (.aload_n 0, 1) := by decide +kernel
theorem dX1_land_6 : decode cX1_land 6 = .ok (.getfield 39, 3) := by decide +kernel
theorem dX1_land_9 : decode cX1_land 9 = .ok (.if_icmp .ge 42, 3) := by decide +kernel
theorem dX1_land_51 : decode cX1_land 51 = .ok (.return_, 1) := by decide +kernel
theorem dX1_land_12 : decode cX1_land 12 = .ok (.iload_n 2, 1) := by decide +kernel
theorem dX1_land_13 : decode cX1_land 13 = .ok (.ifCond .lt 38, 3) := by decide +kernel
theorem dX1_land_16 : decode cX1_land 16 = .ok (.iload_n 2, 1) := by decide +kernel
theorem dX1_land_17 : decode cX1_land 17 = .ok (.aload_n 0, 1) := by decide +kernel
theorem dX1_land_18 : decode cX1_land 18 = .ok (.getfield 39, 3) := by decide +kernel
theorem dX1_land_21 : decode cX1_land 21 = .ok (.if_icmp .ge 30, 3) := by decide +kernel
theorem dX1_land_24 : decode cX1_land 24 = .ok (.aload_n 0, 1) := by decide +kernel
theorem dX1_land_25 : decode cX1_land 25 = .ok (.getfield 15, 3) := by decide +kernel
theorem dX1_land_28 : decode cX1_land 28 = .ok (.iload_n 2, 1) := by decide +kernel
theorem dX1_land_29 : decode cX1_land 29 = .ok (.iaload, 1) := by decide +kernel
theorem dX1_land_30 : decode cX1_land 30 = .ok (.istore 4, 2) := by decide +kernel
theorem dX1_land_32 : decode cX1_land 32 = .ok (.aload_n 0, 1) := by decide +kernel
theorem dX1_land_33 : decode cX1_land 33 = .ok (.getfield 15, 3) := by decide +kernel
theorem dX1_land_36 : decode cX1_land 36 = .ok (.iload_n 2, 1) := by decide +kernel
theorem dX1_land_37 : decode cX1_land 37 = .ok (.aload_n 0, 1) := by decide +kernel
theorem dX1_land_38 : decode cX1_land 38 = .ok (.getfield 39, 3) := by decide +kernel
theorem dX1_land_41 : decode cX1_land 41 = .ok (.iastore, 1) := by decide +kernel
theorem dX1_land_42 : decode cX1_land 42 = .ok (.iload 4, 2) := by decide +kernel
theorem dX1_land_44 : decode cX1_land 44 = .ok (.istore_n 2, 1) := by decide +kernel
theorem dX1_land_45 : decode cX1_land 45 = .ok (.iinc 3 1, 3) := by decide +kernel
theorem dX1_land_48 : decode cX1_land 48 = .ok (.goto (-44), 3) := by decide +kernel
set_option maxHeartbeats 2000000 in
set_option maxRecDepth 100000 in
theorem K_land (l : Launch) (G : pT) (h0 : Nat) (a : Nat → Nat) (F : Nat → Int32) (R : Nat → Value) (Z : Int64) (B : Nat → Nat → Int32) (J : Nat → Nat → Int64) (T : Nat → Nat) (Pi : Nat → va_E → Prop) (w : va_W) (x : Int32) (cs : Nat) (hcs : cs ≤ 10000) (hO : OKW G h0 a (upd F 5 (nI cs)) R Z B J T Pi w) : PM l G pX0 yX1_land cX1_land 5 none ({ frames := 2, cells := 0, slots := 0, locals := 60 }) [.ref (a 2), .int x] w (fun (v : Option Value) (u : va_W × ((Nat → Int32))) => v = none ∧ (OKW G h0 a (upd F 5 (nI cs)) R Z (updA B 17 u.2) J T Pi u.1)) (fun u => u.1) := by
  intro sz
  refine Met.ofW (cc := cX1_land) (maxL := 5) (ret := none) (by decide) rfl ?_
  intro p e s m args below meth c s₁ B9 hml hv
  obtain ⟨rfl, hsz, hP, hD0, hE, hX⟩ := hv
  have hx := B9.exec
  have hb := B9.bytes
  have hr := B9.returns
  have hts := atoms_spec (ws := Cond.code yX1_land cX1_land 5 none :: pw) B9.pre
  have hq : ∀ w ∈ pw, w.before _ s = true := fun w h => hts w (List.mem_cons_of_mem _ h)
  have hown : s.vm.findClass RX1 = some m.cls := findClass_of_methodNamed B9.named
  have hlocks := B9.notSynchronized
  subst hsz
  have hD := hD0.self (sz := s.heap.size)
  have hA : ∀ q : Nat, s.heap.size ≤ q → va_A w s.heap.size q := fun q h => Or.inr h
  generalize va_A w s.heap.size = A at hD hE hA ⊢
  have hS : va_S A s.heap s.heap [] := va_S.rf
  have hl := lv_entry ([.ref (a 2), .int x]) (n := 5) (Nat.le_of_ble_eq_true rfl)
  rw [lg_entry_eq]
  generalize (lg_sl ([.ref (a 2), .int x]) ++ List.replicate (5 - (lg_sl ([.ref (a 2), .int x])).length) Slot.unset).toArray = ls at hl ⊢
  have hl : lv_has ls 5 [(0, .ref (a 2)), (1, .int x)] := hl
  refine lv_iload_n hx hb dX1_land_0 rfl (lv_at hl 1 rfl) ?_
  refine lv_istore_n (lv' := [(2, .int x), (0, .ref (a 2)), (1, .int x)]) hx hb dX1_land_1 rfl hl (by decide) rfl (fun ls hl => ?_)
  refine lv_iconst (v := 0) hx hb dX1_land_2 (by decide) ?_
  refine lv_istore_n (lv' := [(3, .int 0), (2, .int x), (0, .ref (a 2)), (1, .int x)]) hx hb dX1_land_3 rfl hl (by decide) rfl (fun ls hl => ?_)
  have loop_n : ∀ (n_n : Nat) (n2 : Nat) (j2 : Int32) (f2 : Nat → Int32) (H : Heap) (locs : List Loc) (ls : Array Slot) (w : va_W), n2 ≤ cs → cs + 1 ≤ n2 + n_n → va_P G.1 pCl w H → va_D A w → va_S A s.heap H locs → OKW G h0 a (upd F 5 (nI cs)) R Z (updA B 17 f2) J T Pi w → lv_has ls 5 [(3, .int (nI n2)), (2, .int j2), (1, .int x), (0, .ref (a 2))] → W p l e (headSpec (Cond.code yX1_land cX1_land 5 none :: pw) ({ frames := 2, cells := 0, slots := 0, locals := 60 } : Room)).room s m ([.ref (a 2), .int x] : List Value).toArray below meth c H locs 0 0 (MQ below (pQ G A (fun (v : Option Value) (u : va_W × ((Nat → Int32))) => v = none ∧ (OKW G h0 a (upd F 5 (nI cs)) R Z (updA B 17 u.2) J T Pi u.1)) (fun u => u.1)) ([.ref (a 2), .int x] : List Value).toArray s ({ frames := 2, cells := 0, slots := 0, locals := 60 } : Room).cells ({ frames := 2, cells := 0, slots := 0, locals := 60 } : Room).slots A) (F0 m 4 ls []) := by
    intro n_n
    induction n_n with
    | zero => intro n2 j2 f2 H locs ls w hk_n hn_n; omega
    | succ n_n ih_n =>
      intro n2 j2 f2 H locs ls w hk_n hn_n hP hD hS hO hl
      refine lv_iload_n hx hb dX1_land_4 rfl (lv_at hl 0 rfl) ?_
      refine lv_aload_n hx hb dX1_land_5 rfl (lv_at hl 3 rfl) ?_
      refine c_get (v := .int (nI cs)) (C := RX1) (Tc := TX1) (N := 13) (ci := 1) hx hb hq pin_wsX10 hown hE hP hO 13 (sg_13 G h0 a _ _ _ _ _) rfl 4 (by decide) (hq _ pw_11) (fun _ h9 => h9) rfl dX1_land_6 ?_
      refine lv_icmp_ge (tgt := 51) hx hb dX1_land_9 (by decide) (fun c1 => ?_) (fun c1 => ?_)
      · have n2 : cs ≤ n2 := (nI_leI (a := cs) (b := n2) (by omega) (by omega)).mp c1
        have hO : OKW G h0 a (upd F 5 (nI cs)) R Z (updA B 17 f2) J T Pi w := hO.to rfl
        exact W.vret hx hb hr (fun t99 ht99 hW99 => ⟨⟨_, (w, f2), rfl, ⟨rfl, hO⟩, by rw [ht99]; exact hP, hD⟩, hS.F ht99⟩) hS.2.2 dX1_land_51
      · have n3 : ¬ (cs ≤ n2) := fun h9 => c1 ((nI_leI (a := cs) (b := n2) (by omega) (by omega)).mpr h9)
        refine lv_iload_n hx hb dX1_land_12 rfl (lv_at hl 1 rfl) ?_
        refine lv_if_lt (tgt := 51) hx hb dX1_land_13 (by decide) (fun c4 => ?_) (fun c4 => ?_)
        · have hO : OKW G h0 a (upd F 5 (nI cs)) R Z (updA B 17 f2) J T Pi w := hO.to rfl
          exact W.vret hx hb hr (fun t99 ht99 hW99 => ⟨⟨_, (w, f2), rfl, ⟨rfl, hO⟩, by rw [ht99]; exact hP, hD⟩, hS.F ht99⟩) hS.2.2 dX1_land_51
        · obtain ⟨j9, ht_j9, hb_j9⟩ := nI_nn2 c4
          rw [ht_j9] at hl
          refine lv_iload_n hx hb dX1_land_16 rfl (lv_at hl 1 rfl) ?_
          refine lv_aload_n hx hb dX1_land_17 rfl (lv_at hl 3 rfl) ?_
          refine c_get (v := .int (nI cs)) (C := RX1) (Tc := TX1) (N := 13) (ci := 1) hx hb hq pin_wsX10 hown hE hP hO 13 (sg_13 G h0 a _ _ _ _ _) rfl 4 (by decide) (hq _ pw_11) (fun _ h9 => h9) rfl dX1_land_18 ?_
          refine lv_icmp_ge (tgt := 51) hx hb dX1_land_21 (by decide) (fun c5 => ?_) (fun c5 => ?_)
          · have n6 : cs ≤ j9 := (nI_leI (a := cs) (b := j9) (by omega) (by omega)).mp c5
            have hO : OKW G h0 a (upd F 5 (nI cs)) R Z (updA B 17 f2) J T Pi w := hO.to rfl
            exact W.vret hx hb hr (fun t99 ht99 hW99 => ⟨⟨_, (w, f2), rfl, ⟨rfl, hO⟩, by rw [ht99]; exact hP, hD⟩, hS.F ht99⟩) hS.2.2 dX1_land_51
          · have n7 : ¬ (cs ≤ j9) := fun h9 => c5 ((nI_leI (a := cs) (b := j9) (by omega) (by omega)).mpr h9)
            refine lv_aload_n hx hb dX1_land_24 rfl (lv_at hl 3 rfl) ?_
            refine c_get (v := .ref (a 17)) (C := RX1) (Tc := TX1) (N := 13) (ci := 1) hx hb hq pin_wsX10 hown hE hP hO 13 (sg_13 G h0 a _ _ _ _ _) rfl 1 (by decide) (hq _ pw_117) (fun _ h9 => h9) rfl dX1_land_25 ?_
            refine lv_iload_n hx hb dX1_land_28 rfl (lv_at hl 1 rfl) ?_
            refine c_ldi (f := f2) (n := 10000) (t0 := 0) hx hb hE hP hO 15 (sg_15 G h0 a _ _ _ _ _) rfl (vp_in_nI (by omega) (by decide)) dX1_land_29 ?_
            rw [(nI_clamp (show j9 < 2 ^ 31 by omega))]
            refine lv_topi (fun x8 e9 => ?_)
            refine lv_istore (lv' := [(4, .int x8), (3, .int (nI n2)), (2, .int (nI j9)), (1, .int x), (0, .ref (a 2))]) hx hb dX1_land_30 hl (by decide) rfl (fun ls hl => ?_)
            refine lv_aload_n hx hb dX1_land_32 rfl (lv_at hl 4 rfl) ?_
            refine c_get (v := .ref (a 17)) (C := RX1) (Tc := TX1) (N := 13) (ci := 1) hx hb hq pin_wsX10 hown hE hP hO 13 (sg_13 G h0 a _ _ _ _ _) rfl 1 (by decide) (hq _ pw_117) (fun _ h9 => h9) rfl dX1_land_33 ?_
            refine lv_iload_n hx hb dX1_land_36 rfl (lv_at hl 2 rfl) ?_
            refine lv_aload_n hx hb dX1_land_37 rfl (lv_at hl 4 rfl) ?_
            refine c_get (v := .int (nI cs)) (C := RX1) (Tc := TX1) (N := 13) (ci := 1) hx hb hq pin_wsX10 hown hE hP hO 13 (sg_13 G h0 a _ _ _ _ _) rfl 4 (by decide) (hq _ pw_11) (fun _ h9 => h9) rfl dX1_land_38 ?_
            refine c_sti (f := f2) (n := 10000) (t0 := 0) hx hb hE hP hD hS hO 15 (sg_15 G h0 a _ _ _ _ _) rfl (vp_in_nI (by omega) (by decide)) (sb_17 G h0 a _ _ _ _ _ _) dX1_land_41 (fun H locs w hP hD hS hO => ?_)
            rw [(nI_clamp (show j9 < 2 ^ 31 by omega))] at hO
            refine lv_iload hx hb dX1_land_42 (lv_at hl 0 rfl) ?_
            refine lv_istore_n (lv' := [(2, .int x8), (4, .int x8), (3, .int (nI n2)), (1, .int x), (0, .ref (a 2))]) hx hb dX1_land_44 rfl hl (by decide) rfl (fun ls hl => ?_)
            refine lv_iinc (v := (nI (n2 + 1))) (lv' := [(3, .int (nI (n2 + 1))), (2, .int x8), (4, .int x8), (1, .int x), (0, .ref (a 2))]) hx hb dX1_land_45 hl (k := 2) rfl (nI_1 n2) (by decide) rfl (fun ls hl => ?_)
            refine lv_goto (tgt := 4) hx hb dX1_land_48 (by decide) ?_
            have hO : OKW G h0 a (upd F 5 (nI cs)) R Z (updA B 17 (upd f2 j9 (nI cs))) J T Pi w := hO.to rfl
            exact ih_n (n2 + 1) x8 (upd f2 j9 (nI cs)) _ _ _ _ (by omega) (by omega) hP hD hS hO (lv_sub hl [0, 1, 3, 4] rfl)
  have hO : OKW G h0 a (upd F 5 (nI cs)) R Z (updA B 17 (B 17)) J T Pi w := hO.to rfl
  exact loop_n (cs + 1) 0 x (B 17) _ _ _ _ (by omega) (by omega) hP hD hS hO (lv_sub hl [0, 1, 3, 2] rfl)
theorem dX1_addRegion_0 : decode cX1_addRegion 0 = .ok (.aload_n 0, 1) := by decide +kernel
theorem dX1_addRegion_1 : decode cX1_addRegion 1 = .ok (.getfield 43, 3) := by decide +kernel
theorem dX1_addRegion_4 : decode cX1_addRegion 4 = .ok (.sipush 625, 3) := by decide +kernel
theorem dX1_addRegion_7 : decode cX1_addRegion 7 = .ok (.if_icmp .ge 67, 3) := by decide +kernel
theorem dX1_addRegion_74 : decode cX1_addRegion 74 = .ok (.return_, 1) := by decide +kernel
theorem dX1_addRegion_10 : decode cX1_addRegion 10 = .ok (.aload_n 0, 1) := by decide +kernel
theorem dX1_addRegion_11 : decode cX1_addRegion 11 = .ok (.getfield 24, 3) := by decide +kernel
theorem dX1_addRegion_14 : decode cX1_addRegion 14 = .ok (.aload_n 0, 1) := by decide +kernel
theorem dX1_addRegion_15 : decode cX1_addRegion 15 = .ok (.getfield 43, 3) := by decide +kernel
theorem dX1_addRegion_18 : decode cX1_addRegion 18 = .ok (.iload_n 1, 1) := by decide +kernel
theorem dX1_addRegion_19 : decode cX1_addRegion 19 = .ok (.iastore, 1) := by decide +kernel
theorem dX1_addRegion_20 : decode cX1_addRegion 20 = .ok (.aload_n 0, 1) := by decide +kernel
theorem dX1_addRegion_21 : decode cX1_addRegion 21 = .ok (.getfield 27, 3) := by decide +kernel
theorem dX1_addRegion_24 : decode cX1_addRegion 24 = .ok (.aload_n 0, 1) := by decide +kernel
theorem dX1_addRegion_25 : decode cX1_addRegion 25 = .ok (.getfield 43, 3) := by decide +kernel
theorem dX1_addRegion_28 : decode cX1_addRegion 28 = .ok (.iload_n 2, 1) := by decide +kernel
theorem dX1_addRegion_29 : decode cX1_addRegion 29 = .ok (.iastore, 1) := by decide +kernel
theorem dX1_addRegion_30 : decode cX1_addRegion 30 = .ok (.aload_n 0, 1) := by decide +kernel
theorem dX1_addRegion_31 : decode cX1_addRegion 31 = .ok (.getfield 30, 3) := by decide +kernel
theorem dX1_addRegion_34 : decode cX1_addRegion 34 = .ok (.aload_n 0, 1) := by decide +kernel
theorem dX1_addRegion_35 : decode cX1_addRegion 35 = .ok (.getfield 43, 3) := by decide +kernel
theorem dX1_addRegion_38 : decode cX1_addRegion 38 = .ok (.aload_n 0, 1) := by decide +kernel
theorem dX1_addRegion_39 : decode cX1_addRegion 39 = .ok (.getfield 39, 3) := by decide +kernel
theorem dX1_addRegion_42 : decode cX1_addRegion 42 = .ok (.iastore, 1) := by decide +kernel
theorem dX1_addRegion_43 : decode cX1_addRegion 43 = .ok (.aload_n 0, 1) := by decide +kernel
theorem dX1_addRegion_44 : decode cX1_addRegion 44 = .ok (.getfield 33, 3) := by decide +kernel
theorem dX1_addRegion_47 : decode cX1_addRegion 47 = .ok (.aload_n 0, 1) := by decide +kernel
theorem dX1_addRegion_48 : decode cX1_addRegion 48 = .ok (.getfield 43, 3) := by decide +kernel
theorem dX1_addRegion_51 : decode cX1_addRegion 51 = .ok (.iload_n 3, 1) := by decide +kernel
theorem dX1_addRegion_52 : decode cX1_addRegion 52 = .ok (.iastore, 1) := by decide +kernel
theorem dX1_addRegion_53 : decode cX1_addRegion 53 = .ok (.aload_n 0, 1) := by decide +kernel
theorem dX1_addRegion_54 : decode cX1_addRegion 54 = .ok (.getfield 36, 3) := by decide +kernel
theorem dX1_addRegion_57 : decode cX1_addRegion 57 = .ok (.aload_n 0, 1) := by decide +kernel
theorem dX1_addRegion_58 : decode cX1_addRegion 58 = .ok (.getfield 43, 3) := by decide +kernel
theorem dX1_addRegion_61 : decode cX1_addRegion 61 = .ok (.iload 4, 2) := by decide +kernel
theorem dX1_addRegion_63 : decode cX1_addRegion 63 = .ok (.iastore, 1) := by decide +kernel
theorem dX1_addRegion_64 : decode cX1_addRegion 64 = .ok (.aload_n 0, 1) := by decide +kernel
theorem dX1_addRegion_65 : decode cX1_addRegion 65 = .ok (.dup, 1) := by decide +kernel
theorem dX1_addRegion_66 : decode cX1_addRegion 66 = .ok (.getfield 43, 3) := by decide +kernel
theorem dX1_addRegion_69 : decode cX1_addRegion 69 = .ok (.iconst 1, 1) := by decide +kernel
theorem dX1_addRegion_70 : decode cX1_addRegion 70 = .ok (.iadd, 1) := by decide +kernel
theorem dX1_addRegion_71 : decode cX1_addRegion 71 = .ok (.putfield 43, 3) := by decide +kernel
set_option maxHeartbeats 2000000 in
set_option maxRecDepth 100000 in
theorem K_addRegion (l : Launch) (G : pT) (h0 : Nat) (a : Nat → Nat) (F : Nat → Int32) (R : Nat → Value) (Z : Int64) (B : Nat → Nat → Int32) (J : Nat → Nat → Int64) (T : Nat → Nat) (Pi : Nat → va_E → Prop) (w : va_W) (x1 : Int32) (x2 : Int32) (x3 : Int32) (x4 : Int32) (rg : Nat) (hrg : rg ≤ 625) (hO : OKW G h0 a (upd F 6 (nI rg)) R Z B J T Pi w) : PM l G pX0 yX1_addRegion cX1_addRegion 5 none ({ frames := 2, cells := 0, slots := 0, locals := 60 }) [.ref (a 2), .int x1, .int x2, .int x3, .int x4] w (fun (v : Option Value) (u : va_W × (Nat × (Nat → Int32) × (Nat → Int32) × (Nat → Int32) × (Nat → Int32) × (Nat → Int32))) => v = none ∧ (rg ≤ u.2.1 ∧ u.2.1 ≤ 625) ∧ (OKW G h0 a (upd F 6 (nI u.2.1)) R Z (updA (updA (updA (updA (updA B 20 u.2.2.1) 21 u.2.2.2.1) 22 u.2.2.2.2.1) 23 u.2.2.2.2.2.1) 24 u.2.2.2.2.2.2) J T Pi u.1)) (fun u => u.1) := by
  intro sz
  refine Met.ofW (cc := cX1_addRegion) (maxL := 5) (ret := none) (by decide) rfl ?_
  intro p e s m args below meth c s₁ B9 hml hv
  obtain ⟨rfl, hsz, hP, hD0, hE, hX⟩ := hv
  have hx := B9.exec
  have hb := B9.bytes
  have hr := B9.returns
  have hts := atoms_spec (ws := Cond.code yX1_addRegion cX1_addRegion 5 none :: pw) B9.pre
  have hq : ∀ w ∈ pw, w.before _ s = true := fun w h => hts w (List.mem_cons_of_mem _ h)
  have hown : s.vm.findClass RX1 = some m.cls := findClass_of_methodNamed B9.named
  have hlocks := B9.notSynchronized
  subst hsz
  have hD := hD0.self (sz := s.heap.size)
  have hA : ∀ q : Nat, s.heap.size ≤ q → va_A w s.heap.size q := fun q h => Or.inr h
  generalize va_A w s.heap.size = A at hD hE hA ⊢
  have hS : va_S A s.heap s.heap [] := va_S.rf
  have hl := lv_entry ([.ref (a 2), .int x1, .int x2, .int x3, .int x4]) (n := 5) (Nat.le_of_ble_eq_true rfl)
  rw [lg_entry_eq]
  generalize (lg_sl ([.ref (a 2), .int x1, .int x2, .int x3, .int x4]) ++ List.replicate (5 - (lg_sl ([.ref (a 2), .int x1, .int x2, .int x3, .int x4])).length) Slot.unset).toArray = ls at hl ⊢
  have hl : lv_has ls 5 [(0, .ref (a 2)), (1, .int x1), (2, .int x2), (3, .int x3), (4, .int x4)] := hl
  refine lv_aload_n hx hb dX1_addRegion_0 rfl (lv_at hl 0 rfl) ?_
  refine c_get (v := .int (nI rg)) (C := RX1) (Tc := TX1) (N := 13) (ci := 1) hx hb hq pin_wsX10 hown hE hP hO 13 (sg_13 G h0 a _ _ _ _ _) rfl 10 (by decide) (hq _ pw_12) (fun _ h9 => h9) rfl dX1_addRegion_1 ?_
  refine lv_sipush (v := 625) hx hb dX1_addRegion_4 (by decide) ?_
  refine lv_icmp_ge (tgt := 74) hx hb dX1_addRegion_7 (by decide) (fun c1 => ?_) (fun c1 => ?_)
  · have n2 : 625 ≤ rg := (nI_leI (a := 625) (b := rg) (by omega) (by omega)).mp c1
    have hz3 : rg ≤ rg ∧ rg ≤ 625 := (by omega)
    have hO : OKW G h0 a (upd F 6 (nI rg)) R Z (updA (updA (updA (updA (updA B 20 (B 20)) 21 (B 21)) 22 (B 22)) 23 (B 23)) 24 (B 24)) J T Pi w := hO.to rfl
    exact W.vret hx hb hr (fun t99 ht99 hW99 => ⟨⟨_, (w, (rg, (B 20), (B 21), (B 22), (B 23), (B 24))), rfl, ⟨rfl, hz3, hO⟩, by rw [ht99]; exact hP, hD⟩, hS.F ht99⟩) hS.2.2 dX1_addRegion_74
  · have n4 : ¬ (625 ≤ rg) := fun h9 => c1 ((nI_leI (a := 625) (b := rg) (by omega) (by omega)).mpr h9)
    refine lv_aload_n hx hb dX1_addRegion_10 rfl (lv_at hl 0 rfl) ?_
    refine c_get (v := .ref (a 20)) (C := RX1) (Tc := TX1) (N := 13) (ci := 1) hx hb hq pin_wsX10 hown hE hP hO 13 (sg_13 G h0 a _ _ _ _ _) rfl 5 (by decide) (hq _ pw_295) (fun _ h9 => h9) rfl dX1_addRegion_11 ?_
    refine lv_aload_n hx hb dX1_addRegion_14 rfl (lv_at hl 0 rfl) ?_
    refine c_get (v := .int (nI rg)) (C := RX1) (Tc := TX1) (N := 13) (ci := 1) hx hb hq pin_wsX10 hown hE hP hO 13 (sg_13 G h0 a _ _ _ _ _) rfl 10 (by decide) (hq _ pw_12) (fun _ h9 => h9) rfl dX1_addRegion_15 ?_
    refine lv_iload_n hx hb dX1_addRegion_18 rfl (lv_at hl 1 rfl) ?_
    refine c_sti (f := (B 20)) (n := 625) (t0 := 0) hx hb hE hP hD hS hO 18 (sg_18 G h0 a _ _ _ _ _) rfl (vp_in_nI (by omega) (by decide)) (sb_20 G h0 a _ _ _ _ _ _) dX1_addRegion_19 (fun H locs w hP hD hS hO => ?_)
    rw [(nI_clamp (show rg < 2 ^ 31 by omega))] at hO
    refine lv_aload_n hx hb dX1_addRegion_20 rfl (lv_at hl 0 rfl) ?_
    refine c_get (v := .ref (a 21)) (C := RX1) (Tc := TX1) (N := 13) (ci := 1) hx hb hq pin_wsX10 hown hE hP hO 13 (sg_13 G h0 a _ _ _ _ _) rfl 6 (by decide) (hq _ pw_296) (fun _ h9 => h9) rfl dX1_addRegion_21 ?_
    refine lv_aload_n hx hb dX1_addRegion_24 rfl (lv_at hl 0 rfl) ?_
    refine c_get (v := .int (nI rg)) (C := RX1) (Tc := TX1) (N := 13) (ci := 1) hx hb hq pin_wsX10 hown hE hP hO 13 (sg_13 G h0 a _ _ _ _ _) rfl 10 (by decide) (hq _ pw_12) (fun _ h9 => h9) rfl dX1_addRegion_25 ?_
    refine lv_iload_n hx hb dX1_addRegion_28 rfl (lv_at hl 2 rfl) ?_
    refine c_sti (f := (B 21)) (n := 625) (t0 := 0) hx hb hE hP hD hS hO 19 (sg_19 G h0 a _ _ _ _ _) rfl (vp_in_nI (by omega) (by decide)) (sb_21 G h0 a _ _ _ _ _ _) dX1_addRegion_29 (fun H locs w hP hD hS hO => ?_)
    rw [(nI_clamp (show rg < 2 ^ 31 by omega))] at hO
    refine lv_aload_n hx hb dX1_addRegion_30 rfl (lv_at hl 0 rfl) ?_
    refine c_get (v := .ref (a 22)) (C := RX1) (Tc := TX1) (N := 13) (ci := 1) hx hb hq pin_wsX10 hown hE hP hO 13 (sg_13 G h0 a _ _ _ _ _) rfl 7 (by decide) (hq _ pw_297) (fun _ h9 => h9) rfl dX1_addRegion_31 ?_
    refine lv_aload_n hx hb dX1_addRegion_34 rfl (lv_at hl 0 rfl) ?_
    refine c_get (v := .int (nI rg)) (C := RX1) (Tc := TX1) (N := 13) (ci := 1) hx hb hq pin_wsX10 hown hE hP hO 13 (sg_13 G h0 a _ _ _ _ _) rfl 10 (by decide) (hq _ pw_12) (fun _ h9 => h9) rfl dX1_addRegion_35 ?_
    refine lv_aload_n hx hb dX1_addRegion_38 rfl (lv_at hl 0 rfl) ?_
    refine c_get (v := .int (F 5)) (C := RX1) (Tc := TX1) (N := 13) (ci := 1) hx hb hq pin_wsX10 hown hE hP hO 13 (sg_13 G h0 a _ _ _ _ _) rfl 4 (by decide) (hq _ pw_11) (fun _ h9 => h9) rfl dX1_addRegion_39 ?_
    refine c_sti (f := (B 22)) (n := 625) (t0 := 0) hx hb hE hP hD hS hO 20 (sg_20 G h0 a _ _ _ _ _) rfl (vp_in_nI (by omega) (by decide)) (sb_22 G h0 a _ _ _ _ _ _) dX1_addRegion_42 (fun H locs w hP hD hS hO => ?_)
    rw [(nI_clamp (show rg < 2 ^ 31 by omega))] at hO
    refine lv_aload_n hx hb dX1_addRegion_43 rfl (lv_at hl 0 rfl) ?_
    refine c_get (v := .ref (a 23)) (C := RX1) (Tc := TX1) (N := 13) (ci := 1) hx hb hq pin_wsX10 hown hE hP hO 13 (sg_13 G h0 a _ _ _ _ _) rfl 8 (by decide) (hq _ pw_298) (fun _ h9 => h9) rfl dX1_addRegion_44 ?_
    refine lv_aload_n hx hb dX1_addRegion_47 rfl (lv_at hl 0 rfl) ?_
    refine c_get (v := .int (nI rg)) (C := RX1) (Tc := TX1) (N := 13) (ci := 1) hx hb hq pin_wsX10 hown hE hP hO 13 (sg_13 G h0 a _ _ _ _ _) rfl 10 (by decide) (hq _ pw_12) (fun _ h9 => h9) rfl dX1_addRegion_48 ?_
    refine lv_iload_n hx hb dX1_addRegion_51 rfl (lv_at hl 3 rfl) ?_
    refine c_sti (f := (B 23)) (n := 625) (t0 := 0) hx hb hE hP hD hS hO 21 (sg_21 G h0 a _ _ _ _ _) rfl (vp_in_nI (by omega) (by decide)) (sb_23 G h0 a _ _ _ _ _ _) dX1_addRegion_52 (fun H locs w hP hD hS hO => ?_)
    rw [(nI_clamp (show rg < 2 ^ 31 by omega))] at hO
    refine lv_aload_n hx hb dX1_addRegion_53 rfl (lv_at hl 0 rfl) ?_
    refine c_get (v := .ref (a 24)) (C := RX1) (Tc := TX1) (N := 13) (ci := 1) hx hb hq pin_wsX10 hown hE hP hO 13 (sg_13 G h0 a _ _ _ _ _) rfl 9 (by decide) (hq _ pw_299) (fun _ h9 => h9) rfl dX1_addRegion_54 ?_
    refine lv_aload_n hx hb dX1_addRegion_57 rfl (lv_at hl 0 rfl) ?_
    refine c_get (v := .int (nI rg)) (C := RX1) (Tc := TX1) (N := 13) (ci := 1) hx hb hq pin_wsX10 hown hE hP hO 13 (sg_13 G h0 a _ _ _ _ _) rfl 10 (by decide) (hq _ pw_12) (fun _ h9 => h9) rfl dX1_addRegion_58 ?_
    refine lv_iload hx hb dX1_addRegion_61 (lv_at hl 4 rfl) ?_
    refine c_sti (f := (B 24)) (n := 625) (t0 := 0) hx hb hE hP hD hS hO 22 (sg_22 G h0 a _ _ _ _ _) rfl (vp_in_nI (by omega) (by decide)) (sb_24 G h0 a _ _ _ _ _ _) dX1_addRegion_63 (fun H locs w hP hD hS hO => ?_)
    rw [(nI_clamp (show rg < 2 ^ 31 by omega))] at hO
    refine lv_aload_n hx hb dX1_addRegion_64 rfl (lv_at hl 0 rfl) ?_
    refine lv_dup hx hb dX1_addRegion_65 rfl ?_
    refine c_get (v := .int (nI rg)) (C := RX1) (Tc := TX1) (N := 13) (ci := 1) hx hb hq pin_wsX10 hown hE hP hO 13 (sg_13 G h0 a _ _ _ _ _) rfl 10 (by decide) (hq _ pw_12) (fun _ h9 => h9) rfl dX1_addRegion_66 ?_
    refine lv_iconst (v := 1) hx hb dX1_addRegion_69 (by decide) ?_
    refine lv_iadd hx hb dX1_addRegion_70 ?_
    refine lv_topi (fun x5 e6 => ?_)
    obtain rfl : x5 = nI (rg + 1) := e6.trans (nI_add (rg) (1))
    refine c_put (v := .int (nI (rg + 1))) (ty := .int) (C := RX1) (Tc := TX1) (N := 13) (ci := 1) hx hb hq pin_wsX10 tyX1 tyX1_ok nmX1 hown hE hP hD hS hO 13 (sg_13 G h0 a _ _ _ _ _) rfl 10 (by decide) (hq _ pw_12) (fun _ h9 => h9) rfl (by decide +kernel) rfl rfl (Nat.le_of_ble_eq_true rfl) (sf_6 G h0 a _ _ _ _ _ (nI (rg + 1))) dX1_addRegion_71 (fun H locs w hP hD hS hO => ?_)
    have hz7 : rg ≤ (rg + 1) ∧ (rg + 1) ≤ 625 := (by omega)
    have hO : OKW G h0 a (upd F 6 (nI (rg + 1))) R Z (updA (updA (updA (updA (updA B 20 (upd (B 20) rg x1)) 21 (upd (B 21) rg x2)) 22 (upd (B 22) rg (F 5))) 23 (upd (B 23) rg x3)) 24 (upd (B 24) rg x4)) J T Pi w := hO.to rfl
    exact W.vret hx hb hr (fun t99 ht99 hW99 => ⟨⟨_, (w, ((rg + 1), (upd (B 20) rg x1), (upd (B 21) rg x2), (upd (B 22) rg (F 5)), (upd (B 23) rg x3), (upd (B 24) rg x4))), rfl, ⟨rfl, hz7, hO⟩, by rw [ht99]; exact hP, hD⟩, hS.F ht99⟩) hS.2.2 dX1_addRegion_74
theorem dX1_operation_0 : decode cX1_operation 0 = .ok (.iload_n 1, 1) := by decide +kernel
theorem dX1_operation_1 : decode cX1_operation 1 = .ok (.ifCond .lt 20, 3) := by decide +kernel
theorem dX1_operation_21 : decode cX1_operation 21 = .ok (.bipush 31, 2) := by decide +kernel
theorem dX1_operation_23 : decode cX1_operation 23 = .ok (.ireturn, 1) := by decide +kernel
theorem dX1_operation_4 : decode cX1_operation 4 = .ok (.iload_n 1, 1) := by decide +kernel
theorem dX1_operation_5 : decode cX1_operation 5 = .ok (.aload_n 0, 1) := by decide +kernel
theorem dX1_operation_6 : decode cX1_operation 6 = .ok (.getfield 39, 3) := by decide +kernel
theorem dX1_operation_9 : decode cX1_operation 9 = .ok (.if_icmp .ge 12, 3) := by decide +kernel
theorem dX1_operation_12 : decode cX1_operation 12 = .ok (.aload_n 0, 1) := by decide +kernel
theorem dX1_operation_13 : decode cX1_operation 13 = .ok (.getfield 11, 3) := by decide +kernel
theorem dX1_operation_16 : decode cX1_operation 16 = .ok (.iload_n 1, 1) := by decide +kernel
theorem dX1_operation_17 : decode cX1_operation 17 = .ok (.iaload, 1) := by decide +kernel
theorem dX1_operation_18 : decode cX1_operation 18 = .ok (.goto 5, 3) := by decide +kernel
set_option maxHeartbeats 2000000 in
set_option maxRecDepth 100000 in
theorem K_operation (l : Launch) (G : pT) (h0 : Nat) (a : Nat → Nat) (F : Nat → Int32) (R : Nat → Value) (Z : Int64) (B : Nat → Nat → Int32) (J : Nat → Nat → Int64) (T : Nat → Nat) (Pi : Nat → va_E → Prop) (w : va_W) (x : Int32) (cs : Nat) (hcs : cs ≤ 10000) (hO : OKW G h0 a (upd F 5 (nI cs)) R Z B J T Pi w) : PM l G pX0 yX1_operation cX1_operation 2 (some .int) ({ frames := 2, cells := 0, slots := 0, locals := 60 }) [.ref (a 2), .int x] w (fun (v : Option Value) (u : va_W × (Int32)) => v = some (.int u.2) ∧ (OKW G h0 a (upd F 5 (nI cs)) R Z B J T Pi u.1)) (fun u => u.1) := by
  intro sz
  refine Met.ofW (cc := cX1_operation) (maxL := 2) (ret := (some .int)) (by decide) rfl ?_
  intro p e s m args below meth c s₁ B9 hml hv
  obtain ⟨rfl, hsz, hP, hD0, hE, hX⟩ := hv
  have hx := B9.exec
  have hb := B9.bytes
  have hr := B9.returns
  have hts := atoms_spec (ws := Cond.code yX1_operation cX1_operation 2 (some .int) :: pw) B9.pre
  have hq : ∀ w ∈ pw, w.before _ s = true := fun w h => hts w (List.mem_cons_of_mem _ h)
  have hown : s.vm.findClass RX1 = some m.cls := findClass_of_methodNamed B9.named
  have hlocks := B9.notSynchronized
  subst hsz
  have hD := hD0.self (sz := s.heap.size)
  have hA : ∀ q : Nat, s.heap.size ≤ q → va_A w s.heap.size q := fun q h => Or.inr h
  generalize va_A w s.heap.size = A at hD hE hA ⊢
  have hS : va_S A s.heap s.heap [] := va_S.rf
  have hl := lv_entry ([.ref (a 2), .int x]) (n := 2) (Nat.le_of_ble_eq_true rfl)
  rw [lg_entry_eq]
  generalize (lg_sl ([.ref (a 2), .int x]) ++ List.replicate (2 - (lg_sl ([.ref (a 2), .int x])).length) Slot.unset).toArray = ls at hl ⊢
  have hl : lv_has ls 2 [(0, .ref (a 2)), (1, .int x)] := hl
  refine lv_iload_n hx hb dX1_operation_0 rfl (lv_at hl 1 rfl) ?_
  refine lv_if_lt (tgt := 21) hx hb dX1_operation_1 (by decide) (fun c1 => ?_) (fun c1 => ?_)
  · refine lv_bipush (v := 31) hx hb dX1_operation_21 (by decide) ?_
    have hO : OKW G h0 a (upd F 5 (nI cs)) R Z B J T Pi w := hO.to rfl
    exact W.iret (v := 31) hx hb hr (fun t99 ht99 hW99 => ⟨⟨_, (w, (31 : Int32)), rfl, ⟨rfl, hO⟩, by rw [ht99]; exact hP, hD⟩, hS.F ht99⟩) hS.2.2 dX1_operation_23
  · obtain ⟨t9, ht_t9, hb_t9⟩ := nI_nn2 c1
    rw [ht_t9] at hl
    refine lv_iload_n hx hb dX1_operation_4 rfl (lv_at hl 1 rfl) ?_
    refine lv_aload_n hx hb dX1_operation_5 rfl (lv_at hl 0 rfl) ?_
    refine c_get (v := .int (nI cs)) (C := RX1) (Tc := TX1) (N := 13) (ci := 1) hx hb hq pin_wsX10 hown hE hP hO 13 (sg_13 G h0 a _ _ _ _ _) rfl 4 (by decide) (hq _ pw_11) (fun _ h9 => h9) rfl dX1_operation_6 ?_
    refine lv_icmp_ge (tgt := 21) hx hb dX1_operation_9 (by decide) (fun c2 => ?_) (fun c2 => ?_)
    · have n3 : cs ≤ t9 := (nI_leI (a := cs) (b := t9) (by omega) (by omega)).mp c2
      refine lv_bipush (v := 31) hx hb dX1_operation_21 (by decide) ?_
      have hO : OKW G h0 a (upd F 5 (nI cs)) R Z B J T Pi w := hO.to rfl
      exact W.iret (v := 31) hx hb hr (fun t99 ht99 hW99 => ⟨⟨_, (w, (31 : Int32)), rfl, ⟨rfl, hO⟩, by rw [ht99]; exact hP, hD⟩, hS.F ht99⟩) hS.2.2 dX1_operation_23
    · have n4 : ¬ (cs ≤ t9) := fun h9 => c2 ((nI_leI (a := cs) (b := t9) (by omega) (by omega)).mpr h9)
      refine lv_aload_n hx hb dX1_operation_12 rfl (lv_at hl 0 rfl) ?_
      refine c_get (v := .ref (a 16)) (C := RX1) (Tc := TX1) (N := 13) (ci := 1) hx hb hq pin_wsX10 hown hE hP hO 13 (sg_13 G h0 a _ _ _ _ _) rfl 0 (by decide) (hq _ pw_116) (fun _ h9 => h9) rfl dX1_operation_13 ?_
      refine lv_iload_n hx hb dX1_operation_16 rfl (lv_at hl 1 rfl) ?_
      refine c_ldi (f := (B 16)) (n := 10000) (t0 := 0) hx hb hE hP hO 14 (sg_14 G h0 a _ _ _ _ _) rfl (vp_in_nI (by omega) (by decide)) dX1_operation_17 ?_
      rw [(nI_clamp (show t9 < 2 ^ 31 by omega))]
      refine lv_goto (tgt := 23) hx hb dX1_operation_18 (by decide) ?_
      have hO : OKW G h0 a (upd F 5 (nI cs)) R Z B J T Pi w := hO.to rfl
      exact W.iret (v := ((B 16) t9)) hx hb hr (fun t99 ht99 hW99 => ⟨⟨_, (w, ((B 16) t9)), rfl, ⟨rfl, hO⟩, by rw [ht99]; exact hP, hD⟩, hS.F ht99⟩) hS.2.2 dX1_operation_23
theorem dX1_left_0 : decode cX1_left 0 = .ok (.iload_n 1, 1) := by decide +kernel
theorem dX1_left_1 : decode cX1_left 1 = .ok (.ifCond .lt 20, 3) := by decide +kernel
theorem dX1_left_21 : decode cX1_left 21 = .ok (.iconst 0, 1) := by decide +kernel
theorem dX1_left_22 : decode cX1_left 22 = .ok (.ireturn, 1) := by decide +kernel
theorem dX1_left_4 : decode cX1_left 4 = .ok (.iload_n 1, 1) := by decide +kernel
theorem dX1_left_5 : decode cX1_left 5 = .ok (.aload_n 0, 1) := by decide +kernel
theorem dX1_left_6 : decode cX1_left 6 = .ok (.getfield 39, 3) := by decide +kernel
theorem dX1_left_9 : decode cX1_left 9 = .ok (.if_icmp .ge 12, 3) := by decide +kernel
theorem dX1_left_12 : decode cX1_left 12 = .ok (.aload_n 0, 1) := by decide +kernel
theorem dX1_left_13 : decode cX1_left 13 = .ok (.getfield 15, 3) := by decide +kernel
theorem dX1_left_16 : decode cX1_left 16 = .ok (.iload_n 1, 1) := by decide +kernel
theorem dX1_left_17 : decode cX1_left 17 = .ok (.iaload, 1) := by decide +kernel
theorem dX1_left_18 : decode cX1_left 18 = .ok (.goto 4, 3) := by decide +kernel
set_option maxHeartbeats 2000000 in
set_option maxRecDepth 100000 in
theorem K_left (l : Launch) (G : pT) (h0 : Nat) (a : Nat → Nat) (F : Nat → Int32) (R : Nat → Value) (Z : Int64) (B : Nat → Nat → Int32) (J : Nat → Nat → Int64) (T : Nat → Nat) (Pi : Nat → va_E → Prop) (w : va_W) (x : Int32) (cs : Nat) (hcs : cs ≤ 10000) (hO : OKW G h0 a (upd F 5 (nI cs)) R Z B J T Pi w) : PM l G pX0 yX1_left cX1_left 2 (some .int) ({ frames := 2, cells := 0, slots := 0, locals := 60 }) [.ref (a 2), .int x] w (fun (v : Option Value) (u : va_W × (Int32)) => v = some (.int u.2) ∧ (OKW G h0 a (upd F 5 (nI cs)) R Z B J T Pi u.1)) (fun u => u.1) := by
  intro sz
  refine Met.ofW (cc := cX1_left) (maxL := 2) (ret := (some .int)) (by decide) rfl ?_
  intro p e s m args below meth c s₁ B9 hml hv
  obtain ⟨rfl, hsz, hP, hD0, hE, hX⟩ := hv
  have hx := B9.exec
  have hb := B9.bytes
  have hr := B9.returns
  have hts := atoms_spec (ws := Cond.code yX1_left cX1_left 2 (some .int) :: pw) B9.pre
  have hq : ∀ w ∈ pw, w.before _ s = true := fun w h => hts w (List.mem_cons_of_mem _ h)
  have hown : s.vm.findClass RX1 = some m.cls := findClass_of_methodNamed B9.named
  have hlocks := B9.notSynchronized
  subst hsz
  have hD := hD0.self (sz := s.heap.size)
  have hA : ∀ q : Nat, s.heap.size ≤ q → va_A w s.heap.size q := fun q h => Or.inr h
  generalize va_A w s.heap.size = A at hD hE hA ⊢
  have hS : va_S A s.heap s.heap [] := va_S.rf
  have hl := lv_entry ([.ref (a 2), .int x]) (n := 2) (Nat.le_of_ble_eq_true rfl)
  rw [lg_entry_eq]
  generalize (lg_sl ([.ref (a 2), .int x]) ++ List.replicate (2 - (lg_sl ([.ref (a 2), .int x])).length) Slot.unset).toArray = ls at hl ⊢
  have hl : lv_has ls 2 [(0, .ref (a 2)), (1, .int x)] := hl
  refine lv_iload_n hx hb dX1_left_0 rfl (lv_at hl 1 rfl) ?_
  refine lv_if_lt (tgt := 21) hx hb dX1_left_1 (by decide) (fun c1 => ?_) (fun c1 => ?_)
  · refine lv_iconst (v := 0) hx hb dX1_left_21 (by decide) ?_
    have hO : OKW G h0 a (upd F 5 (nI cs)) R Z B J T Pi w := hO.to rfl
    exact W.iret (v := 0) hx hb hr (fun t99 ht99 hW99 => ⟨⟨_, (w, (0 : Int32)), rfl, ⟨rfl, hO⟩, by rw [ht99]; exact hP, hD⟩, hS.F ht99⟩) hS.2.2 dX1_left_22
  · obtain ⟨t9, ht_t9, hb_t9⟩ := nI_nn2 c1
    rw [ht_t9] at hl
    refine lv_iload_n hx hb dX1_left_4 rfl (lv_at hl 1 rfl) ?_
    refine lv_aload_n hx hb dX1_left_5 rfl (lv_at hl 0 rfl) ?_
    refine c_get (v := .int (nI cs)) (C := RX1) (Tc := TX1) (N := 13) (ci := 1) hx hb hq pin_wsX10 hown hE hP hO 13 (sg_13 G h0 a _ _ _ _ _) rfl 4 (by decide) (hq _ pw_11) (fun _ h9 => h9) rfl dX1_left_6 ?_
    refine lv_icmp_ge (tgt := 21) hx hb dX1_left_9 (by decide) (fun c2 => ?_) (fun c2 => ?_)
    · have n3 : cs ≤ t9 := (nI_leI (a := cs) (b := t9) (by omega) (by omega)).mp c2
      refine lv_iconst (v := 0) hx hb dX1_left_21 (by decide) ?_
      have hO : OKW G h0 a (upd F 5 (nI cs)) R Z B J T Pi w := hO.to rfl
      exact W.iret (v := 0) hx hb hr (fun t99 ht99 hW99 => ⟨⟨_, (w, (0 : Int32)), rfl, ⟨rfl, hO⟩, by rw [ht99]; exact hP, hD⟩, hS.F ht99⟩) hS.2.2 dX1_left_22
    · have n4 : ¬ (cs ≤ t9) := fun h9 => c2 ((nI_leI (a := cs) (b := t9) (by omega) (by omega)).mpr h9)
      refine lv_aload_n hx hb dX1_left_12 rfl (lv_at hl 0 rfl) ?_
      refine c_get (v := .ref (a 17)) (C := RX1) (Tc := TX1) (N := 13) (ci := 1) hx hb hq pin_wsX10 hown hE hP hO 13 (sg_13 G h0 a _ _ _ _ _) rfl 1 (by decide) (hq _ pw_117) (fun _ h9 => h9) rfl dX1_left_13 ?_
      refine lv_iload_n hx hb dX1_left_16 rfl (lv_at hl 1 rfl) ?_
      refine c_ldi (f := (B 17)) (n := 10000) (t0 := 0) hx hb hE hP hO 15 (sg_15 G h0 a _ _ _ _ _) rfl (vp_in_nI (by omega) (by decide)) dX1_left_17 ?_
      rw [(nI_clamp (show t9 < 2 ^ 31 by omega))]
      refine lv_goto (tgt := 22) hx hb dX1_left_18 (by decide) ?_
      have hO : OKW G h0 a (upd F 5 (nI cs)) R Z B J T Pi w := hO.to rfl
      exact W.iret (v := ((B 17) t9)) hx hb hr (fun t99 ht99 hW99 => ⟨⟨_, (w, ((B 17) t9)), rfl, ⟨rfl, hO⟩, by rw [ht99]; exact hP, hD⟩, hS.F ht99⟩) hS.2.2 dX1_left_22
theorem dX1_heldAt_0 : decode cX1_heldAt 0 = .ok (.iload_n 1, 1) := by decide +kernel
theorem dX1_heldAt_1 : decode cX1_heldAt 1 = .ok (.ifCond .lt 20, 3) := by decide +kernel
theorem dX1_heldAt_21 : decode cX1_heldAt 21 = .ok (.iconst 0, 1) := by decide +kernel
theorem dX1_heldAt_22 : decode cX1_heldAt 22 = .ok (.ireturn, 1) := by decide +kernel
theorem dX1_heldAt_4 : decode cX1_heldAt 4 = .ok (.iload_n 1, 1) := by decide +kernel
theorem dX1_heldAt_5 : decode cX1_heldAt 5 = .ok (.aload_n 0, 1) := by decide +kernel
theorem dX1_heldAt_6 : decode cX1_heldAt 6 = .ok (.getfield 39, 3) := by decide +kernel
theorem dX1_heldAt_9 : decode cX1_heldAt 9 = .ok (.if_icmp .ge 12, 3) := by decide +kernel
theorem dX1_heldAt_12 : decode cX1_heldAt 12 = .ok (.aload_n 0, 1) := by decide +kernel
theorem dX1_heldAt_13 : decode cX1_heldAt 13 = .ok (.getfield 21, 3) := by decide +kernel
theorem dX1_heldAt_16 : decode cX1_heldAt 16 = .ok (.iload_n 1, 1) := by decide +kernel
theorem dX1_heldAt_17 : decode cX1_heldAt 17 = .ok (.iaload, 1) := by decide +kernel
theorem dX1_heldAt_18 : decode cX1_heldAt 18 = .ok (.goto 4, 3) := by decide +kernel
set_option maxHeartbeats 2000000 in
set_option maxRecDepth 100000 in
theorem K_heldAt (l : Launch) (G : pT) (h0 : Nat) (a : Nat → Nat) (F : Nat → Int32) (R : Nat → Value) (Z : Int64) (B : Nat → Nat → Int32) (J : Nat → Nat → Int64) (T : Nat → Nat) (Pi : Nat → va_E → Prop) (w : va_W) (x : Int32) (cs : Nat) (hcs : cs ≤ 10000) (hO : OKW G h0 a (upd F 5 (nI cs)) R Z B J T Pi w) : PM l G pX0 yX1_heldAt cX1_heldAt 2 (some .int) ({ frames := 2, cells := 0, slots := 0, locals := 60 }) [.ref (a 2), .int x] w (fun (v : Option Value) (u : va_W × (Int32)) => v = some (.int u.2) ∧ (OKW G h0 a (upd F 5 (nI cs)) R Z B J T Pi u.1)) (fun u => u.1) := by
  intro sz
  refine Met.ofW (cc := cX1_heldAt) (maxL := 2) (ret := (some .int)) (by decide) rfl ?_
  intro p e s m args below meth c s₁ B9 hml hv
  obtain ⟨rfl, hsz, hP, hD0, hE, hX⟩ := hv
  have hx := B9.exec
  have hb := B9.bytes
  have hr := B9.returns
  have hts := atoms_spec (ws := Cond.code yX1_heldAt cX1_heldAt 2 (some .int) :: pw) B9.pre
  have hq : ∀ w ∈ pw, w.before _ s = true := fun w h => hts w (List.mem_cons_of_mem _ h)
  have hown : s.vm.findClass RX1 = some m.cls := findClass_of_methodNamed B9.named
  have hlocks := B9.notSynchronized
  subst hsz
  have hD := hD0.self (sz := s.heap.size)
  have hA : ∀ q : Nat, s.heap.size ≤ q → va_A w s.heap.size q := fun q h => Or.inr h
  generalize va_A w s.heap.size = A at hD hE hA ⊢
  have hS : va_S A s.heap s.heap [] := va_S.rf
  have hl := lv_entry ([.ref (a 2), .int x]) (n := 2) (Nat.le_of_ble_eq_true rfl)
  rw [lg_entry_eq]
  generalize (lg_sl ([.ref (a 2), .int x]) ++ List.replicate (2 - (lg_sl ([.ref (a 2), .int x])).length) Slot.unset).toArray = ls at hl ⊢
  have hl : lv_has ls 2 [(0, .ref (a 2)), (1, .int x)] := hl
  refine lv_iload_n hx hb dX1_heldAt_0 rfl (lv_at hl 1 rfl) ?_
  refine lv_if_lt (tgt := 21) hx hb dX1_heldAt_1 (by decide) (fun c1 => ?_) (fun c1 => ?_)
  · refine lv_iconst (v := 0) hx hb dX1_heldAt_21 (by decide) ?_
    have hO : OKW G h0 a (upd F 5 (nI cs)) R Z B J T Pi w := hO.to rfl
    exact W.iret (v := 0) hx hb hr (fun t99 ht99 hW99 => ⟨⟨_, (w, (0 : Int32)), rfl, ⟨rfl, hO⟩, by rw [ht99]; exact hP, hD⟩, hS.F ht99⟩) hS.2.2 dX1_heldAt_22
  · obtain ⟨t9, ht_t9, hb_t9⟩ := nI_nn2 c1
    rw [ht_t9] at hl
    refine lv_iload_n hx hb dX1_heldAt_4 rfl (lv_at hl 1 rfl) ?_
    refine lv_aload_n hx hb dX1_heldAt_5 rfl (lv_at hl 0 rfl) ?_
    refine c_get (v := .int (nI cs)) (C := RX1) (Tc := TX1) (N := 13) (ci := 1) hx hb hq pin_wsX10 hown hE hP hO 13 (sg_13 G h0 a _ _ _ _ _) rfl 4 (by decide) (hq _ pw_11) (fun _ h9 => h9) rfl dX1_heldAt_6 ?_
    refine lv_icmp_ge (tgt := 21) hx hb dX1_heldAt_9 (by decide) (fun c2 => ?_) (fun c2 => ?_)
    · have n3 : cs ≤ t9 := (nI_leI (a := cs) (b := t9) (by omega) (by omega)).mp c2
      refine lv_iconst (v := 0) hx hb dX1_heldAt_21 (by decide) ?_
      have hO : OKW G h0 a (upd F 5 (nI cs)) R Z B J T Pi w := hO.to rfl
      exact W.iret (v := 0) hx hb hr (fun t99 ht99 hW99 => ⟨⟨_, (w, (0 : Int32)), rfl, ⟨rfl, hO⟩, by rw [ht99]; exact hP, hD⟩, hS.F ht99⟩) hS.2.2 dX1_heldAt_22
    · have n4 : ¬ (cs ≤ t9) := fun h9 => c2 ((nI_leI (a := cs) (b := t9) (by omega) (by omega)).mpr h9)
      refine lv_aload_n hx hb dX1_heldAt_12 rfl (lv_at hl 0 rfl) ?_
      refine c_get (v := .ref (a 19)) (C := RX1) (Tc := TX1) (N := 13) (ci := 1) hx hb hq pin_wsX10 hown hE hP hO 13 (sg_13 G h0 a _ _ _ _ _) rfl 3 (by decide) (hq _ pw_119) (fun _ h9 => h9) rfl dX1_heldAt_13 ?_
      refine lv_iload_n hx hb dX1_heldAt_16 rfl (lv_at hl 1 rfl) ?_
      refine c_ldi (f := (B 19)) (n := 10000) (t0 := 0) hx hb hE hP hO 17 (sg_17 G h0 a _ _ _ _ _) rfl (vp_in_nI (by omega) (by decide)) dX1_heldAt_17 ?_
      rw [(nI_clamp (show t9 < 2 ^ 31 by omega))]
      refine lv_goto (tgt := 22) hx hb dX1_heldAt_18 (by decide) ?_
      have hO : OKW G h0 a (upd F 5 (nI cs)) R Z B J T Pi w := hO.to rfl
      exact W.iret (v := ((B 19) t9)) hx hb hr (fun t99 ht99 hW99 => ⟨⟨_, (w, ((B 19) t9)), rfl, ⟨rfl, hO⟩, by rw [ht99]; exact hP, hD⟩, hS.F ht99⟩) hS.2.2 dX1_heldAt_22
theorem dX1_right_0 : decode cX1_right 0 = .ok (.iload_n 1, 1) := by decide +kernel
theorem dX1_right_1 : decode cX1_right 1 = .ok (.ifCond .lt 20, 3) := by decide +kernel
theorem dX1_right_21 : decode cX1_right 21 = .ok (.iconst 0, 1) := by decide +kernel
theorem dX1_right_22 : decode cX1_right 22 = .ok (.ireturn, 1) := by decide +kernel
theorem dX1_right_4 : decode cX1_right 4 = .ok (.iload_n 1, 1) := by decide +kernel
theorem dX1_right_5 : decode cX1_right 5 = .ok (.aload_n 0, 1) := by decide +kernel
theorem dX1_right_6 : decode cX1_right 6 = .ok (.getfield 39, 3) := by decide +kernel
theorem dX1_right_9 : decode cX1_right 9 = .ok (.if_icmp .ge 12, 3) := by decide +kernel
theorem dX1_right_12 : decode cX1_right 12 = .ok (.aload_n 0, 1) := by decide +kernel
theorem dX1_right_13 : decode cX1_right 13 = .ok (.getfield 18, 3) := by decide +kernel
theorem dX1_right_16 : decode cX1_right 16 = .ok (.iload_n 1, 1) := by decide +kernel
theorem dX1_right_17 : decode cX1_right 17 = .ok (.iaload, 1) := by decide +kernel
theorem dX1_right_18 : decode cX1_right 18 = .ok (.goto 4, 3) := by decide +kernel
set_option maxHeartbeats 2000000 in
set_option maxRecDepth 100000 in
theorem K_right (l : Launch) (G : pT) (h0 : Nat) (a : Nat → Nat) (F : Nat → Int32) (R : Nat → Value) (Z : Int64) (B : Nat → Nat → Int32) (J : Nat → Nat → Int64) (T : Nat → Nat) (Pi : Nat → va_E → Prop) (w : va_W) (x : Int32) (cs : Nat) (hcs : cs ≤ 10000) (hng : Nng (B 18)) (hO : OKW G h0 a (upd F 5 (nI cs)) R Z B J T Pi w) : PM l G pX0 yX1_right cX1_right 2 (some .int) ({ frames := 2, cells := 0, slots := 0, locals := 60 }) [.ref (a 2), .int x] w (fun (v : Option Value) (u : va_W × (Nat)) => v = some (.int (nI u.2)) ∧ (u.2 ≤ 6000) ∧ (OKW G h0 a (upd F 5 (nI cs)) R Z B J T Pi u.1)) (fun u => u.1) := by
  intro sz
  refine Met.ofW (cc := cX1_right) (maxL := 2) (ret := (some .int)) (by decide) rfl ?_
  intro p e s m args below meth c s₁ B9 hml hv
  obtain ⟨rfl, hsz, hP, hD0, hE, hX⟩ := hv
  have hx := B9.exec
  have hb := B9.bytes
  have hr := B9.returns
  have hts := atoms_spec (ws := Cond.code yX1_right cX1_right 2 (some .int) :: pw) B9.pre
  have hq : ∀ w ∈ pw, w.before _ s = true := fun w h => hts w (List.mem_cons_of_mem _ h)
  have hown : s.vm.findClass RX1 = some m.cls := findClass_of_methodNamed B9.named
  have hlocks := B9.notSynchronized
  subst hsz
  have hD := hD0.self (sz := s.heap.size)
  have hA : ∀ q : Nat, s.heap.size ≤ q → va_A w s.heap.size q := fun q h => Or.inr h
  generalize va_A w s.heap.size = A at hD hE hA ⊢
  have hS : va_S A s.heap s.heap [] := va_S.rf
  have hl := lv_entry ([.ref (a 2), .int x]) (n := 2) (Nat.le_of_ble_eq_true rfl)
  rw [lg_entry_eq]
  generalize (lg_sl ([.ref (a 2), .int x]) ++ List.replicate (2 - (lg_sl ([.ref (a 2), .int x])).length) Slot.unset).toArray = ls at hl ⊢
  have hl : lv_has ls 2 [(0, .ref (a 2)), (1, .int x)] := hl
  refine lv_iload_n hx hb dX1_right_0 rfl (lv_at hl 1 rfl) ?_
  refine lv_if_lt (tgt := 21) hx hb dX1_right_1 (by decide) (fun c1 => ?_) (fun c1 => ?_)
  · refine lv_iconst (v := 0) hx hb dX1_right_21 (by decide) ?_
    have hz2 : 0 ≤ 6000 := (by omega)
    have hO : OKW G h0 a (upd F 5 (nI cs)) R Z B J T Pi w := hO.to rfl
    exact W.iret (v := 0) hx hb hr (fun t99 ht99 hW99 => ⟨⟨_, (w, 0), rfl, ⟨rfl, hz2, hO⟩, by rw [ht99]; exact hP, hD⟩, hS.F ht99⟩) hS.2.2 dX1_right_22
  · obtain ⟨t9, ht_t9, hb_t9⟩ := nI_nn2 c1
    rw [ht_t9] at hl
    refine lv_iload_n hx hb dX1_right_4 rfl (lv_at hl 1 rfl) ?_
    refine lv_aload_n hx hb dX1_right_5 rfl (lv_at hl 0 rfl) ?_
    refine c_get (v := .int (nI cs)) (C := RX1) (Tc := TX1) (N := 13) (ci := 1) hx hb hq pin_wsX10 hown hE hP hO 13 (sg_13 G h0 a _ _ _ _ _) rfl 4 (by decide) (hq _ pw_11) (fun _ h9 => h9) rfl dX1_right_6 ?_
    refine lv_icmp_ge (tgt := 21) hx hb dX1_right_9 (by decide) (fun c3 => ?_) (fun c3 => ?_)
    · have n4 : cs ≤ t9 := (nI_leI (a := cs) (b := t9) (by omega) (by omega)).mp c3
      refine lv_iconst (v := 0) hx hb dX1_right_21 (by decide) ?_
      have hz5 : 0 ≤ 6000 := (by omega)
      have hO : OKW G h0 a (upd F 5 (nI cs)) R Z B J T Pi w := hO.to rfl
      exact W.iret (v := 0) hx hb hr (fun t99 ht99 hW99 => ⟨⟨_, (w, 0), rfl, ⟨rfl, hz5, hO⟩, by rw [ht99]; exact hP, hD⟩, hS.F ht99⟩) hS.2.2 dX1_right_22
    · have n6 : ¬ (cs ≤ t9) := fun h9 => c3 ((nI_leI (a := cs) (b := t9) (by omega) (by omega)).mpr h9)
      refine lv_aload_n hx hb dX1_right_12 rfl (lv_at hl 0 rfl) ?_
      refine c_get (v := .ref (a 18)) (C := RX1) (Tc := TX1) (N := 13) (ci := 1) hx hb hq pin_wsX10 hown hE hP hO 13 (sg_13 G h0 a _ _ _ _ _) rfl 2 (by decide) (hq _ pw_118) (fun _ h9 => h9) rfl dX1_right_13 ?_
      refine lv_iload_n hx hb dX1_right_16 rfl (lv_at hl 1 rfl) ?_
      refine c_ldi (f := (B 18)) (n := 10000) (t0 := 0) hx hb hE hP hO 16 (sg_16 G h0 a _ _ _ _ _) rfl (vp_in_nI (by omega) (by decide)) dX1_right_17 ?_
      rw [(nI_clamp (show t9 < 2 ^ 31 by omega))]
      obtain ⟨k9, hk9, hl9⟩ := hng t9 (by omega)
      refine lv_topi (fun x7 e8 => ?_)
      obtain rfl : x7 = nI k9 := e8.trans hk9
      refine lv_goto (tgt := 22) hx hb dX1_right_18 (by decide) ?_
      have hz9 : k9 ≤ 6000 := (by omega)
      have hO : OKW G h0 a (upd F 5 (nI cs)) R Z B J T Pi w := hO.to rfl
      exact W.iret (v := (nI k9)) hx hb hr (fun t99 ht99 hW99 => ⟨⟨_, (w, k9), rfl, ⟨rfl, hz9, hO⟩, by rw [ht99]; exact hP, hD⟩, hS.F ht99⟩) hS.2.2 dX1_right_22
theorem dX1_caught_0 : decode cX1_caught 0 = .ok (.iload_n 1, 1) := by decide +kernel
theorem dX1_caught_1 : decode cX1_caught 1 = .ok (.ifCond .lt 20, 3) := by decide +kernel
theorem dX1_caught_21 : decode cX1_caught 21 = .ok (.iconst (-1), 1) := by decide +kernel
theorem dX1_caught_22 : decode cX1_caught 22 = .ok (.ireturn, 1) := by decide +kernel
theorem dX1_caught_4 : decode cX1_caught 4 = .ok (.iload_n 1, 1) := by decide +kernel
theorem dX1_caught_5 : decode cX1_caught 5 = .ok (.aload_n 0, 1) := by decide +kernel
theorem dX1_caught_6 : decode cX1_caught 6 = .ok (.getfield 43, 3) := by decide +kernel
theorem dX1_caught_9 : decode cX1_caught 9 = .ok (.if_icmp .ge 12, 3) := by decide +kernel
theorem dX1_caught_12 : decode cX1_caught 12 = .ok (.aload_n 0, 1) := by decide +kernel
theorem dX1_caught_13 : decode cX1_caught 13 = .ok (.getfield 33, 3) := by decide +kernel
theorem dX1_caught_16 : decode cX1_caught 16 = .ok (.iload_n 1, 1) := by decide +kernel
theorem dX1_caught_17 : decode cX1_caught 17 = .ok (.iaload, 1) := by decide +kernel
theorem dX1_caught_18 : decode cX1_caught 18 = .ok (.goto 4, 3) := by decide +kernel
set_option maxHeartbeats 2000000 in
set_option maxRecDepth 100000 in
theorem K_caught (l : Launch) (G : pT) (h0 : Nat) (a : Nat → Nat) (F : Nat → Int32) (R : Nat → Value) (Z : Int64) (B : Nat → Nat → Int32) (J : Nat → Nat → Int64) (T : Nat → Nat) (Pi : Nat → va_E → Prop) (w : va_W) (x : Int32) (rg : Nat) (hrg : rg ≤ 625) (hO : OKW G h0 a (upd F 6 (nI rg)) R Z B J T Pi w) : PM l G pX0 yX1_caught cX1_caught 2 (some .int) ({ frames := 2, cells := 0, slots := 0, locals := 60 }) [.ref (a 2), .int x] w (fun (v : Option Value) (u : va_W × (Int32)) => v = some (.int u.2) ∧ (OKW G h0 a (upd F 6 (nI rg)) R Z B J T Pi u.1)) (fun u => u.1) := by
  intro sz
  refine Met.ofW (cc := cX1_caught) (maxL := 2) (ret := (some .int)) (by decide) rfl ?_
  intro p e s m args below meth c s₁ B9 hml hv
  obtain ⟨rfl, hsz, hP, hD0, hE, hX⟩ := hv
  have hx := B9.exec
  have hb := B9.bytes
  have hr := B9.returns
  have hts := atoms_spec (ws := Cond.code yX1_caught cX1_caught 2 (some .int) :: pw) B9.pre
  have hq : ∀ w ∈ pw, w.before _ s = true := fun w h => hts w (List.mem_cons_of_mem _ h)
  have hown : s.vm.findClass RX1 = some m.cls := findClass_of_methodNamed B9.named
  have hlocks := B9.notSynchronized
  subst hsz
  have hD := hD0.self (sz := s.heap.size)
  have hA : ∀ q : Nat, s.heap.size ≤ q → va_A w s.heap.size q := fun q h => Or.inr h
  generalize va_A w s.heap.size = A at hD hE hA ⊢
  have hS : va_S A s.heap s.heap [] := va_S.rf
  have hl := lv_entry ([.ref (a 2), .int x]) (n := 2) (Nat.le_of_ble_eq_true rfl)
  rw [lg_entry_eq]
  generalize (lg_sl ([.ref (a 2), .int x]) ++ List.replicate (2 - (lg_sl ([.ref (a 2), .int x])).length) Slot.unset).toArray = ls at hl ⊢
  have hl : lv_has ls 2 [(0, .ref (a 2)), (1, .int x)] := hl
  refine lv_iload_n hx hb dX1_caught_0 rfl (lv_at hl 1 rfl) ?_
  refine lv_if_lt (tgt := 21) hx hb dX1_caught_1 (by decide) (fun c1 => ?_) (fun c1 => ?_)
  · refine lv_iconst (v := (-1)) hx hb dX1_caught_21 (by decide) ?_
    have hO : OKW G h0 a (upd F 6 (nI rg)) R Z B J T Pi w := hO.to rfl
    exact W.iret (v := (-1)) hx hb hr (fun t99 ht99 hW99 => ⟨⟨_, (w, ((-1) : Int32)), rfl, ⟨rfl, hO⟩, by rw [ht99]; exact hP, hD⟩, hS.F ht99⟩) hS.2.2 dX1_caught_22
  · obtain ⟨t9, ht_t9, hb_t9⟩ := nI_nn2 c1
    rw [ht_t9] at hl
    refine lv_iload_n hx hb dX1_caught_4 rfl (lv_at hl 1 rfl) ?_
    refine lv_aload_n hx hb dX1_caught_5 rfl (lv_at hl 0 rfl) ?_
    refine c_get (v := .int (nI rg)) (C := RX1) (Tc := TX1) (N := 13) (ci := 1) hx hb hq pin_wsX10 hown hE hP hO 13 (sg_13 G h0 a _ _ _ _ _) rfl 10 (by decide) (hq _ pw_12) (fun _ h9 => h9) rfl dX1_caught_6 ?_
    refine lv_icmp_ge (tgt := 21) hx hb dX1_caught_9 (by decide) (fun c2 => ?_) (fun c2 => ?_)
    · have n3 : rg ≤ t9 := (nI_leI (a := rg) (b := t9) (by omega) (by omega)).mp c2
      refine lv_iconst (v := (-1)) hx hb dX1_caught_21 (by decide) ?_
      have hO : OKW G h0 a (upd F 6 (nI rg)) R Z B J T Pi w := hO.to rfl
      exact W.iret (v := (-1)) hx hb hr (fun t99 ht99 hW99 => ⟨⟨_, (w, ((-1) : Int32)), rfl, ⟨rfl, hO⟩, by rw [ht99]; exact hP, hD⟩, hS.F ht99⟩) hS.2.2 dX1_caught_22
    · have n4 : ¬ (rg ≤ t9) := fun h9 => c2 ((nI_leI (a := rg) (b := t9) (by omega) (by omega)).mpr h9)
      refine lv_aload_n hx hb dX1_caught_12 rfl (lv_at hl 0 rfl) ?_
      refine c_get (v := .ref (a 23)) (C := RX1) (Tc := TX1) (N := 13) (ci := 1) hx hb hq pin_wsX10 hown hE hP hO 13 (sg_13 G h0 a _ _ _ _ _) rfl 8 (by decide) (hq _ pw_298) (fun _ h9 => h9) rfl dX1_caught_13 ?_
      refine lv_iload_n hx hb dX1_caught_16 rfl (lv_at hl 1 rfl) ?_
      refine c_ldi (f := (B 23)) (n := 625) (t0 := 0) hx hb hE hP hO 21 (sg_21 G h0 a _ _ _ _ _) rfl (vp_in_nI (by omega) (by decide)) dX1_caught_17 ?_
      rw [(nI_clamp (show t9 < 2 ^ 31 by omega))]
      refine lv_goto (tgt := 22) hx hb dX1_caught_18 (by decide) ?_
      have hO : OKW G h0 a (upd F 6 (nI rg)) R Z B J T Pi w := hO.to rfl
      exact W.iret (v := ((B 23) t9)) hx hb hr (fun t99 ht99 hW99 => ⟨⟨_, (w, ((B 23) t9)), rfl, ⟨rfl, hO⟩, by rw [ht99]; exact hP, hD⟩, hS.F ht99⟩) hS.2.2 dX1_caught_22
theorem dX1_handler_0 : decode cX1_handler 0 = .ok (.iload_n 1, 1) := by decide +kernel
theorem dX1_handler_1 : decode cX1_handler 1 = .ok (.ifCond .lt 20, 3) := by decide +kernel
theorem dX1_handler_21 : decode cX1_handler 21 = .ok (.iconst (-1), 1) := by decide +kernel
theorem dX1_handler_22 : decode cX1_handler 22 = .ok (.ireturn, 1) := by decide +kernel
theorem dX1_handler_4 : decode cX1_handler 4 = .ok (.iload_n 1, 1) := by decide +kernel
theorem dX1_handler_5 : decode cX1_handler 5 = .ok (.aload_n 0, 1) := by decide +kernel
theorem dX1_handler_6 : decode cX1_handler 6 = .ok (.getfield 43, 3) := by decide +kernel
theorem dX1_handler_9 : decode cX1_handler 9 = .ok (.if_icmp .ge 12, 3) := by decide +kernel
theorem dX1_handler_12 : decode cX1_handler 12 = .ok (.aload_n 0, 1) := by decide +kernel
theorem dX1_handler_13 : decode cX1_handler 13 = .ok (.getfield 30, 3) := by decide +kernel
theorem dX1_handler_16 : decode cX1_handler 16 = .ok (.iload_n 1, 1) := by decide +kernel
theorem dX1_handler_17 : decode cX1_handler 17 = .ok (.iaload, 1) := by decide +kernel
theorem dX1_handler_18 : decode cX1_handler 18 = .ok (.goto 4, 3) := by decide +kernel
set_option maxHeartbeats 2000000 in
set_option maxRecDepth 100000 in
theorem K_handler (l : Launch) (G : pT) (h0 : Nat) (a : Nat → Nat) (F : Nat → Int32) (R : Nat → Value) (Z : Int64) (B : Nat → Nat → Int32) (J : Nat → Nat → Int64) (T : Nat → Nat) (Pi : Nat → va_E → Prop) (w : va_W) (x : Int32) (rg : Nat) (hrg : rg ≤ 625) (hO : OKW G h0 a (upd F 6 (nI rg)) R Z B J T Pi w) : PM l G pX0 yX1_handler cX1_handler 2 (some .int) ({ frames := 2, cells := 0, slots := 0, locals := 60 }) [.ref (a 2), .int x] w (fun (v : Option Value) (u : va_W × (Int32)) => v = some (.int u.2) ∧ (OKW G h0 a (upd F 6 (nI rg)) R Z B J T Pi u.1)) (fun u => u.1) := by
  intro sz
  refine Met.ofW (cc := cX1_handler) (maxL := 2) (ret := (some .int)) (by decide) rfl ?_
  intro p e s m args below meth c s₁ B9 hml hv
  obtain ⟨rfl, hsz, hP, hD0, hE, hX⟩ := hv
  have hx := B9.exec
  have hb := B9.bytes
  have hr := B9.returns
  have hts := atoms_spec (ws := Cond.code yX1_handler cX1_handler 2 (some .int) :: pw) B9.pre
  have hq : ∀ w ∈ pw, w.before _ s = true := fun w h => hts w (List.mem_cons_of_mem _ h)
  have hown : s.vm.findClass RX1 = some m.cls := findClass_of_methodNamed B9.named
  have hlocks := B9.notSynchronized
  subst hsz
  have hD := hD0.self (sz := s.heap.size)
  have hA : ∀ q : Nat, s.heap.size ≤ q → va_A w s.heap.size q := fun q h => Or.inr h
  generalize va_A w s.heap.size = A at hD hE hA ⊢
  have hS : va_S A s.heap s.heap [] := va_S.rf
  have hl := lv_entry ([.ref (a 2), .int x]) (n := 2) (Nat.le_of_ble_eq_true rfl)
  rw [lg_entry_eq]
  generalize (lg_sl ([.ref (a 2), .int x]) ++ List.replicate (2 - (lg_sl ([.ref (a 2), .int x])).length) Slot.unset).toArray = ls at hl ⊢
  have hl : lv_has ls 2 [(0, .ref (a 2)), (1, .int x)] := hl
  refine lv_iload_n hx hb dX1_handler_0 rfl (lv_at hl 1 rfl) ?_
  refine lv_if_lt (tgt := 21) hx hb dX1_handler_1 (by decide) (fun c1 => ?_) (fun c1 => ?_)
  · refine lv_iconst (v := (-1)) hx hb dX1_handler_21 (by decide) ?_
    have hO : OKW G h0 a (upd F 6 (nI rg)) R Z B J T Pi w := hO.to rfl
    exact W.iret (v := (-1)) hx hb hr (fun t99 ht99 hW99 => ⟨⟨_, (w, ((-1) : Int32)), rfl, ⟨rfl, hO⟩, by rw [ht99]; exact hP, hD⟩, hS.F ht99⟩) hS.2.2 dX1_handler_22
  · obtain ⟨t9, ht_t9, hb_t9⟩ := nI_nn2 c1
    rw [ht_t9] at hl
    refine lv_iload_n hx hb dX1_handler_4 rfl (lv_at hl 1 rfl) ?_
    refine lv_aload_n hx hb dX1_handler_5 rfl (lv_at hl 0 rfl) ?_
    refine c_get (v := .int (nI rg)) (C := RX1) (Tc := TX1) (N := 13) (ci := 1) hx hb hq pin_wsX10 hown hE hP hO 13 (sg_13 G h0 a _ _ _ _ _) rfl 10 (by decide) (hq _ pw_12) (fun _ h9 => h9) rfl dX1_handler_6 ?_
    refine lv_icmp_ge (tgt := 21) hx hb dX1_handler_9 (by decide) (fun c2 => ?_) (fun c2 => ?_)
    · have n3 : rg ≤ t9 := (nI_leI (a := rg) (b := t9) (by omega) (by omega)).mp c2
      refine lv_iconst (v := (-1)) hx hb dX1_handler_21 (by decide) ?_
      have hO : OKW G h0 a (upd F 6 (nI rg)) R Z B J T Pi w := hO.to rfl
      exact W.iret (v := (-1)) hx hb hr (fun t99 ht99 hW99 => ⟨⟨_, (w, ((-1) : Int32)), rfl, ⟨rfl, hO⟩, by rw [ht99]; exact hP, hD⟩, hS.F ht99⟩) hS.2.2 dX1_handler_22
    · have n4 : ¬ (rg ≤ t9) := fun h9 => c2 ((nI_leI (a := rg) (b := t9) (by omega) (by omega)).mpr h9)
      refine lv_aload_n hx hb dX1_handler_12 rfl (lv_at hl 0 rfl) ?_
      refine c_get (v := .ref (a 22)) (C := RX1) (Tc := TX1) (N := 13) (ci := 1) hx hb hq pin_wsX10 hown hE hP hO 13 (sg_13 G h0 a _ _ _ _ _) rfl 7 (by decide) (hq _ pw_297) (fun _ h9 => h9) rfl dX1_handler_13 ?_
      refine lv_iload_n hx hb dX1_handler_16 rfl (lv_at hl 1 rfl) ?_
      refine c_ldi (f := (B 22)) (n := 625) (t0 := 0) hx hb hE hP hO 20 (sg_20 G h0 a _ _ _ _ _) rfl (vp_in_nI (by omega) (by decide)) dX1_handler_17 ?_
      rw [(nI_clamp (show t9 < 2 ^ 31 by omega))]
      refine lv_goto (tgt := 22) hx hb dX1_handler_18 (by decide) ?_
      have hO : OKW G h0 a (upd F 6 (nI rg)) R Z B J T Pi w := hO.to rfl
      exact W.iret (v := ((B 22) t9)) hx hb hr (fun t99 ht99 hW99 => ⟨⟨_, (w, ((B 22) t9)), rfl, ⟨rfl, hO⟩, by rw [ht99]; exact hP, hD⟩, hS.F ht99⟩) hS.2.2 dX1_handler_22
theorem dX1_slot_0 : decode cX1_slot 0 = .ok (.iload_n 1, 1) := by decide +kernel
theorem dX1_slot_1 : decode cX1_slot 1 = .ok (.ifCond .lt 20, 3) := by decide +kernel
theorem dX1_slot_21 : decode cX1_slot 21 = .ok (.iconst 0, 1) := by decide +kernel
theorem dX1_slot_22 : decode cX1_slot 22 = .ok (.ireturn, 1) := by decide +kernel
theorem dX1_slot_4 : decode cX1_slot 4 = .ok (.iload_n 1, 1) := by decide +kernel
theorem dX1_slot_5 : decode cX1_slot 5 = .ok (.aload_n 0, 1) := by decide +kernel
theorem dX1_slot_6 : decode cX1_slot 6 = .ok (.getfield 43, 3) := by decide +kernel
theorem dX1_slot_9 : decode cX1_slot 9 = .ok (.if_icmp .ge 12, 3) := by decide +kernel
theorem dX1_slot_12 : decode cX1_slot 12 = .ok (.aload_n 0, 1) := by decide +kernel
theorem dX1_slot_13 : decode cX1_slot 13 = .ok (.getfield 36, 3) := by decide +kernel
theorem dX1_slot_16 : decode cX1_slot 16 = .ok (.iload_n 1, 1) := by decide +kernel
theorem dX1_slot_17 : decode cX1_slot 17 = .ok (.iaload, 1) := by decide +kernel
theorem dX1_slot_18 : decode cX1_slot 18 = .ok (.goto 4, 3) := by decide +kernel
set_option maxHeartbeats 2000000 in
set_option maxRecDepth 100000 in
theorem K_slot (l : Launch) (G : pT) (h0 : Nat) (a : Nat → Nat) (F : Nat → Int32) (R : Nat → Value) (Z : Int64) (B : Nat → Nat → Int32) (J : Nat → Nat → Int64) (T : Nat → Nat) (Pi : Nat → va_E → Prop) (w : va_W) (x : Int32) (rg : Nat) (hrg : rg ≤ 625) (hO : OKW G h0 a (upd F 6 (nI rg)) R Z B J T Pi w) : PM l G pX0 yX1_slot cX1_slot 2 (some .int) ({ frames := 2, cells := 0, slots := 0, locals := 60 }) [.ref (a 2), .int x] w (fun (v : Option Value) (u : va_W × (Int32)) => v = some (.int u.2) ∧ (OKW G h0 a (upd F 6 (nI rg)) R Z B J T Pi u.1)) (fun u => u.1) := by
  intro sz
  refine Met.ofW (cc := cX1_slot) (maxL := 2) (ret := (some .int)) (by decide) rfl ?_
  intro p e s m args below meth c s₁ B9 hml hv
  obtain ⟨rfl, hsz, hP, hD0, hE, hX⟩ := hv
  have hx := B9.exec
  have hb := B9.bytes
  have hr := B9.returns
  have hts := atoms_spec (ws := Cond.code yX1_slot cX1_slot 2 (some .int) :: pw) B9.pre
  have hq : ∀ w ∈ pw, w.before _ s = true := fun w h => hts w (List.mem_cons_of_mem _ h)
  have hown : s.vm.findClass RX1 = some m.cls := findClass_of_methodNamed B9.named
  have hlocks := B9.notSynchronized
  subst hsz
  have hD := hD0.self (sz := s.heap.size)
  have hA : ∀ q : Nat, s.heap.size ≤ q → va_A w s.heap.size q := fun q h => Or.inr h
  generalize va_A w s.heap.size = A at hD hE hA ⊢
  have hS : va_S A s.heap s.heap [] := va_S.rf
  have hl := lv_entry ([.ref (a 2), .int x]) (n := 2) (Nat.le_of_ble_eq_true rfl)
  rw [lg_entry_eq]
  generalize (lg_sl ([.ref (a 2), .int x]) ++ List.replicate (2 - (lg_sl ([.ref (a 2), .int x])).length) Slot.unset).toArray = ls at hl ⊢
  have hl : lv_has ls 2 [(0, .ref (a 2)), (1, .int x)] := hl
  refine lv_iload_n hx hb dX1_slot_0 rfl (lv_at hl 1 rfl) ?_
  refine lv_if_lt (tgt := 21) hx hb dX1_slot_1 (by decide) (fun c1 => ?_) (fun c1 => ?_)
  · refine lv_iconst (v := 0) hx hb dX1_slot_21 (by decide) ?_
    have hO : OKW G h0 a (upd F 6 (nI rg)) R Z B J T Pi w := hO.to rfl
    exact W.iret (v := 0) hx hb hr (fun t99 ht99 hW99 => ⟨⟨_, (w, (0 : Int32)), rfl, ⟨rfl, hO⟩, by rw [ht99]; exact hP, hD⟩, hS.F ht99⟩) hS.2.2 dX1_slot_22
  · obtain ⟨t9, ht_t9, hb_t9⟩ := nI_nn2 c1
    rw [ht_t9] at hl
    refine lv_iload_n hx hb dX1_slot_4 rfl (lv_at hl 1 rfl) ?_
    refine lv_aload_n hx hb dX1_slot_5 rfl (lv_at hl 0 rfl) ?_
    refine c_get (v := .int (nI rg)) (C := RX1) (Tc := TX1) (N := 13) (ci := 1) hx hb hq pin_wsX10 hown hE hP hO 13 (sg_13 G h0 a _ _ _ _ _) rfl 10 (by decide) (hq _ pw_12) (fun _ h9 => h9) rfl dX1_slot_6 ?_
    refine lv_icmp_ge (tgt := 21) hx hb dX1_slot_9 (by decide) (fun c2 => ?_) (fun c2 => ?_)
    · have n3 : rg ≤ t9 := (nI_leI (a := rg) (b := t9) (by omega) (by omega)).mp c2
      refine lv_iconst (v := 0) hx hb dX1_slot_21 (by decide) ?_
      have hO : OKW G h0 a (upd F 6 (nI rg)) R Z B J T Pi w := hO.to rfl
      exact W.iret (v := 0) hx hb hr (fun t99 ht99 hW99 => ⟨⟨_, (w, (0 : Int32)), rfl, ⟨rfl, hO⟩, by rw [ht99]; exact hP, hD⟩, hS.F ht99⟩) hS.2.2 dX1_slot_22
    · have n4 : ¬ (rg ≤ t9) := fun h9 => c2 ((nI_leI (a := rg) (b := t9) (by omega) (by omega)).mpr h9)
      refine lv_aload_n hx hb dX1_slot_12 rfl (lv_at hl 0 rfl) ?_
      refine c_get (v := .ref (a 24)) (C := RX1) (Tc := TX1) (N := 13) (ci := 1) hx hb hq pin_wsX10 hown hE hP hO 13 (sg_13 G h0 a _ _ _ _ _) rfl 9 (by decide) (hq _ pw_299) (fun _ h9 => h9) rfl dX1_slot_13 ?_
      refine lv_iload_n hx hb dX1_slot_16 rfl (lv_at hl 1 rfl) ?_
      refine c_ldi (f := (B 24)) (n := 625) (t0 := 0) hx hb hE hP hO 22 (sg_22 G h0 a _ _ _ _ _) rfl (vp_in_nI (by omega) (by decide)) dX1_slot_17 ?_
      rw [(nI_clamp (show t9 < 2 ^ 31 by omega))]
      refine lv_goto (tgt := 22) hx hb dX1_slot_18 (by decide) ?_
      have hO : OKW G h0 a (upd F 6 (nI rg)) R Z B J T Pi w := hO.to rfl
      exact W.iret (v := ((B 24) t9)) hx hb hr (fun t99 ht99 hW99 => ⟨⟨_, (w, ((B 24) t9)), rfl, ⟨rfl, hO⟩, by rw [ht99]; exact hP, hD⟩, hS.F ht99⟩) hS.2.2 dX1_slot_22
theorem dX1_isWithin_0 : decode cX1_isWithin 0 = .ok (.iload_n 1, 1) := by decide +kernel
theorem dX1_isWithin_1 : decode cX1_isWithin 1 = .ok (.ifCond .lt 35, 3) := by decide +kernel
theorem dX1_isWithin_36 : decode cX1_isWithin 36 = .ok (.iconst 0, 1) := by decide +kernel
theorem dX1_isWithin_37 : decode cX1_isWithin 37 = .ok (.ireturn, 1) := by decide +kernel
theorem dX1_isWithin_4 : decode cX1_isWithin 4 = .ok (.iload_n 1, 1) := by decide +kernel
theorem dX1_isWithin_5 : decode cX1_isWithin 5 = .ok (.aload_n 0, 1) := by decide +kernel
theorem dX1_isWithin_6 : decode cX1_isWithin 6 = .ok (.getfield 43, 3) := by decide +kernel
theorem dX1_isWithin_9 : decode cX1_isWithin 9 = .ok (.if_icmp .ge 27, 3) := by decide +kernel
theorem dX1_isWithin_12 : decode cX1_isWithin 12 = .ok (.iload_n 2, 1) := by decide +kernel
theorem dX1_isWithin_13 : decode cX1_isWithin 13 = .ok (.aload_n 0, 1) := by decide +kernel
theorem dX1_isWithin_14 : decode cX1_isWithin 14 = .ok (.getfield 24, 3) := by decide +kernel
theorem dX1_isWithin_17 : decode cX1_isWithin 17 = .ok (.iload_n 1, 1) := by decide +kernel
theorem dX1_isWithin_18 : decode cX1_isWithin 18 = .ok (.iaload, 1) := by decide +kernel
theorem dX1_isWithin_19 : decode cX1_isWithin 19 = .ok (.if_icmp .lt 17, 3) := by decide +kernel
theorem dX1_isWithin_22 : decode cX1_isWithin 22 = .ok (.iload_n 2, 1) := by decide +kernel
theorem dX1_isWithin_23 : decode cX1_isWithin 23 = .ok (.aload_n 0, 1) := by decide +kernel
theorem dX1_isWithin_24 : decode cX1_isWithin 24 = .ok (.getfield 27, 3) := by decide +kernel
theorem dX1_isWithin_27 : decode cX1_isWithin 27 = .ok (.iload_n 1, 1) := by decide +kernel
theorem dX1_isWithin_28 : decode cX1_isWithin 28 = .ok (.iaload, 1) := by decide +kernel
theorem dX1_isWithin_29 : decode cX1_isWithin 29 = .ok (.if_icmp .ge 7, 3) := by decide +kernel
theorem dX1_isWithin_32 : decode cX1_isWithin 32 = .ok (.iconst 1, 1) := by decide +kernel
theorem dX1_isWithin_33 : decode cX1_isWithin 33 = .ok (.goto 4, 3) := by decide +kernel
set_option maxHeartbeats 2000000 in
set_option maxRecDepth 100000 in
theorem K_isWithin (l : Launch) (G : pT) (h0 : Nat) (a : Nat → Nat) (F : Nat → Int32) (R : Nat → Value) (Z : Int64) (B : Nat → Nat → Int32) (J : Nat → Nat → Int64) (T : Nat → Nat) (Pi : Nat → va_E → Prop) (w : va_W) (x : Int32) (y : Int32) (rg : Nat) (hrg : rg ≤ 625) (hO : OKW G h0 a (upd F 6 (nI rg)) R Z B J T Pi w) : PM l G pX0 yX1_isWithin cX1_isWithin 3 (some .boolean) ({ frames := 2, cells := 0, slots := 0, locals := 60 }) [.ref (a 2), .int x, .int y] w (fun (v : Option Value) (u : va_W × (Nat)) => v = some (.int (nI u.2)) ∧ (u.2 ≤ 1) ∧ (OKW G h0 a (upd F 6 (nI rg)) R Z B J T Pi u.1)) (fun u => u.1) := by
  intro sz
  refine Met.ofW (cc := cX1_isWithin) (maxL := 3) (ret := (some .boolean)) (by decide) rfl ?_
  intro p e s m args below meth c s₁ B9 hml hv
  obtain ⟨rfl, hsz, hP, hD0, hE, hX⟩ := hv
  have hx := B9.exec
  have hb := B9.bytes
  have hr := B9.returns
  have hts := atoms_spec (ws := Cond.code yX1_isWithin cX1_isWithin 3 (some .boolean) :: pw) B9.pre
  have hq : ∀ w ∈ pw, w.before _ s = true := fun w h => hts w (List.mem_cons_of_mem _ h)
  have hown : s.vm.findClass RX1 = some m.cls := findClass_of_methodNamed B9.named
  have hlocks := B9.notSynchronized
  subst hsz
  have hD := hD0.self (sz := s.heap.size)
  have hA : ∀ q : Nat, s.heap.size ≤ q → va_A w s.heap.size q := fun q h => Or.inr h
  generalize va_A w s.heap.size = A at hD hE hA ⊢
  have hS : va_S A s.heap s.heap [] := va_S.rf
  have hl := lv_entry ([.ref (a 2), .int x, .int y]) (n := 3) (Nat.le_of_ble_eq_true rfl)
  rw [lg_entry_eq]
  generalize (lg_sl ([.ref (a 2), .int x, .int y]) ++ List.replicate (3 - (lg_sl ([.ref (a 2), .int x, .int y])).length) Slot.unset).toArray = ls at hl ⊢
  have hl : lv_has ls 3 [(0, .ref (a 2)), (1, .int x), (2, .int y)] := hl
  refine lv_iload_n hx hb dX1_isWithin_0 rfl (lv_at hl 1 rfl) ?_
  refine lv_if_lt (tgt := 36) hx hb dX1_isWithin_1 (by decide) (fun c1 => ?_) (fun c1 => ?_)
  · refine lv_iconst (v := 0) hx hb dX1_isWithin_36 (by decide) ?_
    have hz2 : 0 ≤ 1 := (by omega)
    have hO : OKW G h0 a (upd F 6 (nI rg)) R Z B J T Pi w := hO.to rfl
    exact W.zret (v := 0) hx hb hr rfl (fun t99 ht99 hW99 => ⟨⟨_, (w, 0), rfl, ⟨rfl, hz2, hO⟩, by rw [ht99]; exact hP, hD⟩, hS.F ht99⟩) hS.2.2 dX1_isWithin_37
  · obtain ⟨t9, ht_t9, hb_t9⟩ := nI_nn2 c1
    rw [ht_t9] at hl
    refine lv_iload_n hx hb dX1_isWithin_4 rfl (lv_at hl 1 rfl) ?_
    refine lv_aload_n hx hb dX1_isWithin_5 rfl (lv_at hl 0 rfl) ?_
    refine c_get (v := .int (nI rg)) (C := RX1) (Tc := TX1) (N := 13) (ci := 1) hx hb hq pin_wsX10 hown hE hP hO 13 (sg_13 G h0 a _ _ _ _ _) rfl 10 (by decide) (hq _ pw_12) (fun _ h9 => h9) rfl dX1_isWithin_6 ?_
    refine lv_icmp_ge (tgt := 36) hx hb dX1_isWithin_9 (by decide) (fun c3 => ?_) (fun c3 => ?_)
    · have n4 : rg ≤ t9 := (nI_leI (a := rg) (b := t9) (by omega) (by omega)).mp c3
      refine lv_iconst (v := 0) hx hb dX1_isWithin_36 (by decide) ?_
      have hz5 : 0 ≤ 1 := (by omega)
      have hO : OKW G h0 a (upd F 6 (nI rg)) R Z B J T Pi w := hO.to rfl
      exact W.zret (v := 0) hx hb hr rfl (fun t99 ht99 hW99 => ⟨⟨_, (w, 0), rfl, ⟨rfl, hz5, hO⟩, by rw [ht99]; exact hP, hD⟩, hS.F ht99⟩) hS.2.2 dX1_isWithin_37
    · have n6 : ¬ (rg ≤ t9) := fun h9 => c3 ((nI_leI (a := rg) (b := t9) (by omega) (by omega)).mpr h9)
      refine lv_iload_n hx hb dX1_isWithin_12 rfl (lv_at hl 2 rfl) ?_
      refine lv_aload_n hx hb dX1_isWithin_13 rfl (lv_at hl 0 rfl) ?_
      refine c_get (v := .ref (a 20)) (C := RX1) (Tc := TX1) (N := 13) (ci := 1) hx hb hq pin_wsX10 hown hE hP hO 13 (sg_13 G h0 a _ _ _ _ _) rfl 5 (by decide) (hq _ pw_295) (fun _ h9 => h9) rfl dX1_isWithin_14 ?_
      refine lv_iload_n hx hb dX1_isWithin_17 rfl (lv_at hl 1 rfl) ?_
      refine c_ldi (f := (B 20)) (n := 625) (t0 := 0) hx hb hE hP hO 18 (sg_18 G h0 a _ _ _ _ _) rfl (vp_in_nI (by omega) (by decide)) dX1_isWithin_18 ?_
      rw [(nI_clamp (show t9 < 2 ^ 31 by omega))]
      refine lv_topi (fun x7 e8 => ?_)
      refine lv_icmp_lt (tgt := 36) hx hb dX1_isWithin_19 (by decide) (fun c9 => ?_) (fun c9 => ?_)
      · refine lv_iconst (v := 0) hx hb dX1_isWithin_36 (by decide) ?_
        have hz10 : 0 ≤ 1 := (by omega)
        have hO : OKW G h0 a (upd F 6 (nI rg)) R Z B J T Pi w := hO.to rfl
        exact W.zret (v := 0) hx hb hr rfl (fun t99 ht99 hW99 => ⟨⟨_, (w, 0), rfl, ⟨rfl, hz10, hO⟩, by rw [ht99]; exact hP, hD⟩, hS.F ht99⟩) hS.2.2 dX1_isWithin_37
      · refine lv_iload_n hx hb dX1_isWithin_22 rfl (lv_at hl 2 rfl) ?_
        refine lv_aload_n hx hb dX1_isWithin_23 rfl (lv_at hl 0 rfl) ?_
        refine c_get (v := .ref (a 21)) (C := RX1) (Tc := TX1) (N := 13) (ci := 1) hx hb hq pin_wsX10 hown hE hP hO 13 (sg_13 G h0 a _ _ _ _ _) rfl 6 (by decide) (hq _ pw_296) (fun _ h9 => h9) rfl dX1_isWithin_24 ?_
        refine lv_iload_n hx hb dX1_isWithin_27 rfl (lv_at hl 1 rfl) ?_
        refine c_ldi (f := (B 21)) (n := 625) (t0 := 0) hx hb hE hP hO 19 (sg_19 G h0 a _ _ _ _ _) rfl (vp_in_nI (by omega) (by decide)) dX1_isWithin_28 ?_
        rw [(nI_clamp (show t9 < 2 ^ 31 by omega))]
        refine lv_topi (fun x11 e12 => ?_)
        refine lv_icmp_ge (tgt := 36) hx hb dX1_isWithin_29 (by decide) (fun c13 => ?_) (fun c13 => ?_)
        · refine lv_iconst (v := 0) hx hb dX1_isWithin_36 (by decide) ?_
          have hz14 : 0 ≤ 1 := (by omega)
          have hO : OKW G h0 a (upd F 6 (nI rg)) R Z B J T Pi w := hO.to rfl
          exact W.zret (v := 0) hx hb hr rfl (fun t99 ht99 hW99 => ⟨⟨_, (w, 0), rfl, ⟨rfl, hz14, hO⟩, by rw [ht99]; exact hP, hD⟩, hS.F ht99⟩) hS.2.2 dX1_isWithin_37
        · refine lv_iconst (v := 1) hx hb dX1_isWithin_32 (by decide) ?_
          refine lv_goto (tgt := 37) hx hb dX1_isWithin_33 (by decide) ?_
          have hz15 : 1 ≤ 1 := (by omega)
          have hO : OKW G h0 a (upd F 6 (nI rg)) R Z B J T Pi w := hO.to rfl
          exact W.zret (v := 1) hx hb hr rfl (fun t99 ht99 hW99 => ⟨⟨_, (w, 1), rfl, ⟨rfl, hz15, hO⟩, by rw [ht99]; exact hP, hD⟩, hS.F ht99⟩) hS.2.2 dX1_isWithin_37

theorem dX10_pastBlanks_0 : decode cX10_pastBlanks 0 = .ok (.iconst 0, 1) := by decide +kernel
theorem dX10_pastBlanks_1 : decode cX10_pastBlanks 1 = .ok (.istore_n 2, 1) := by decide +kernel
theorem dX10_pastBlanks_2 : decode cX10_pastBlanks 2 = .ok (.iload_n 1, 1) := by decide +kernel
theorem dX10_pastBlanks_3 : decode cX10_pastBlanks 3 = .ok (.istore_n 3, 1) := by decide +kernel
theorem dX10_pastBlanks_4 : decode cX10_pastBlanks 4 = .ok (.iload_n 3, 1) := by decide +kernel
theorem dX10_pastBlanks_5 : decode cX10_pastBlanks 5 = .ok (.aload_n 0, 1) := by decide +kernel
theorem dX10_pastBlanks_6 : decode cX10_pastBlanks 6 = .ok (.getfield 76, 3) := by decide +kernel
theorem dX10_pastBlanks_9 : decode cX10_pastBlanks 9 = .ok (.if_icmp .ge 90, 3) := by decide +kernel
theorem dX10_pastBlanks_99 : decode cX10_pastBlanks 99 = .ok (.aload_n 0, 1) := by decide +kernel
theorem dX10_pastBlanks_100 : decode cX10_pastBlanks 100 = .ok (.getfield 76, 3) := by decide +kernel
theorem dX10_pastBlanks_103 : decode cX10_pastBlanks 103 = .ok (.ireturn, 1) := by decide +kernel
set_option maxHeartbeats 1000000 in
set_option maxRecDepth 100000 in
/-- pastBlanks(0) of an empty text: 0 -/
theorem c_pastBlanks (l : Launch) (G : pT) (k2 : Nat) (t1 : Nat) (t2 : Nat) (t3 : Nat) (t4 : Nat) (t5 : Nat) (t6 : Nat) (t7 : Nat) (t8 : Nat) (t9 : Nat) (t10 : Nat) (nm : Int32) : PM l G pX0 yX10_pastBlanks cX10_pastBlanks 5 (some .int) ({ frames := 2, cells := 0, slots := 0, locals := 60 }) [.ref k2, .int 0] [(k2, .inr (7, [.ref t1, .int 220, .int 0, .ref t2, .ref t3, .ref t4, .ref t5, .ref t6, .int 0, .ref t7, .ref t8, .ref t9, .ref t10, .int nm, .int 0]))] (fun (v : Option Value) (u : (Nat → Nat) × (Nat → Nat → Int32) × (Nat → Nat → Int64)) => v = some (.int 0)) (fun u => []) := by
  intro sz
  refine Met.ofW (cc := cX10_pastBlanks) (maxL := 5) (ret := (some .int)) (by decide) rfl ?_
  intro p e s m args below meth c s₁ B hml hv
  obtain ⟨rfl, hsz, hP, hD0, hE, hX⟩ := hv
  have hx := B.exec
  have hb := B.bytes
  have hr := B.returns
  have hts := atoms_spec (ws := Cond.code yX10_pastBlanks cX10_pastBlanks 5 (some .int) :: pw) B.pre
  have hq : ∀ w ∈ pw, w.before _ s = true := fun w h => hts w (List.mem_cons_of_mem _ h)
  have hown : s.vm.findClass RX10 = some m.cls := findClass_of_methodNamed B.named
  have hlocks := B.notSynchronized
  subst hsz
  have hD := hD0.self (sz := s.heap.size)
  have hA : ∀ q : Nat, s.heap.size ≤ q → va_A [(k2, .inr (7, [.ref t1, .int 220, .int 0, .ref t2, .ref t3, .ref t4, .ref t5, .ref t6, .int 0, .ref t7, .ref t8, .ref t9, .ref t10, .int nm, .int 0]))] s.heap.size q := fun q h => Or.inr h
  have hP : va_P G.1 pCl [(k2, .inr (7, [.ref t1, .int 220, .int 0, .ref t2, .ref t3, .ref t4, .ref t5, .ref t6, .int 0, .ref t7, .ref t8, .ref t9, .ref t10, .int nm, .int 0]))] s.heap := hP
  generalize va_A [(k2, .inr (7, [.ref t1, .int 220, .int 0, .ref t2, .ref t3, .ref t4, .ref t5, .ref t6, .int 0, .ref t7, .ref t8, .ref t9, .ref t10, .int nm, .int 0]))] s.heap.size = A at hD hE hA ⊢
  have hS : va_S A s.heap s.heap [] := va_S.rf
  have hl := lv_entry ([.ref k2, .int 0]) (n := 5) (Nat.le_of_ble_eq_true rfl)
  rw [lg_entry_eq]
  generalize (lg_sl ([.ref k2, .int 0]) ++ List.replicate (5 - (lg_sl ([.ref k2, .int 0])).length) Slot.unset).toArray = ls at hl ⊢
  have hl : lv_has ls 5 [(0, .ref k2), (1, .int 0)] := hl
  refine lv_iconst (v := 0) hx hb dX10_pastBlanks_0 (by decide) ?_
  refine lv_istore_n (lv' := [(2, .int 0), (0, .ref k2), (1, .int 0)]) hx hb dX10_pastBlanks_1 rfl hl (by decide) rfl (fun ls hl => ?_)
  refine lv_iload_n hx hb dX10_pastBlanks_2 rfl (lv_at hl 2 rfl) ?_
  refine lv_istore_n (lv' := [(3, .int 0), (2, .int 0), (0, .ref k2), (1, .int 0)]) hx hb dX10_pastBlanks_3 rfl hl (by decide) rfl (fun ls hl => ?_)
  refine lv_iload_n hx hb dX10_pastBlanks_4 rfl (lv_at hl 0 rfl) ?_
  refine lv_aload_n hx hb dX10_pastBlanks_5 rfl (lv_at hl 2 rfl) ?_
  refine va_get (D := G.1) (ci := 7) (v := .int 0) (C := RX10) (T := TX10) (N := 15) hx hb hq pin_wsX100 hown hE.1.1 hP 0 rfl rfl 2 (by decide) (hq _ pw_68) (fun _ h9 => h9) rfl dX10_pastBlanks_6 ?_
  refine lv_icmp_ge (tgt := 99) hx hb dX10_pastBlanks_9 (by decide) (fun c1 => ?_) (fun c1 => absurd c1 (by decide))
  refine lv_aload_n hx hb dX10_pastBlanks_99 rfl (lv_at hl 2 rfl) ?_
  refine va_get (D := G.1) (ci := 7) (v := .int 0) (C := RX10) (T := TX10) (N := 15) hx hb hq pin_wsX100 hown hE.1.1 hP 0 rfl rfl 2 (by decide) (hq _ pw_68) (fun _ h9 => h9) rfl dX10_pastBlanks_100 ?_
  refine W.widen (k := 0) (n := 0) (Nat.le_of_ble_eq_true rfl) (Nat.le_of_ble_eq_true rfl) ?_
  exact W.iret (v := 0) hx hb hr (fun t ht hW => ⟨⟨_, ((fun _ => 0), (fun _ => fun _ => 0), (fun _ => fun _ => 0)), rfl, rfl, by rw [ht]; exact hP.sub [] rfl, hD.sub [] (by decide) rfl⟩, hS.F ht⟩) hS.2.2 dX10_pastBlanks_103
theorem dX10_placeAt_0 : decode cX10_placeAt 0 = .ok (.iload_n 1, 1) := by decide +kernel
theorem dX10_placeAt_1 : decode cX10_placeAt 1 = .ok (.ifCond .lt 20, 3) := by decide +kernel
theorem dX10_placeAt_4 : decode cX10_placeAt 4 = .ok (.iload_n 1, 1) := by decide +kernel
theorem dX10_placeAt_5 : decode cX10_placeAt 5 = .ok (.aload_n 0, 1) := by decide +kernel
theorem dX10_placeAt_6 : decode cX10_placeAt 6 = .ok (.getfield 84, 3) := by decide +kernel
theorem dX10_placeAt_9 : decode cX10_placeAt 9 = .ok (.if_icmp .ge 12, 3) := by decide +kernel
theorem dX10_placeAt_21 : decode cX10_placeAt 21 = .ok (.aload_n 0, 1) := by decide +kernel
theorem dX10_placeAt_22 : decode cX10_placeAt 22 = .ok (.getfield 76, 3) := by decide +kernel
theorem dX10_placeAt_25 : decode cX10_placeAt 25 = .ok (.ireturn, 1) := by decide +kernel
set_option maxHeartbeats 1000000 in
set_option maxRecDepth 100000 in
/-- placeAt(0) of an empty text: 0 -/
theorem c_placeAt (l : Launch) (G : pT) (k2 : Nat) (t1 : Nat) (t2 : Nat) (t3 : Nat) (t4 : Nat) (t5 : Nat) (t6 : Nat) (t7 : Nat) (t8 : Nat) (t9 : Nat) (t10 : Nat) (nm : Int32) : PM l G pX0 yX10_placeAt cX10_placeAt 2 (some .int) ({ frames := 2, cells := 0, slots := 0, locals := 60 }) [.ref k2, .int 0] [(k2, .inr (7, [.ref t1, .int 220, .int 0, .ref t2, .ref t3, .ref t4, .ref t5, .ref t6, .int 0, .ref t7, .ref t8, .ref t9, .ref t10, .int nm, .int 0]))] (fun (v : Option Value) (u : (Nat → Nat) × (Nat → Nat → Int32) × (Nat → Nat → Int64)) => v = some (.int 0)) (fun u => []) := by
  intro sz
  refine Met.ofW (cc := cX10_placeAt) (maxL := 2) (ret := (some .int)) (by decide) rfl ?_
  intro p e s m args below meth c s₁ B hml hv
  obtain ⟨rfl, hsz, hP, hD0, hE, hX⟩ := hv
  have hx := B.exec
  have hb := B.bytes
  have hr := B.returns
  have hts := atoms_spec (ws := Cond.code yX10_placeAt cX10_placeAt 2 (some .int) :: pw) B.pre
  have hq : ∀ w ∈ pw, w.before _ s = true := fun w h => hts w (List.mem_cons_of_mem _ h)
  have hown : s.vm.findClass RX10 = some m.cls := findClass_of_methodNamed B.named
  have hlocks := B.notSynchronized
  subst hsz
  have hD := hD0.self (sz := s.heap.size)
  have hA : ∀ q : Nat, s.heap.size ≤ q → va_A [(k2, .inr (7, [.ref t1, .int 220, .int 0, .ref t2, .ref t3, .ref t4, .ref t5, .ref t6, .int 0, .ref t7, .ref t8, .ref t9, .ref t10, .int nm, .int 0]))] s.heap.size q := fun q h => Or.inr h
  have hP : va_P G.1 pCl [(k2, .inr (7, [.ref t1, .int 220, .int 0, .ref t2, .ref t3, .ref t4, .ref t5, .ref t6, .int 0, .ref t7, .ref t8, .ref t9, .ref t10, .int nm, .int 0]))] s.heap := hP
  generalize va_A [(k2, .inr (7, [.ref t1, .int 220, .int 0, .ref t2, .ref t3, .ref t4, .ref t5, .ref t6, .int 0, .ref t7, .ref t8, .ref t9, .ref t10, .int nm, .int 0]))] s.heap.size = A at hD hE hA ⊢
  have hS : va_S A s.heap s.heap [] := va_S.rf
  have hl := lv_entry ([.ref k2, .int 0]) (n := 2) (Nat.le_of_ble_eq_true rfl)
  rw [lg_entry_eq]
  generalize (lg_sl ([.ref k2, .int 0]) ++ List.replicate (2 - (lg_sl ([.ref k2, .int 0])).length) Slot.unset).toArray = ls at hl ⊢
  have hl : lv_has ls 2 [(0, .ref k2), (1, .int 0)] := hl
  refine lv_iload_n hx hb dX10_placeAt_0 rfl (lv_at hl 1 rfl) ?_
  refine lv_if_lt (tgt := 21) hx hb dX10_placeAt_1 (by decide) (fun c1 => absurd c1 (by decide)) (fun c1 => ?_)
  refine lv_iload_n hx hb dX10_placeAt_4 rfl (lv_at hl 1 rfl) ?_
  refine lv_aload_n hx hb dX10_placeAt_5 rfl (lv_at hl 0 rfl) ?_
  refine va_get (D := G.1) (ci := 7) (v := .int 0) (C := RX10) (T := TX10) (N := 15) hx hb hq pin_wsX100 hown hE.1.1 hP 0 rfl rfl 8 (by decide) (hq _ pw_70) (fun _ h9 => h9) rfl dX10_placeAt_6 ?_
  refine lv_icmp_ge (tgt := 21) hx hb dX10_placeAt_9 (by decide) (fun c2 => ?_) (fun c2 => absurd c2 (by decide))
  refine lv_aload_n hx hb dX10_placeAt_21 rfl (lv_at hl 0 rfl) ?_
  refine va_get (D := G.1) (ci := 7) (v := .int 0) (C := RX10) (T := TX10) (N := 15) hx hb hq pin_wsX100 hown hE.1.1 hP 0 rfl rfl 2 (by decide) (hq _ pw_68) (fun _ h9 => h9) rfl dX10_placeAt_22 ?_
  refine W.widen (k := 0) (n := 0) (Nat.le_of_ble_eq_true rfl) (Nat.le_of_ble_eq_true rfl) ?_
  exact W.iret (v := 0) hx hb hr (fun t ht hW => ⟨⟨_, ((fun _ => 0), (fun _ => fun _ => 0), (fun _ => fun _ => 0)), rfl, rfl, by rw [ht]; exact hP.sub [] rfl, hD.sub [] (by decide) rfl⟩, hS.F ht⟩) hS.2.2 dX10_placeAt_25
theorem dX8_parse_0 : decode cX8_parse 0 = .ok (.aload_n 0, 1) := by decide +kernel
theorem dX8_parse_1 : decode cX8_parse 1 = .ok (.aload_n 1, 1) := by decide +kernel
theorem dX8_parse_2 : decode cX8_parse 2 = .ok (.putfield 13, 3) := by decide +kernel
theorem dX8_parse_5 : decode cX8_parse 5 = .ok (.aload_n 0, 1) := by decide +kernel
theorem dX8_parse_6 : decode cX8_parse 6 = .ok (.iconst 0, 1) := by decide +kernel
theorem dX8_parse_7 : decode cX8_parse 7 = .ok (.putfield 17, 3) := by decide +kernel
theorem dX8_parse_10 : decode cX8_parse 10 = .ok (.aload_n 0, 1) := by decide +kernel
theorem dX8_parse_11 : decode cX8_parse 11 = .ok (.iconst 0, 1) := by decide +kernel
theorem dX8_parse_12 : decode cX8_parse 12 = .ok (.putfield 21, 3) := by decide +kernel
theorem dX8_parse_15 : decode cX8_parse 15 = .ok (.aload_n 0, 1) := by decide +kernel
theorem dX8_parse_16 : decode cX8_parse 16 = .ok (.iconst 0, 1) := by decide +kernel
theorem dX8_parse_17 : decode cX8_parse 17 = .ok (.putfield 24, 3) := by decide +kernel
theorem dX8_parse_20 : decode cX8_parse 20 = .ok (.iconst 0, 1) := by decide +kernel
theorem dX8_parse_21 : decode cX8_parse 21 = .ok (.istore_n 2, 1) := by decide +kernel
theorem dX8_parse_22 : decode cX8_parse 22 = .ok (.iload_n 2, 1) := by decide +kernel
theorem dX8_parse_23 : decode cX8_parse 23 = .ok (.aload_n 0, 1) := by decide +kernel
theorem dX8_parse_24 : decode cX8_parse 24 = .ok (.getfield 7, 3) := by decide +kernel
theorem dX8_parse_27 : decode cX8_parse 27 = .ok (.getfield 27, 3) := by decide +kernel
theorem dX8_parse_30 : decode cX8_parse 30 = .ok (.if_icmp .ge 85, 3) := by decide +kernel
theorem dX8_parse_115 : decode cX8_parse 115 = .ok (.return_, 1) := by decide +kernel
set_option maxHeartbeats 1000000 in
set_option maxRecDepth 100000 in
/-- parse of an empty text -/
theorem c_parse (l : Launch) (G : pT) (k4 : Nat) (k2 : Nat) (t1 : Nat) (t2 : Nat) (t3 : Nat) (t4 : Nat) (t5 : Nat) (t6 : Nat) (t7 : Nat) (t8 : Nat) (t9 : Nat) (t10 : Nat) (nm : Int32) (g0 : Nat) : PM l G pX0 yX8_parse cX8_parse 5 none ({ frames := 2, cells := 0, slots := 0, locals := 60 }) [.ref k4, .ref g0] [(k4, .inr (5, [.ref k2, .null, .int 0, .int 0, .int 0])), (k2, .inr (7, [.ref t1, .int 220, .int 0, .ref t2, .ref t3, .ref t4, .ref t5, .ref t6, .int 0, .ref t7, .ref t8, .ref t9, .ref t10, .int nm, .int 0]))] (fun (v : Option Value) (u : (Nat → Nat) × (Nat → Nat → Int32) × (Nat → Nat → Int64)) => v = none) (fun u => [(k2, .inr (7, [.ref t1, .int 220, .int 0, .ref t2, .ref t3, .ref t4, .ref t5, .ref t6, .int 0, .ref t7, .ref t8, .ref t9, .ref t10, .int nm, .int 0]))]) := by
  intro sz
  refine Met.ofW (cc := cX8_parse) (maxL := 5) (ret := none) (by decide) rfl ?_
  intro p e s m args below meth c s₁ B hml hv
  obtain ⟨rfl, hsz, hP, hD0, hE, hX⟩ := hv
  have hx := B.exec
  have hb := B.bytes
  have hr := B.returns
  have hts := atoms_spec (ws := Cond.code yX8_parse cX8_parse 5 none :: pw) B.pre
  have hq : ∀ w ∈ pw, w.before _ s = true := fun w h => hts w (List.mem_cons_of_mem _ h)
  have hown : s.vm.findClass RX8 = some m.cls := findClass_of_methodNamed B.named
  have hlocks := B.notSynchronized
  subst hsz
  have hD := hD0.self (sz := s.heap.size)
  have hA : ∀ q : Nat, s.heap.size ≤ q → va_A [(k4, .inr (5, [.ref k2, .null, .int 0, .int 0, .int 0])), (k2, .inr (7, [.ref t1, .int 220, .int 0, .ref t2, .ref t3, .ref t4, .ref t5, .ref t6, .int 0, .ref t7, .ref t8, .ref t9, .ref t10, .int nm, .int 0]))] s.heap.size q := fun q h => Or.inr h
  have hP : va_P G.1 pCl [(k4, .inr (5, [.ref k2, .null, .int 0, .int 0, .int 0])), (k2, .inr (7, [.ref t1, .int 220, .int 0, .ref t2, .ref t3, .ref t4, .ref t5, .ref t6, .int 0, .ref t7, .ref t8, .ref t9, .ref t10, .int nm, .int 0]))] s.heap := hP
  generalize va_A [(k4, .inr (5, [.ref k2, .null, .int 0, .int 0, .int 0])), (k2, .inr (7, [.ref t1, .int 220, .int 0, .ref t2, .ref t3, .ref t4, .ref t5, .ref t6, .int 0, .ref t7, .ref t8, .ref t9, .ref t10, .int nm, .int 0]))] s.heap.size = A at hD hE hA ⊢
  have hS : va_S A s.heap s.heap [] := va_S.rf
  have hl := lv_entry ([.ref k4, .ref g0]) (n := 5) (Nat.le_of_ble_eq_true rfl)
  rw [lg_entry_eq]
  generalize (lg_sl ([.ref k4, .ref g0]) ++ List.replicate (5 - (lg_sl ([.ref k4, .ref g0])).length) Slot.unset).toArray = ls at hl ⊢
  have hl : lv_has ls 5 [(0, .ref k4), (1, .ref g0)] := hl
  refine lv_aload_n hx hb dX8_parse_0 rfl (lv_at hl 0 rfl) ?_
  refine lv_aload_n hx hb dX8_parse_1 rfl (lv_at hl 1 rfl) ?_
  refine va_put (D := G.1) (ci := 5) (v := .ref g0) (ty := (.object "JinjaTongue$Program")) (C := RX8) (T := TX8) (N := 5) hx hb hq pin_wsX80 tyX8 tyX8_ok nmX8 hown hE.1.1 hP hD hS 0 rfl rfl 1 (by decide) (hq _ pw_90) (fun _ h9 => h9) rfl (by decide +kernel) rfl rfl (Nat.le_of_ble_eq_true rfl) dX8_parse_2 (fun H locs hP hD hS => ?_)
  have hP : va_P G.1 pCl [(k4, .inr (5, [.ref k2, .ref g0, .int 0, .int 0, .int 0])), (k2, .inr (7, [.ref t1, .int 220, .int 0, .ref t2, .ref t3, .ref t4, .ref t5, .ref t6, .int 0, .ref t7, .ref t8, .ref t9, .ref t10, .int nm, .int 0]))] H := hP
  have hD : va_D A [(k4, .inr (5, [.ref k2, .ref g0, .int 0, .int 0, .int 0])), (k2, .inr (7, [.ref t1, .int 220, .int 0, .ref t2, .ref t3, .ref t4, .ref t5, .ref t6, .int 0, .ref t7, .ref t8, .ref t9, .ref t10, .int nm, .int 0]))] := hD
  refine lv_aload_n hx hb dX8_parse_5 rfl (lv_at hl 0 rfl) ?_
  refine lv_iconst (v := 0) hx hb dX8_parse_6 (by decide) ?_
  refine va_put (D := G.1) (ci := 5) (v := .int 0) (ty := .int) (C := RX8) (T := TX8) (N := 5) hx hb hq pin_wsX80 tyX8 tyX8_ok nmX8 hown hE.1.1 hP hD hS 0 rfl rfl 2 (by decide) (hq _ pw_91) (fun _ h9 => h9) rfl (by decide +kernel) rfl rfl (Nat.le_of_ble_eq_true rfl) dX8_parse_7 (fun H locs hP hD hS => ?_)
  have hP : va_P G.1 pCl [(k4, .inr (5, [.ref k2, .ref g0, .int 0, .int 0, .int 0])), (k2, .inr (7, [.ref t1, .int 220, .int 0, .ref t2, .ref t3, .ref t4, .ref t5, .ref t6, .int 0, .ref t7, .ref t8, .ref t9, .ref t10, .int nm, .int 0]))] H := hP
  have hD : va_D A [(k4, .inr (5, [.ref k2, .ref g0, .int 0, .int 0, .int 0])), (k2, .inr (7, [.ref t1, .int 220, .int 0, .ref t2, .ref t3, .ref t4, .ref t5, .ref t6, .int 0, .ref t7, .ref t8, .ref t9, .ref t10, .int nm, .int 0]))] := hD
  refine lv_aload_n hx hb dX8_parse_10 rfl (lv_at hl 0 rfl) ?_
  refine lv_iconst (v := 0) hx hb dX8_parse_11 (by decide) ?_
  refine va_put (D := G.1) (ci := 5) (v := .int 0) (ty := .int) (C := RX8) (T := TX8) (N := 5) hx hb hq pin_wsX80 tyX8 tyX8_ok nmX8 hown hE.1.1 hP hD hS 0 rfl rfl 3 (by decide) (hq _ pw_92) (fun _ h9 => h9) rfl (by decide +kernel) rfl rfl (Nat.le_of_ble_eq_true rfl) dX8_parse_12 (fun H locs hP hD hS => ?_)
  have hP : va_P G.1 pCl [(k4, .inr (5, [.ref k2, .ref g0, .int 0, .int 0, .int 0])), (k2, .inr (7, [.ref t1, .int 220, .int 0, .ref t2, .ref t3, .ref t4, .ref t5, .ref t6, .int 0, .ref t7, .ref t8, .ref t9, .ref t10, .int nm, .int 0]))] H := hP
  have hD : va_D A [(k4, .inr (5, [.ref k2, .ref g0, .int 0, .int 0, .int 0])), (k2, .inr (7, [.ref t1, .int 220, .int 0, .ref t2, .ref t3, .ref t4, .ref t5, .ref t6, .int 0, .ref t7, .ref t8, .ref t9, .ref t10, .int nm, .int 0]))] := hD
  refine lv_aload_n hx hb dX8_parse_15 rfl (lv_at hl 0 rfl) ?_
  refine lv_iconst (v := 0) hx hb dX8_parse_16 (by decide) ?_
  refine va_put (D := G.1) (ci := 5) (v := .int 0) (ty := .int) (C := RX8) (T := TX8) (N := 5) hx hb hq pin_wsX80 tyX8 tyX8_ok nmX8 hown hE.1.1 hP hD hS 0 rfl rfl 4 (by decide) (hq _ pw_93) (fun _ h9 => h9) rfl (by decide +kernel) rfl rfl (Nat.le_of_ble_eq_true rfl) dX8_parse_17 (fun H locs hP hD hS => ?_)
  have hP : va_P G.1 pCl [(k4, .inr (5, [.ref k2, .ref g0, .int 0, .int 0, .int 0])), (k2, .inr (7, [.ref t1, .int 220, .int 0, .ref t2, .ref t3, .ref t4, .ref t5, .ref t6, .int 0, .ref t7, .ref t8, .ref t9, .ref t10, .int nm, .int 0]))] H := hP
  have hD : va_D A [(k4, .inr (5, [.ref k2, .ref g0, .int 0, .int 0, .int 0])), (k2, .inr (7, [.ref t1, .int 220, .int 0, .ref t2, .ref t3, .ref t4, .ref t5, .ref t6, .int 0, .ref t7, .ref t8, .ref t9, .ref t10, .int nm, .int 0]))] := hD
  refine lv_iconst (v := 0) hx hb dX8_parse_20 (by decide) ?_
  refine lv_istore_n (lv' := [(2, .int 0), (0, .ref k4), (1, .ref g0)]) hx hb dX8_parse_21 rfl hl (by decide) rfl (fun ls hl => ?_)
  refine lv_iload_n hx hb dX8_parse_22 rfl (lv_at hl 0 rfl) ?_
  refine lv_aload_n hx hb dX8_parse_23 rfl (lv_at hl 1 rfl) ?_
  refine va_get (D := G.1) (ci := 5) (v := .ref k2) (C := RX8) (T := TX8) (N := 5) hx hb hq pin_wsX80 hown hE.1.1 hP 0 rfl rfl 0 (by decide) (hq _ pw_89) (fun _ h9 => h9) rfl dX8_parse_24 ?_
  refine va_get (D := G.1) (ci := 7) (v := .int 0) (C := RX10) (T := TX10) (N := 15) hx hb hq pin_wsX100 hown hE.1.1 hP 1 rfl rfl 8 (by decide) (hq _ pw_94) (fun _ h9 => h9) rfl dX8_parse_27 ?_
  refine lv_icmp_ge (tgt := 115) hx hb dX8_parse_30 (by decide) (fun c1 => ?_) (fun c1 => absurd c1 (by decide))
  refine W.widen (k := 0) (n := 0) (Nat.le_of_ble_eq_true rfl) (Nat.le_of_ble_eq_true rfl) ?_
  exact W.vret hx hb hr (fun t ht hW => ⟨⟨_, ((fun _ => 0), (fun _ => fun _ => 0), (fun _ => fun _ => 0)), rfl, rfl, by rw [ht]; exact hP.sub [1] rfl, hD.sub [1] (by decide) rfl⟩, hS.F ht⟩) hS.2.2 dX8_parse_115
theorem dX9_firstRound_0 : decode cX9_firstRound 0 = .ok (.bipush 7, 2) := by decide +kernel
theorem dX9_firstRound_2 : decode cX9_firstRound 2 = .ok (.istore_n 1, 1) := by decide +kernel
theorem dX9_firstRound_3 : decode cX9_firstRound 3 = .ok (.iload_n 1, 1) := by decide +kernel
theorem dX9_firstRound_4 : decode cX9_firstRound 4 = .ok (.aload_n 0, 1) := by decide +kernel
theorem dX9_firstRound_5 : decode cX9_firstRound 5 = .ok (.getfield 33, 3) := by decide +kernel
theorem dX9_firstRound_8 : decode cX9_firstRound 8 = .ok (.if_icmp .ge 47, 3) := by decide +kernel
theorem dX9_firstRound_55 : decode cX9_firstRound 55 = .ok (.iconst 0, 1) := by decide +kernel
theorem dX9_firstRound_56 : decode cX9_firstRound 56 = .ok (.istore_n 1, 1) := by decide +kernel
theorem dX9_firstRound_57 : decode cX9_firstRound 57 = .ok (.iload_n 1, 1) := by decide +kernel
theorem dX9_firstRound_58 : decode cX9_firstRound 58 = .ok (.aload_n 0, 1) := by decide +kernel
theorem dX9_firstRound_59 : decode cX9_firstRound 59 = .ok (.getfield 9, 3) := by decide +kernel
theorem dX9_firstRound_62 : decode cX9_firstRound 62 = .ok (.getfield 126, 3) := by decide +kernel
theorem dX9_firstRound_65 : decode cX9_firstRound 65 = .ok (.if_icmp .ge 37, 3) := by decide +kernel
theorem dX9_firstRound_102 : decode cX9_firstRound 102 = .ok (.return_, 1) := by decide +kernel
set_option maxHeartbeats 1000000 in
set_option maxRecDepth 100000 in
/-- firstRound of an empty text -/
theorem c_firstRound (l : Launch) (G : pT) (g0 : Nat) (g1 : Nat) (g2 : Nat) (k2 : Nat) (t1 : Nat) (t2 : Nat) (t3 : Nat) (t4 : Nat) (t5 : Nat) (t6 : Nat) (t7 : Nat) (t8 : Nat) (t9 : Nat) (t10 : Nat) (nm : Int32) : PM l G pX0 yX9_firstRound cX9_firstRound 3 none ({ frames := 2, cells := 0, slots := 0, locals := 60 }) [.ref g0] [(g0, .inr (6, [.ref k2, .ref g1, .int 7, .ref g2, .int 2147483647])), (k2, .inr (7, [.ref t1, .int 220, .int 0, .ref t2, .ref t3, .ref t4, .ref t5, .ref t6, .int 0, .ref t7, .ref t8, .ref t9, .ref t10, .int nm, .int 0]))] (fun (v : Option Value) (u : (Nat → Nat) × (Nat → Nat → Int32) × (Nat → Nat → Int64)) => v = none) (fun u => [(g0, .inr (6, [.ref k2, .ref g1, .int 7, .ref g2, .int 2147483647])), (k2, .inr (7, [.ref t1, .int 220, .int 0, .ref t2, .ref t3, .ref t4, .ref t5, .ref t6, .int 0, .ref t7, .ref t8, .ref t9, .ref t10, .int nm, .int 0]))]) := by
  intro sz
  refine Met.ofW (cc := cX9_firstRound) (maxL := 3) (ret := none) (by decide) rfl ?_
  intro p e s m args below meth c s₁ B hml hv
  obtain ⟨rfl, hsz, hP, hD0, hE, hX⟩ := hv
  have hx := B.exec
  have hb := B.bytes
  have hr := B.returns
  have hts := atoms_spec (ws := Cond.code yX9_firstRound cX9_firstRound 3 none :: pw) B.pre
  have hq : ∀ w ∈ pw, w.before _ s = true := fun w h => hts w (List.mem_cons_of_mem _ h)
  have hown : s.vm.findClass RX9 = some m.cls := findClass_of_methodNamed B.named
  have hlocks := B.notSynchronized
  subst hsz
  have hD := hD0.self (sz := s.heap.size)
  have hA : ∀ q : Nat, s.heap.size ≤ q → va_A [(g0, .inr (6, [.ref k2, .ref g1, .int 7, .ref g2, .int 2147483647])), (k2, .inr (7, [.ref t1, .int 220, .int 0, .ref t2, .ref t3, .ref t4, .ref t5, .ref t6, .int 0, .ref t7, .ref t8, .ref t9, .ref t10, .int nm, .int 0]))] s.heap.size q := fun q h => Or.inr h
  have hP : va_P G.1 pCl [(g0, .inr (6, [.ref k2, .ref g1, .int 7, .ref g2, .int 2147483647])), (k2, .inr (7, [.ref t1, .int 220, .int 0, .ref t2, .ref t3, .ref t4, .ref t5, .ref t6, .int 0, .ref t7, .ref t8, .ref t9, .ref t10, .int nm, .int 0]))] s.heap := hP
  generalize va_A [(g0, .inr (6, [.ref k2, .ref g1, .int 7, .ref g2, .int 2147483647])), (k2, .inr (7, [.ref t1, .int 220, .int 0, .ref t2, .ref t3, .ref t4, .ref t5, .ref t6, .int 0, .ref t7, .ref t8, .ref t9, .ref t10, .int nm, .int 0]))] s.heap.size = A at hD hE hA ⊢
  have hS : va_S A s.heap s.heap [] := va_S.rf
  have hl := lv_entry ([.ref g0]) (n := 3) (Nat.le_of_ble_eq_true rfl)
  rw [lg_entry_eq]
  generalize (lg_sl ([.ref g0]) ++ List.replicate (3 - (lg_sl ([.ref g0])).length) Slot.unset).toArray = ls at hl ⊢
  have hl : lv_has ls 3 [(0, .ref g0)] := hl
  refine lv_bipush (v := 7) hx hb dX9_firstRound_0 (by decide) ?_
  refine lv_istore_n (lv' := [(1, .int 7), (0, .ref g0)]) hx hb dX9_firstRound_2 rfl hl (by decide) rfl (fun ls hl => ?_)
  refine lv_iload_n hx hb dX9_firstRound_3 rfl (lv_at hl 0 rfl) ?_
  refine lv_aload_n hx hb dX9_firstRound_4 rfl (lv_at hl 1 rfl) ?_
  refine va_get (D := G.1) (ci := 6) (v := .int 7) (C := RX9) (T := TX9) (N := 5) hx hb hq pin_wsX90 hown hE.1.1 hP 0 rfl rfl 2 (by decide) (hq _ pw_137) (fun _ h9 => h9) rfl dX9_firstRound_5 ?_
  refine lv_icmp_ge (tgt := 55) hx hb dX9_firstRound_8 (by decide) (fun c1 => ?_) (fun c1 => absurd c1 (by decide))
  refine lv_iconst (v := 0) hx hb dX9_firstRound_55 (by decide) ?_
  refine lv_istore_n (lv' := [(1, .int 0), (0, .ref g0)]) hx hb dX9_firstRound_56 rfl hl (by decide) rfl (fun ls hl => ?_)
  refine lv_iload_n hx hb dX9_firstRound_57 rfl (lv_at hl 0 rfl) ?_
  refine lv_aload_n hx hb dX9_firstRound_58 rfl (lv_at hl 1 rfl) ?_
  refine va_get (D := G.1) (ci := 6) (v := .ref k2) (C := RX9) (T := TX9) (N := 5) hx hb hq pin_wsX90 hown hE.1.1 hP 0 rfl rfl 0 (by decide) (hq _ pw_130) (fun _ h9 => h9) rfl dX9_firstRound_59 ?_
  refine va_get (D := G.1) (ci := 7) (v := .int 0) (C := RX10) (T := TX10) (N := 15) hx hb hq pin_wsX100 hown hE.1.1 hP 1 rfl rfl 8 (by decide) (hq _ pw_150) (fun _ h9 => h9) rfl dX9_firstRound_62 ?_
  refine lv_icmp_ge (tgt := 102) hx hb dX9_firstRound_65 (by decide) (fun c2 => ?_) (fun c2 => absurd c2 (by decide))
  refine W.widen (k := 0) (n := 0) (Nat.le_of_ble_eq_true rfl) (Nat.le_of_ble_eq_true rfl) ?_
  exact W.vret hx hb hr (fun t ht hW => ⟨⟨_, ((fun _ => 0), (fun _ => fun _ => 0), (fun _ => fun _ => 0)), rfl, rfl, by rw [ht]; exact hP.sub [0, 1] rfl, hD.sub [0, 1] (by decide) rfl⟩, hS.F ht⟩) hS.2.2 dX9_firstRound_102
theorem dX9_resolveTypes_0 : decode cX9_resolveTypes 0 = .ok (.iconst 0, 1) := by decide +kernel
theorem dX9_resolveTypes_1 : decode cX9_resolveTypes 1 = .ok (.istore_n 1, 1) := by decide +kernel
theorem dX9_resolveTypes_2 : decode cX9_resolveTypes 2 = .ok (.iload_n 1, 1) := by decide +kernel
theorem dX9_resolveTypes_3 : decode cX9_resolveTypes 3 = .ok (.aload_n 0, 1) := by decide +kernel
theorem dX9_resolveTypes_4 : decode cX9_resolveTypes 4 = .ok (.getfield 9, 3) := by decide +kernel
theorem dX9_resolveTypes_7 : decode cX9_resolveTypes 7 = .ok (.getfield 126, 3) := by decide +kernel
theorem dX9_resolveTypes_10 : decode cX9_resolveTypes 10 = .ok (.if_icmp .ge 147, 3) := by decide +kernel
theorem dX9_resolveTypes_157 : decode cX9_resolveTypes 157 = .ok (.return_, 1) := by decide +kernel
set_option maxHeartbeats 1000000 in
set_option maxRecDepth 100000 in
/-- resolveTypes of an empty text -/
theorem c_resolveTypes (l : Launch) (G : pT) (g0 : Nat) (g1 : Nat) (g2 : Nat) (k2 : Nat) (t1 : Nat) (t2 : Nat) (t3 : Nat) (t4 : Nat) (t5 : Nat) (t6 : Nat) (t7 : Nat) (t8 : Nat) (t9 : Nat) (t10 : Nat) (nm : Int32) : PM l G pX0 yX9_resolveTypes cX9_resolveTypes 4 none ({ frames := 2, cells := 0, slots := 0, locals := 60 }) [.ref g0] [(g0, .inr (6, [.ref k2, .ref g1, .int 7, .ref g2, .int 2147483647])), (k2, .inr (7, [.ref t1, .int 220, .int 0, .ref t2, .ref t3, .ref t4, .ref t5, .ref t6, .int 0, .ref t7, .ref t8, .ref t9, .ref t10, .int nm, .int 0]))] (fun (v : Option Value) (u : (Nat → Nat) × (Nat → Nat → Int32) × (Nat → Nat → Int64)) => v = none) (fun u => [(g0, .inr (6, [.ref k2, .ref g1, .int 7, .ref g2, .int 2147483647])), (k2, .inr (7, [.ref t1, .int 220, .int 0, .ref t2, .ref t3, .ref t4, .ref t5, .ref t6, .int 0, .ref t7, .ref t8, .ref t9, .ref t10, .int nm, .int 0]))]) := by
  intro sz
  refine Met.ofW (cc := cX9_resolveTypes) (maxL := 4) (ret := none) (by decide) rfl ?_
  intro p e s m args below meth c s₁ B hml hv
  obtain ⟨rfl, hsz, hP, hD0, hE, hX⟩ := hv
  have hx := B.exec
  have hb := B.bytes
  have hr := B.returns
  have hts := atoms_spec (ws := Cond.code yX9_resolveTypes cX9_resolveTypes 4 none :: pw) B.pre
  have hq : ∀ w ∈ pw, w.before _ s = true := fun w h => hts w (List.mem_cons_of_mem _ h)
  have hown : s.vm.findClass RX9 = some m.cls := findClass_of_methodNamed B.named
  have hlocks := B.notSynchronized
  subst hsz
  have hD := hD0.self (sz := s.heap.size)
  have hA : ∀ q : Nat, s.heap.size ≤ q → va_A [(g0, .inr (6, [.ref k2, .ref g1, .int 7, .ref g2, .int 2147483647])), (k2, .inr (7, [.ref t1, .int 220, .int 0, .ref t2, .ref t3, .ref t4, .ref t5, .ref t6, .int 0, .ref t7, .ref t8, .ref t9, .ref t10, .int nm, .int 0]))] s.heap.size q := fun q h => Or.inr h
  have hP : va_P G.1 pCl [(g0, .inr (6, [.ref k2, .ref g1, .int 7, .ref g2, .int 2147483647])), (k2, .inr (7, [.ref t1, .int 220, .int 0, .ref t2, .ref t3, .ref t4, .ref t5, .ref t6, .int 0, .ref t7, .ref t8, .ref t9, .ref t10, .int nm, .int 0]))] s.heap := hP
  generalize va_A [(g0, .inr (6, [.ref k2, .ref g1, .int 7, .ref g2, .int 2147483647])), (k2, .inr (7, [.ref t1, .int 220, .int 0, .ref t2, .ref t3, .ref t4, .ref t5, .ref t6, .int 0, .ref t7, .ref t8, .ref t9, .ref t10, .int nm, .int 0]))] s.heap.size = A at hD hE hA ⊢
  have hS : va_S A s.heap s.heap [] := va_S.rf
  have hl := lv_entry ([.ref g0]) (n := 4) (Nat.le_of_ble_eq_true rfl)
  rw [lg_entry_eq]
  generalize (lg_sl ([.ref g0]) ++ List.replicate (4 - (lg_sl ([.ref g0])).length) Slot.unset).toArray = ls at hl ⊢
  have hl : lv_has ls 4 [(0, .ref g0)] := hl
  refine lv_iconst (v := 0) hx hb dX9_resolveTypes_0 (by decide) ?_
  refine lv_istore_n (lv' := [(1, .int 0), (0, .ref g0)]) hx hb dX9_resolveTypes_1 rfl hl (by decide) rfl (fun ls hl => ?_)
  refine lv_iload_n hx hb dX9_resolveTypes_2 rfl (lv_at hl 0 rfl) ?_
  refine lv_aload_n hx hb dX9_resolveTypes_3 rfl (lv_at hl 1 rfl) ?_
  refine va_get (D := G.1) (ci := 6) (v := .ref k2) (C := RX9) (T := TX9) (N := 5) hx hb hq pin_wsX90 hown hE.1.1 hP 0 rfl rfl 0 (by decide) (hq _ pw_130) (fun _ h9 => h9) rfl dX9_resolveTypes_4 ?_
  refine va_get (D := G.1) (ci := 7) (v := .int 0) (C := RX10) (T := TX10) (N := 15) hx hb hq pin_wsX100 hown hE.1.1 hP 1 rfl rfl 8 (by decide) (hq _ pw_150) (fun _ h9 => h9) rfl dX9_resolveTypes_7 ?_
  refine lv_icmp_ge (tgt := 157) hx hb dX9_resolveTypes_10 (by decide) (fun c1 => ?_) (fun c1 => absurd c1 (by decide))
  refine W.widen (k := 0) (n := 0) (Nat.le_of_ble_eq_true rfl) (Nat.le_of_ble_eq_true rfl) ?_
  exact W.vret hx hb hr (fun t ht hW => ⟨⟨_, ((fun _ => 0), (fun _ => fun _ => 0), (fun _ => fun _ => 0)), rfl, rfl, by rw [ht]; exact hP.sub [0, 1] rfl, hD.sub [0, 1] (by decide) rfl⟩, hS.F ht⟩) hS.2.2 dX9_resolveTypes_157
theorem dX9_settle_0 : decode cX9_settle 0 = .ok (.aload_n 0, 1) := by decide +kernel
theorem dX9_settle_1 : decode cX9_settle 1 = .ok (.getfield 38, 3) := by decide +kernel
theorem dX9_settle_4 : decode cX9_settle 4 = .ok (.ldc 37, 2) := by decide +kernel
theorem dX9_settle_6 : decode cX9_settle 6 = .ok (.if_icmp .eq 24, 3) := by decide +kernel
theorem dX9_settle_30 : decode cX9_settle 30 = .ok (.return_, 1) := by decide +kernel
set_option maxHeartbeats 1000000 in
set_option maxRecDepth 100000 in
/-- settle, with nothing reported -/
theorem c_settle (l : Launch) (G : pT) (g0 : Nat) (g1 : Nat) (g2 : Nat) (k2 : Nat) : PM l G pX0 yX9_settle cX9_settle 1 none ({ frames := 2, cells := 0, slots := 0, locals := 60 }) [.ref g0] [(g0, .inr (6, [.ref k2, .ref g1, .int 7, .ref g2, .int 2147483647]))] (fun (v : Option Value) (u : (Nat → Nat) × (Nat → Nat → Int32) × (Nat → Nat → Int64)) => v = none) (fun u => [(g0, .inr (6, [.ref k2, .ref g1, .int 7, .ref g2, .int 2147483647]))]) := by
  intro sz
  refine Met.ofW (cc := cX9_settle) (maxL := 1) (ret := none) (by decide) rfl ?_
  intro p e s m args below meth c s₁ B hml hv
  obtain ⟨rfl, hsz, hP, hD0, hE, hX⟩ := hv
  have hx := B.exec
  have hb := B.bytes
  have hr := B.returns
  have hts := atoms_spec (ws := Cond.code yX9_settle cX9_settle 1 none :: pw) B.pre
  have hq : ∀ w ∈ pw, w.before _ s = true := fun w h => hts w (List.mem_cons_of_mem _ h)
  have hown : s.vm.findClass RX9 = some m.cls := findClass_of_methodNamed B.named
  have hlocks := B.notSynchronized
  subst hsz
  have hD := hD0.self (sz := s.heap.size)
  have hA : ∀ q : Nat, s.heap.size ≤ q → va_A [(g0, .inr (6, [.ref k2, .ref g1, .int 7, .ref g2, .int 2147483647]))] s.heap.size q := fun q h => Or.inr h
  have hP : va_P G.1 pCl [(g0, .inr (6, [.ref k2, .ref g1, .int 7, .ref g2, .int 2147483647]))] s.heap := hP
  generalize va_A [(g0, .inr (6, [.ref k2, .ref g1, .int 7, .ref g2, .int 2147483647]))] s.heap.size = A at hD hE hA ⊢
  have hS : va_S A s.heap s.heap [] := va_S.rf
  have hl := lv_entry ([.ref g0]) (n := 1) (Nat.le_of_ble_eq_true rfl)
  rw [lg_entry_eq]
  generalize (lg_sl ([.ref g0]) ++ List.replicate (1 - (lg_sl ([.ref g0])).length) Slot.unset).toArray = ls at hl ⊢
  have hl : lv_has ls 1 [(0, .ref g0)] := hl
  refine lv_aload_n hx hb dX9_settle_0 rfl (lv_at hl 0 rfl) ?_
  refine va_get (D := G.1) (ci := 6) (v := .int 2147483647) (C := RX9) (T := TX9) (N := 5) hx hb hq pin_wsX90 hown hE.1.1 hP 0 rfl rfl 4 (by decide) (hq _ pw_139) (fun _ h9 => h9) rfl dX9_settle_1 ?_
  refine lv_ldc (v := 2147483647) hx hb hown (hq _ pw_138) dX9_settle_4 ?_
  refine lv_icmp_eq (tgt := 30) hx hb dX9_settle_6 (by decide) (fun c1 => ?_) (fun c1 => absurd c1 (by decide))
  refine W.widen (k := 0) (n := 0) (Nat.le_of_ble_eq_true rfl) (Nat.le_of_ble_eq_true rfl) ?_
  exact W.vret hx hb hr (fun t ht hW => ⟨⟨_, ((fun _ => 0), (fun _ => fun _ => 0), (fun _ => fun _ => 0)), rfl, rfl, by rw [ht]; exact hP.sub [0] rfl, hD.sub [0] (by decide) rfl⟩, hS.F ht⟩) hS.2.2 dX9_settle_30

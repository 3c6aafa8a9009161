theorem in12 {x : Int32} (h1 : ¬ x < 5) (h2 : ¬ 11 < x) : vp_in x 12 := by
  rw [Int32.lt_iff_toInt_lt] at h1 h2
  rw [vp_in_iff]
  have a : (5 : Int32).toInt = 5 := by decide
  have b : (11 : Int32).toInt = 11 := by decide
  omega
theorem i_ne {x : Int32} {n : Nat} (hn : n < 2 ^ 31) (h : ¬ x = nI n) : x.toInt ≠ n := fun e => h (Int32.toInt_inj.mp (by rw [e, nI_toInt hn]))
theorem sw_out4 {x : Int32} (h0 : ¬ x = 0) (h1 : ¬ x = 1) (h2 : ¬ x = 2) (h3 : ¬ x = 3) (h4 : ¬ x = 4) : x.toInt < 0 ∨ 4 < x.toInt := by
  have a := i_ne (n := 0) (by decide) h0; have b := i_ne (n := 1) (by decide) h1; have c := i_ne (n := 2) (by decide) h2; have d := i_ne (n := 3) (by decide) h3; have e := i_ne (n := 4) (by decide) h4
  omega
/-- what count answers on a fresh object -/
def cnt (x : Int32) : Int32 := if x < 0 ∨ 11 < x then -1 else 0
def tld (x : Int32) : Int32 := if x < 5 ∨ 11 < x then -1 else 0
theorem tld_cnt {x : Int32} (h0 : ¬ x = 0) (h1 : ¬ x = 1) (h2 : ¬ x = 2) (h3 : ¬ x = 3) (h4 : ¬ x = 4) : tld x = cnt x := by
  have o := sw_out4 h0 h1 h2 h3 h4
  unfold tld cnt
  have a : (5 : Int32).toInt = 5 := by decide
  have b : (0 : Int32).toInt = 0 := by decide
  by_cases p : x < 5 ∨ 11 < x
  · rw [if_pos p, if_pos]
    rcases p with p | p
    · left; rw [Int32.lt_iff_toInt_lt] at p ⊢; omega
    · exact Or.inr p
  · rw [if_neg p, if_neg]
    intro q
    apply p
    rcases q with q | q
    · left; rw [Int32.lt_iff_toInt_lt] at q ⊢; omega
    · exact Or.inr q
theorem dX11_back_0 : decode cX11_back 0 = .ok (.iload_n 1, 1) := by decide +kernel
theorem dX11_back_1 : decode cX11_back 1 = .ok (.ifCond .lt 11, 3) := by decide +kernel
theorem dX11_back_12 : decode cX11_back 12 = .ok (.iconst (-1), 1) := by decide +kernel
theorem dX11_back_13 : decode cX11_back 13 = .ok (.ireturn, 1) := by decide +kernel
theorem dX11_back_4 : decode cX11_back 4 = .ok (.iload_n 1, 1) := by decide +kernel
theorem dX11_back_5 : decode cX11_back 5 = .ok (.aload_n 0, 1) := by decide +kernel
theorem dX11_back_6 : decode cX11_back 6 = .ok (.getfield 54, 3) := by decide +kernel
theorem dX11_back_9 : decode cX11_back 9 = .ok (.if_icmp .le 5, 3) := by decide +kernel
theorem dX11_back_14 : decode cX11_back 14 = .ok (.aload_n 0, 1) := by decide +kernel
theorem dX11_back_15 : decode cX11_back 15 = .ok (.dup, 1) := by decide +kernel
theorem dX11_back_16 : decode cX11_back 16 = .ok (.getfield 54, 3) := by decide +kernel
theorem dX11_back_19 : decode cX11_back 19 = .ok (.iload_n 1, 1) := by decide +kernel
theorem dX11_back_20 : decode cX11_back 20 = .ok (.isub, 1) := by decide +kernel
theorem dX11_back_21 : decode cX11_back 21 = .ok (.putfield 54, 3) := by decide +kernel
theorem dX11_back_24 : decode cX11_back 24 = .ok (.aload_n 0, 1) := by decide +kernel
theorem dX11_back_25 : decode cX11_back 25 = .ok (.getfield 54, 3) := by decide +kernel
theorem dX11_back_28 : decode cX11_back 28 = .ok (.ireturn, 1) := by decide +kernel
set_option maxHeartbeats 1000000 in
set_option maxRecDepth 100000 in
/-- back(n) on a fresh object -/
theorem c_back (l : Launch) (G : pT) (h0 : Nat) (k1 : Nat) (k2 : Nat) (k3 : Nat) (k4 : Nat) (k5 : Nat) (k6 : Nat) (x : Int32) : PM l G pX0 yX11_back cX11_back 2 (some .int) ({ frames := 2, cells := 0, slots := 0, locals := 60 }) [.ref h0, .int x] [(h0, .inr (8, [.ref k1, .int 0, .ref k2, .ref k3, .ref k4, .ref k5, .ref k6, .null]))] (fun (v : Option Value) (u : Unit) => v = some (.int (if x = 0 then 0 else (-1)))) (fun u => []) := by
  intro sz
  refine Met.ofW (cc := cX11_back) (maxL := 2) (ret := (some .int)) (by decide) rfl ?_
  intro p e s m args below meth c s₁ B hml hv
  obtain ⟨rfl, hsz, hP, hD0, hE, hX⟩ := hv
  have hx := B.exec
  have hb := B.bytes
  have hr := B.returns
  have hts := atoms_spec (ws := Cond.code yX11_back cX11_back 2 (some .int) :: pw) B.pre
  have hq : ∀ w ∈ pw, w.before _ s = true := fun w h => hts w (List.mem_cons_of_mem _ h)
  have hown : s.vm.findClass RX11 = some m.cls := findClass_of_methodNamed B.named
  have hlocks := B.notSynchronized
  subst hsz
  have hD := hD0.self (sz := s.heap.size)
  have hA : ∀ q : Nat, s.heap.size ≤ q → va_A [(h0, .inr (8, [.ref k1, .int 0, .ref k2, .ref k3, .ref k4, .ref k5, .ref k6, .null]))] s.heap.size q := fun q h => Or.inr h
  have hP : va_P G.1 pCl [(h0, .inr (8, [.ref k1, .int 0, .ref k2, .ref k3, .ref k4, .ref k5, .ref k6, .null]))] s.heap := hP
  generalize va_A [(h0, .inr (8, [.ref k1, .int 0, .ref k2, .ref k3, .ref k4, .ref k5, .ref k6, .null]))] s.heap.size = A at hD hE hA ⊢
  have hS : va_S A s.heap s.heap [] := va_S.rf
  have hl := lv_entry ([.ref h0, .int x]) (n := 2) (Nat.le_of_ble_eq_true rfl)
  rw [lg_entry_eq]
  generalize (lg_sl ([.ref h0, .int x]) ++ List.replicate (2 - (lg_sl ([.ref h0, .int x])).length) Slot.unset).toArray = ls at hl ⊢
  have hl : lv_has ls 2 [(0, .ref h0), (1, .int x)] := hl
  refine lv_iload_n hx hb dX11_back_0 rfl (lv_at hl 1 rfl) ?_
  refine lv_if_lt (tgt := 12) hx hb dX11_back_1 (by decide) (fun c1 => ?_) (fun c1 => ?_)
  · refine lv_iconst (v := (-1)) hx hb dX11_back_12 (by decide) ?_
    refine W.widen (k := 0) (n := 0) (Nat.le_of_ble_eq_true rfl) (Nat.le_of_ble_eq_true rfl) ?_
    exact W.iret (v := (-1)) hx hb hr (fun t ht hW => ⟨⟨_, (), rfl, (by rw [if_neg (fun h => absurd c1 (by rw [h]; decide))]), by rw [ht]; exact hP.sub [] rfl, hD.sub [] (by decide) rfl⟩, hS.F ht⟩) hS.2.2 dX11_back_13
  · refine lv_iload_n hx hb dX11_back_4 rfl (lv_at hl 1 rfl) ?_
    refine lv_aload_n hx hb dX11_back_5 rfl (lv_at hl 0 rfl) ?_
    refine va_get (D := G.1) (ci := 8) (v := .int 0) (C := RX11) (T := TX11) (N := 8) hx hb hq pin_wsX110 hown hE.1.1 hP 0 rfl rfl 1 (by decide) (hq _ pw_17) (fun _ h9 => h9) rfl dX11_back_6 ?_
    refine lv_icmp_le (tgt := 14) hx hb dX11_back_9 (by decide) (fun c2 => ?_) (fun c2 => ?_)
    · refine lv_aload_n hx hb dX11_back_14 rfl (lv_at hl 0 rfl) ?_
      refine lv_dup hx hb dX11_back_15 rfl ?_
      refine va_get (D := G.1) (ci := 8) (v := .int 0) (C := RX11) (T := TX11) (N := 8) hx hb hq pin_wsX110 hown hE.1.1 hP 0 rfl rfl 1 (by decide) (hq _ pw_17) (fun _ h9 => h9) rfl dX11_back_16 ?_
      refine lv_iload_n hx hb dX11_back_19 rfl (lv_at hl 1 rfl) ?_
      refine lv_isub hx hb dX11_back_20 ?_
      refine lv_topi (fun x3 e4 => ?_)
      refine va_put (D := G.1) (ci := 8) (v := .int x3) (ty := .int) (C := RX11) (T := TX11) (N := 8) hx hb hq pin_wsX110 tyX11 tyX11_ok nmX11 hown hE.1.1 hP hD hS 0 rfl rfl 1 (by decide) (hq _ pw_17) (fun _ h9 => h9) rfl (by decide +kernel) rfl rfl (Nat.le_of_ble_eq_true rfl) dX11_back_21 (fun H locs hP hD hS => ?_)
      have hP : va_P G.1 pCl [(h0, .inr (8, [.ref k1, .int x3, .ref k2, .ref k3, .ref k4, .ref k5, .ref k6, .null]))] H := hP
      have hD : va_D A [(h0, .inr (8, [.ref k1, .int x3, .ref k2, .ref k3, .ref k4, .ref k5, .ref k6, .null]))] := hD
      refine lv_aload_n hx hb dX11_back_24 rfl (lv_at hl 0 rfl) ?_
      refine va_get (D := G.1) (ci := 8) (v := .int x3) (C := RX11) (T := TX11) (N := 8) hx hb hq pin_wsX110 hown hE.1.1 hP 0 rfl rfl 1 (by decide) (hq _ pw_17) (fun _ h9 => h9) rfl dX11_back_25 ?_
      refine W.widen (k := 0) (n := 0) (Nat.le_of_ble_eq_true rfl) (Nat.le_of_ble_eq_true rfl) ?_
      exact W.iret (v := x3) hx hb hr (fun t ht hW => ⟨⟨_, (), rfl, (by have h : x = 0 := Int32.le_antisymm c2 (Int32.not_lt.mp c1); rw [if_pos h, e4, h]; rfl), by rw [ht]; exact hP.sub [] rfl, hD.sub [] (by decide) rfl⟩, hS.F ht⟩) hS.2.2 dX11_back_28
    · refine lv_iconst (v := (-1)) hx hb dX11_back_12 (by decide) ?_
      refine W.widen (k := 0) (n := 0) (Nat.le_of_ble_eq_true rfl) (Nat.le_of_ble_eq_true rfl) ?_
      exact W.iret (v := (-1)) hx hb hr (fun t ht hW => ⟨⟨_, (), rfl, (by rw [if_neg (fun h => c2 (by rw [h]; decide))]), by rw [ht]; exact hP.sub [] rfl, hD.sub [] (by decide) rfl⟩, hS.F ht⟩) hS.2.2 dX11_back_13
theorem dX5_printed_0 : decode cX5_printed 0 = .ok (.iload_n 1, 1) := by decide +kernel
theorem dX5_printed_1 : decode cX5_printed 1 = .ok (.ifCond .lt 30, 3) := by decide +kernel
theorem dX5_printed_31 : decode cX5_printed 31 = .ok (.iconst 0, 1) := by decide +kernel
theorem dX5_printed_32 : decode cX5_printed 32 = .ok (.ireturn, 1) := by decide +kernel
theorem dX5_printed_4 : decode cX5_printed 4 = .ok (.iload_n 1, 1) := by decide +kernel
theorem dX5_printed_5 : decode cX5_printed 5 = .ok (.aload_n 0, 1) := by decide +kernel
theorem dX5_printed_6 : decode cX5_printed 6 = .ok (.getfield 36, 3) := by decide +kernel
theorem dX5_printed_9 : decode cX5_printed 9 = .ok (.bipush 6, 2) := by decide +kernel
theorem dX5_printed_11 : decode cX5_printed 11 = .ok (.iaload, 1) := by decide +kernel
theorem dX5_printed_12 : decode cX5_printed 12 = .ok (.if_icmp .ge 19, 3) := by decide +kernel
set_option maxHeartbeats 1000000 in
set_option maxRecDepth 100000 in
/-- printed(i) without a run: 0 -/
theorem c_printed (l : Launch) (G : pT) (k6 : Nat) (m1 : Nat) (m2 : Nat) (m3 : Nat) (m4 : Nat) (m5 : Nat) (m6 : Nat) (m7 : Nat) (x : Int32) : PM l G pX0 yX5_printed cX5_printed 2 (some .int) ({ frames := 2, cells := 0, slots := 0, locals := 60 }) [.ref k6, .int x] [(k6, .inr (4, [.ref m1, .ref m2, .ref m3, .ref m4, .ref m5, .int 0, .ref m6, .ref m7, .null, .null, .int 0, .int 0, .int 0, .int 0, .long 0, .int 0, .int 0, .int 0, .int 0])), (m7, .inl (G.2.1 0, 12, .inl (fun _ => 0)))] (fun (v : Option Value) (u : Unit) => v = some (.int 0)) (fun u => []) := by
  intro sz
  refine Met.ofW (cc := cX5_printed) (maxL := 2) (ret := (some .int)) (by decide) rfl ?_
  intro p e s m args below meth c s₁ B hml hv
  obtain ⟨rfl, hsz, hP, hD0, hE, hX⟩ := hv
  have hx := B.exec
  have hb := B.bytes
  have hr := B.returns
  have hts := atoms_spec (ws := Cond.code yX5_printed cX5_printed 2 (some .int) :: pw) B.pre
  have hq : ∀ w ∈ pw, w.before _ s = true := fun w h => hts w (List.mem_cons_of_mem _ h)
  have hown : s.vm.findClass RX5 = some m.cls := findClass_of_methodNamed B.named
  have hlocks := B.notSynchronized
  subst hsz
  have hD := hD0.self (sz := s.heap.size)
  have hA : ∀ q : Nat, s.heap.size ≤ q → va_A [(k6, .inr (4, [.ref m1, .ref m2, .ref m3, .ref m4, .ref m5, .int 0, .ref m6, .ref m7, .null, .null, .int 0, .int 0, .int 0, .int 0, .long 0, .int 0, .int 0, .int 0, .int 0])), (m7, .inl (G.2.1 0, 12, .inl (fun _ => 0)))] s.heap.size q := fun q h => Or.inr h
  have hP : va_P G.1 pCl [(k6, .inr (4, [.ref m1, .ref m2, .ref m3, .ref m4, .ref m5, .int 0, .ref m6, .ref m7, .null, .null, .int 0, .int 0, .int 0, .int 0, .long 0, .int 0, .int 0, .int 0, .int 0])), (m7, .inl (G.2.1 0, 12, .inl (fun _ => 0)))] s.heap := hP
  generalize va_A [(k6, .inr (4, [.ref m1, .ref m2, .ref m3, .ref m4, .ref m5, .int 0, .ref m6, .ref m7, .null, .null, .int 0, .int 0, .int 0, .int 0, .long 0, .int 0, .int 0, .int 0, .int 0])), (m7, .inl (G.2.1 0, 12, .inl (fun _ => 0)))] s.heap.size = A at hD hE hA ⊢
  have hS : va_S A s.heap s.heap [] := va_S.rf
  have hl := lv_entry ([.ref k6, .int x]) (n := 2) (Nat.le_of_ble_eq_true rfl)
  rw [lg_entry_eq]
  generalize (lg_sl ([.ref k6, .int x]) ++ List.replicate (2 - (lg_sl ([.ref k6, .int x])).length) Slot.unset).toArray = ls at hl ⊢
  have hl : lv_has ls 2 [(0, .ref k6), (1, .int x)] := hl
  refine lv_iload_n hx hb dX5_printed_0 rfl (lv_at hl 1 rfl) ?_
  refine lv_if_lt (tgt := 31) hx hb dX5_printed_1 (by decide) (fun c1 => ?_) (fun c1 => ?_)
  · refine lv_iconst (v := 0) hx hb dX5_printed_31 (by decide) ?_
    refine W.widen (k := 0) (n := 0) (Nat.le_of_ble_eq_true rfl) (Nat.le_of_ble_eq_true rfl) ?_
    exact W.iret (v := 0) hx hb hr (fun t ht hW => ⟨⟨_, (), rfl, rfl, by rw [ht]; exact hP.sub [] rfl, hD.sub [] (by decide) rfl⟩, hS.F ht⟩) hS.2.2 dX5_printed_32
  · refine lv_iload_n hx hb dX5_printed_4 rfl (lv_at hl 1 rfl) ?_
    refine lv_aload_n hx hb dX5_printed_5 rfl (lv_at hl 0 rfl) ?_
    refine va_get (D := G.1) (ci := 4) (v := .ref m7) (C := RX5) (T := TX5) (N := 19) hx hb hq pin_wsX50 hown hE.1.1 hP 0 rfl rfl 7 (by decide) (hq _ pw_115) (fun _ h9 => h9) rfl dX5_printed_6 ?_
    refine lv_bipush (v := 6) hx hb dX5_printed_9 (by decide) ?_
    refine va_iald hx hb hE.1.1 hP 1 0 rfl rfl (by unfold vp_in; decide) dX5_printed_11 ?_
    refine lv_topi (fun x2 e3 => ?_)
    obtain rfl : x2 = 0 := e3
    refine lv_icmp_ge (tgt := 31) hx hb dX5_printed_12 (by decide) (fun c4 => ?_) (fun c4 => absurd (Int32.not_lt.mp c1) c4)
    refine lv_iconst (v := 0) hx hb dX5_printed_31 (by decide) ?_
    refine W.widen (k := 0) (n := 0) (Nat.le_of_ble_eq_true rfl) (Nat.le_of_ble_eq_true rfl) ?_
    exact W.iret (v := 0) hx hb hr (fun t ht hW => ⟨⟨_, (), rfl, rfl, by rw [ht]; exact hP.sub [] rfl, hD.sub [] (by decide) rfl⟩, hS.F ht⟩) hS.2.2 dX5_printed_32
theorem dX11_output_0 : decode cX11_output 0 = .ok (.aload_n 0, 1) := by decide +kernel
theorem dX11_output_1 : decode cX11_output 1 = .ok (.getfield 50, 3) := by decide +kernel
theorem dX11_output_4 : decode cX11_output 4 = .ok (.iload_n 1, 1) := by decide +kernel
theorem dX11_output_5 : decode cX11_output 5 = .ok (.invokevirtual 186, 3) := by decide +kernel
theorem dX11_output_8 : decode cX11_output 8 = .ok (.ireturn, 1) := by decide +kernel
theorem hV_X5_printed : yX5_printed.cls = RX5 ∧ yX5_printed.cls ≠ "java/lang/invoke/MethodHandle" ∧ yX5_printed.cls ≠ "java/lang/invoke/VarHandle" ∧ (parseMethodDescriptor yX5_printed.desc).map (fun d => d.parameters.length) = some 1 := by decide +kernel
set_option maxHeartbeats 1000000 in
set_option maxRecDepth 100000 in
/-- output(i) without a run: 0 -/
theorem c_output (l : Launch) (G : pT) (h0 : Nat) (k1 : Nat) (k2 : Nat) (k3 : Nat) (k4 : Nat) (k5 : Nat) (k6 : Nat) (m1 : Nat) (m2 : Nat) (m3 : Nat) (m4 : Nat) (m5 : Nat) (m6 : Nat) (m7 : Nat) (x : Int32) : PM l G pX0 yX11_output cX11_output 2 (some .int) ({ frames := 3, cells := 0, slots := 0, locals := 81 }) [.ref h0, .int x] [(h0, .inr (8, [.ref k1, .int 0, .ref k2, .ref k3, .ref k4, .ref k5, .ref k6, .null])), (k6, .inr (4, [.ref m1, .ref m2, .ref m3, .ref m4, .ref m5, .int 0, .ref m6, .ref m7, .null, .null, .int 0, .int 0, .int 0, .int 0, .long 0, .int 0, .int 0, .int 0, .int 0])), (m7, .inl (G.2.1 0, 12, .inl (fun _ => 0)))] (fun (v : Option Value) (u : Unit) => v = some (.int 0)) (fun u => []) := by
  intro sz
  refine Met.ofW (cc := cX11_output) (maxL := 2) (ret := (some .int)) (by decide) rfl ?_
  intro p e s m args below meth c s₁ B hml hv
  obtain ⟨rfl, hsz, hP, hD0, hE, hX⟩ := hv
  have hx := B.exec
  have hb := B.bytes
  have hr := B.returns
  have hts := atoms_spec (ws := Cond.code yX11_output cX11_output 2 (some .int) :: pw) B.pre
  have hq : ∀ w ∈ pw, w.before _ s = true := fun w h => hts w (List.mem_cons_of_mem _ h)
  have hown : s.vm.findClass RX11 = some m.cls := findClass_of_methodNamed B.named
  have hlocks := B.notSynchronized
  subst hsz
  have hD := hD0.self (sz := s.heap.size)
  have hA : ∀ q : Nat, s.heap.size ≤ q → va_A [(h0, .inr (8, [.ref k1, .int 0, .ref k2, .ref k3, .ref k4, .ref k5, .ref k6, .null])), (k6, .inr (4, [.ref m1, .ref m2, .ref m3, .ref m4, .ref m5, .int 0, .ref m6, .ref m7, .null, .null, .int 0, .int 0, .int 0, .int 0, .long 0, .int 0, .int 0, .int 0, .int 0])), (m7, .inl (G.2.1 0, 12, .inl (fun _ => 0)))] s.heap.size q := fun q h => Or.inr h
  have hP : va_P G.1 pCl [(h0, .inr (8, [.ref k1, .int 0, .ref k2, .ref k3, .ref k4, .ref k5, .ref k6, .null])), (k6, .inr (4, [.ref m1, .ref m2, .ref m3, .ref m4, .ref m5, .int 0, .ref m6, .ref m7, .null, .null, .int 0, .int 0, .int 0, .int 0, .long 0, .int 0, .int 0, .int 0, .int 0])), (m7, .inl (G.2.1 0, 12, .inl (fun _ => 0)))] s.heap := hP
  generalize va_A [(h0, .inr (8, [.ref k1, .int 0, .ref k2, .ref k3, .ref k4, .ref k5, .ref k6, .null])), (k6, .inr (4, [.ref m1, .ref m2, .ref m3, .ref m4, .ref m5, .int 0, .ref m6, .ref m7, .null, .null, .int 0, .int 0, .int 0, .int 0, .long 0, .int 0, .int 0, .int 0, .int 0])), (m7, .inl (G.2.1 0, 12, .inl (fun _ => 0)))] s.heap.size = A at hD hE hA ⊢
  have hS : va_S A s.heap s.heap [] := va_S.rf
  have hl := lv_entry ([.ref h0, .int x]) (n := 2) (Nat.le_of_ble_eq_true rfl)
  rw [lg_entry_eq]
  generalize (lg_sl ([.ref h0, .int x]) ++ List.replicate (2 - (lg_sl ([.ref h0, .int x])).length) Slot.unset).toArray = ls at hl ⊢
  have hl : lv_has ls 2 [(0, .ref h0), (1, .int x)] := hl
  refine lv_aload_n hx hb dX11_output_0 rfl (lv_at hl 0 rfl) ?_
  refine va_get (D := G.1) (ci := 8) (v := .ref k6) (C := RX11) (T := TX11) (N := 8) hx hb hq pin_wsX110 hown hE.1.1 hP 0 rfl rfl 6 (by decide) (hq _ pw_16) (fun _ h9 => h9) rfl dX11_output_1 ?_
  refine lv_iload_n hx hb dX11_output_4 rfl (lv_at hl 1 rfl) ?_
  refine pc_V (G := G) (As := [.int x]) (rest := []) (wr := [(h0, .inr (8, [.ref k1, .int 0, .ref k2, .ref k3, .ref k4, .ref k5, .ref k6, .null]))]) hx hb hml hown hq hE hX pX0_al hP hD hS hA hl.1 (c_printed l G k6 m1 m2 m3 m4 m5 m6 m7 x) (gV pw_44 pw_468 pw_469 pw_463 pw_467) hV_X5_printed 1 4 rfl rfl rfl [1, 2] [0] rfl rfl (by decide) (by decide) (by decide) rfl (Nat.le_of_ble_eq_true rfl) dX11_output_5 ⟨Nat.le_of_ble_eq_true rfl, Nat.le_of_ble_eq_true rfl⟩ ⟨Nat.le_of_ble_eq_true rfl, Nat.le_of_ble_eq_true rfl⟩ (fun v3 u1 H locs hw2 hP hD hS => ?_)
  obtain rfl : v3 = some (.int 0) := hw2
  have hP : va_P G.1 pCl [(h0, .inr (8, [.ref k1, .int 0, .ref k2, .ref k3, .ref k4, .ref k5, .ref k6, .null]))] H := hP
  have hD : va_D A [(h0, .inr (8, [.ref k1, .int 0, .ref k2, .ref k3, .ref k4, .ref k5, .ref k6, .null]))] := hD
  refine W.widen (k := 0) (n := 0) (Nat.le_of_ble_eq_true rfl) (Nat.le_of_ble_eq_true rfl) ?_
  refine W.eq (g2 := F0 m 8 ls [.int 0]) rfl ?_
  refine W.widen (k := 0) (n := 0) (Nat.le_of_ble_eq_true rfl) (Nat.le_of_ble_eq_true rfl) ?_
  exact W.iret (v := 0) hx hb hr (fun t ht hW => ⟨⟨_, (), rfl, rfl, by rw [ht]; exact hP.sub [] rfl, hD.sub [] (by decide) rfl⟩, hS.F ht⟩) hS.2.2 dX11_output_8
theorem dX5_told_0 : decode cX5_told 0 = .ok (.iload_n 1, 1) := by decide +kernel
theorem dX5_told_1 : decode cX5_told 1 = .ok (.iconst 5, 1) := by decide +kernel
theorem dX5_told_2 : decode cX5_told 2 = .ok (.if_icmp .lt 18, 3) := by decide +kernel
theorem dX5_told_20 : decode cX5_told 20 = .ok (.iconst (-1), 1) := by decide +kernel
theorem dX5_told_21 : decode cX5_told 21 = .ok (.ireturn, 1) := by decide +kernel
theorem dX5_told_5 : decode cX5_told 5 = .ok (.iload_n 1, 1) := by decide +kernel
theorem dX5_told_6 : decode cX5_told 6 = .ok (.bipush 11, 2) := by decide +kernel
theorem dX5_told_8 : decode cX5_told 8 = .ok (.if_icmp .gt 12, 3) := by decide +kernel
theorem dX5_told_11 : decode cX5_told 11 = .ok (.aload_n 0, 1) := by decide +kernel
theorem dX5_told_12 : decode cX5_told 12 = .ok (.getfield 36, 3) := by decide +kernel
theorem dX5_told_15 : decode cX5_told 15 = .ok (.iload_n 1, 1) := by decide +kernel
theorem dX5_told_16 : decode cX5_told 16 = .ok (.iaload, 1) := by decide +kernel
theorem dX5_told_17 : decode cX5_told 17 = .ok (.goto 4, 3) := by decide +kernel
set_option maxHeartbeats 1000000 in
set_option maxRecDepth 100000 in
/-- told(what) without a run -/
theorem c_told (l : Launch) (G : pT) (k6 : Nat) (m1 : Nat) (m2 : Nat) (m3 : Nat) (m4 : Nat) (m5 : Nat) (m6 : Nat) (m7 : Nat) (x : Int32) : PM l G pX0 yX5_told cX5_told 2 (some .int) ({ frames := 2, cells := 0, slots := 0, locals := 60 }) [.ref k6, .int x] [(k6, .inr (4, [.ref m1, .ref m2, .ref m3, .ref m4, .ref m5, .int 0, .ref m6, .ref m7, .null, .null, .int 0, .int 0, .int 0, .int 0, .long 0, .int 0, .int 0, .int 0, .int 0])), (m7, .inl (G.2.1 0, 12, .inl (fun _ => 0)))] (fun (v : Option Value) (u : Unit) => v = some (.int (tld x))) (fun u => []) := by
  intro sz
  refine Met.ofW (cc := cX5_told) (maxL := 2) (ret := (some .int)) (by decide) rfl ?_
  intro p e s m args below meth c s₁ B hml hv
  obtain ⟨rfl, hsz, hP, hD0, hE, hX⟩ := hv
  have hx := B.exec
  have hb := B.bytes
  have hr := B.returns
  have hts := atoms_spec (ws := Cond.code yX5_told cX5_told 2 (some .int) :: pw) B.pre
  have hq : ∀ w ∈ pw, w.before _ s = true := fun w h => hts w (List.mem_cons_of_mem _ h)
  have hown : s.vm.findClass RX5 = some m.cls := findClass_of_methodNamed B.named
  have hlocks := B.notSynchronized
  subst hsz
  have hD := hD0.self (sz := s.heap.size)
  have hA : ∀ q : Nat, s.heap.size ≤ q → va_A [(k6, .inr (4, [.ref m1, .ref m2, .ref m3, .ref m4, .ref m5, .int 0, .ref m6, .ref m7, .null, .null, .int 0, .int 0, .int 0, .int 0, .long 0, .int 0, .int 0, .int 0, .int 0])), (m7, .inl (G.2.1 0, 12, .inl (fun _ => 0)))] s.heap.size q := fun q h => Or.inr h
  have hP : va_P G.1 pCl [(k6, .inr (4, [.ref m1, .ref m2, .ref m3, .ref m4, .ref m5, .int 0, .ref m6, .ref m7, .null, .null, .int 0, .int 0, .int 0, .int 0, .long 0, .int 0, .int 0, .int 0, .int 0])), (m7, .inl (G.2.1 0, 12, .inl (fun _ => 0)))] s.heap := hP
  generalize va_A [(k6, .inr (4, [.ref m1, .ref m2, .ref m3, .ref m4, .ref m5, .int 0, .ref m6, .ref m7, .null, .null, .int 0, .int 0, .int 0, .int 0, .long 0, .int 0, .int 0, .int 0, .int 0])), (m7, .inl (G.2.1 0, 12, .inl (fun _ => 0)))] s.heap.size = A at hD hE hA ⊢
  have hS : va_S A s.heap s.heap [] := va_S.rf
  have hl := lv_entry ([.ref k6, .int x]) (n := 2) (Nat.le_of_ble_eq_true rfl)
  rw [lg_entry_eq]
  generalize (lg_sl ([.ref k6, .int x]) ++ List.replicate (2 - (lg_sl ([.ref k6, .int x])).length) Slot.unset).toArray = ls at hl ⊢
  have hl : lv_has ls 2 [(0, .ref k6), (1, .int x)] := hl
  refine lv_iload_n hx hb dX5_told_0 rfl (lv_at hl 1 rfl) ?_
  refine lv_iconst (v := 5) hx hb dX5_told_1 (by decide) ?_
  refine lv_icmp_lt (tgt := 20) hx hb dX5_told_2 (by decide) (fun c1 => ?_) (fun c1 => ?_)
  · refine lv_iconst (v := (-1)) hx hb dX5_told_20 (by decide) ?_
    refine W.widen (k := 0) (n := 0) (Nat.le_of_ble_eq_true rfl) (Nat.le_of_ble_eq_true rfl) ?_
    exact W.iret (v := (-1)) hx hb hr (fun t ht hW => ⟨⟨_, (), rfl, (by unfold tld; rw [if_pos (Or.inl c1)]), by rw [ht]; exact hP.sub [] rfl, hD.sub [] (by decide) rfl⟩, hS.F ht⟩) hS.2.2 dX5_told_21
  · refine lv_iload_n hx hb dX5_told_5 rfl (lv_at hl 1 rfl) ?_
    refine lv_bipush (v := 11) hx hb dX5_told_6 (by decide) ?_
    refine lv_icmp_gt (tgt := 20) hx hb dX5_told_8 (by decide) (fun c2 => ?_) (fun c2 => ?_)
    · refine lv_iconst (v := (-1)) hx hb dX5_told_20 (by decide) ?_
      refine W.widen (k := 0) (n := 0) (Nat.le_of_ble_eq_true rfl) (Nat.le_of_ble_eq_true rfl) ?_
      exact W.iret (v := (-1)) hx hb hr (fun t ht hW => ⟨⟨_, (), rfl, (by unfold tld; rw [if_pos (Or.inr c2)]), by rw [ht]; exact hP.sub [] rfl, hD.sub [] (by decide) rfl⟩, hS.F ht⟩) hS.2.2 dX5_told_21
    · refine lv_aload_n hx hb dX5_told_11 rfl (lv_at hl 0 rfl) ?_
      refine va_get (D := G.1) (ci := 4) (v := .ref m7) (C := RX5) (T := TX5) (N := 19) hx hb hq pin_wsX50 hown hE.1.1 hP 0 rfl rfl 7 (by decide) (hq _ pw_115) (fun _ h9 => h9) rfl dX5_told_12 ?_
      refine lv_iload_n hx hb dX5_told_15 rfl (lv_at hl 1 rfl) ?_
      refine va_iald hx hb hE.1.1 hP 1 0 rfl rfl (in12 c1 c2) dX5_told_16 ?_
      refine lv_topi (fun x3 e4 => ?_)
      obtain rfl : x3 = 0 := e4
      refine lv_goto (tgt := 21) hx hb dX5_told_17 (by decide) ?_
      refine W.widen (k := 0) (n := 0) (Nat.le_of_ble_eq_true rfl) (Nat.le_of_ble_eq_true rfl) ?_
      exact W.iret (v := 0) hx hb hr (fun t ht hW => ⟨⟨_, (), rfl, (by unfold tld; rw [if_neg (fun q => q.elim c1 c2)]), by rw [ht]; exact hP.sub [] rfl, hD.sub [] (by decide) rfl⟩, hS.F ht⟩) hS.2.2 dX5_told_21
theorem dX11_count_0 : decode cX11_count 0 = .ok (.iload_n 1, 1) := by decide +kernel
theorem dX11_count_1 : decode cX11_count 1 = .ok (.tableswitch 108 0 4 #[35, 40, 48, 67, 86], 35) := by decide +kernel
theorem dX11_count_36 : decode cX11_count 36 = .ok (.aload_n 0, 1) := by decide +kernel
theorem dX11_count_37 : decode cX11_count 37 = .ok (.getfield 54, 3) := by decide +kernel
theorem dX11_count_40 : decode cX11_count 40 = .ok (.ireturn, 1) := by decide +kernel
theorem dX11_count_41 : decode cX11_count 41 = .ok (.aload_n 0, 1) := by decide +kernel
theorem dX11_count_42 : decode cX11_count 42 = .ok (.getfield 50, 3) := by decide +kernel
theorem dX11_count_45 : decode cX11_count 45 = .ok (.getfield 163, 3) := by decide +kernel
theorem dX11_count_48 : decode cX11_count 48 = .ok (.ireturn, 1) := by decide +kernel
theorem dX11_count_49 : decode cX11_count 49 = .ok (.aload_n 0, 1) := by decide +kernel
theorem dX11_count_50 : decode cX11_count 50 = .ok (.getfield 69, 3) := by decide +kernel
theorem dX11_count_53 : decode cX11_count 53 = .ok (.ifnonnull 7, 3) := by decide +kernel
theorem dX11_count_56 : decode cX11_count 56 = .ok (.iconst 0, 1) := by decide +kernel
theorem dX11_count_57 : decode cX11_count 57 = .ok (.goto 10, 3) := by decide +kernel
theorem dX11_count_67 : decode cX11_count 67 = .ok (.ireturn, 1) := by decide +kernel
theorem dX11_count_68 : decode cX11_count 68 = .ok (.aload_n 0, 1) := by decide +kernel
theorem dX11_count_69 : decode cX11_count 69 = .ok (.getfield 69, 3) := by decide +kernel
theorem dX11_count_72 : decode cX11_count 72 = .ok (.ifnonnull 7, 3) := by decide +kernel
theorem dX11_count_75 : decode cX11_count 75 = .ok (.iconst 0, 1) := by decide +kernel
theorem dX11_count_76 : decode cX11_count 76 = .ok (.goto 10, 3) := by decide +kernel
theorem dX11_count_86 : decode cX11_count 86 = .ok (.ireturn, 1) := by decide +kernel
theorem dX11_count_87 : decode cX11_count 87 = .ok (.aload_n 0, 1) := by decide +kernel
theorem dX11_count_88 : decode cX11_count 88 = .ok (.getfield 69, 3) := by decide +kernel
theorem dX11_count_91 : decode cX11_count 91 = .ok (.ifnonnull 7, 3) := by decide +kernel
theorem dX11_count_94 : decode cX11_count 94 = .ok (.iconst 0, 1) := by decide +kernel
theorem dX11_count_95 : decode cX11_count 95 = .ok (.goto 13, 3) := by decide +kernel
theorem dX11_count_108 : decode cX11_count 108 = .ok (.ireturn, 1) := by decide +kernel
theorem dX11_count_109 : decode cX11_count 109 = .ok (.aload_n 0, 1) := by decide +kernel
theorem dX11_count_110 : decode cX11_count 110 = .ok (.getfield 50, 3) := by decide +kernel
theorem dX11_count_113 : decode cX11_count 113 = .ok (.iload_n 1, 1) := by decide +kernel
theorem dX11_count_114 : decode cX11_count 114 = .ok (.invokevirtual 198, 3) := by decide +kernel
theorem dX11_count_117 : decode cX11_count 117 = .ok (.ireturn, 1) := by decide +kernel
theorem hV_X5_told : yX5_told.cls = RX5 ∧ yX5_told.cls ≠ "java/lang/invoke/MethodHandle" ∧ yX5_told.cls ≠ "java/lang/invoke/VarHandle" ∧ (parseMethodDescriptor yX5_told.desc).map (fun d => d.parameters.length) = some 1 := by decide +kernel
set_option maxHeartbeats 1000000 in
set_option maxRecDepth 100000 in
/-- count(what) on a fresh object -/
theorem c_count (l : Launch) (G : pT) (h0 : Nat) (k1 : Nat) (k2 : Nat) (k3 : Nat) (k4 : Nat) (k5 : Nat) (k6 : Nat) (m1 : Nat) (m2 : Nat) (m3 : Nat) (m4 : Nat) (m5 : Nat) (m6 : Nat) (m7 : Nat) (x : Int32) : PM l G pX0 yX11_count cX11_count 2 (some .int) ({ frames := 3, cells := 0, slots := 0, locals := 81 }) [.ref h0, .int x] [(h0, .inr (8, [.ref k1, .int 0, .ref k2, .ref k3, .ref k4, .ref k5, .ref k6, .null])), (k6, .inr (4, [.ref m1, .ref m2, .ref m3, .ref m4, .ref m5, .int 0, .ref m6, .ref m7, .null, .null, .int 0, .int 0, .int 0, .int 0, .long 0, .int 0, .int 0, .int 0, .int 0])), (m7, .inl (G.2.1 0, 12, .inl (fun _ => 0)))] (fun (v : Option Value) (u : Unit) => v = some (.int (cnt x))) (fun u => []) := by
  intro sz
  refine Met.ofW (cc := cX11_count) (maxL := 2) (ret := (some .int)) (by decide) rfl ?_
  intro p e s m args below meth c s₁ B hml hv
  obtain ⟨rfl, hsz, hP, hD0, hE, hX⟩ := hv
  have hx := B.exec
  have hb := B.bytes
  have hr := B.returns
  have hts := atoms_spec (ws := Cond.code yX11_count cX11_count 2 (some .int) :: pw) B.pre
  have hq : ∀ w ∈ pw, w.before _ s = true := fun w h => hts w (List.mem_cons_of_mem _ h)
  have hown : s.vm.findClass RX11 = some m.cls := findClass_of_methodNamed B.named
  have hlocks := B.notSynchronized
  subst hsz
  have hD := hD0.self (sz := s.heap.size)
  have hA : ∀ q : Nat, s.heap.size ≤ q → va_A [(h0, .inr (8, [.ref k1, .int 0, .ref k2, .ref k3, .ref k4, .ref k5, .ref k6, .null])), (k6, .inr (4, [.ref m1, .ref m2, .ref m3, .ref m4, .ref m5, .int 0, .ref m6, .ref m7, .null, .null, .int 0, .int 0, .int 0, .int 0, .long 0, .int 0, .int 0, .int 0, .int 0])), (m7, .inl (G.2.1 0, 12, .inl (fun _ => 0)))] s.heap.size q := fun q h => Or.inr h
  have hP : va_P G.1 pCl [(h0, .inr (8, [.ref k1, .int 0, .ref k2, .ref k3, .ref k4, .ref k5, .ref k6, .null])), (k6, .inr (4, [.ref m1, .ref m2, .ref m3, .ref m4, .ref m5, .int 0, .ref m6, .ref m7, .null, .null, .int 0, .int 0, .int 0, .int 0, .long 0, .int 0, .int 0, .int 0, .int 0])), (m7, .inl (G.2.1 0, 12, .inl (fun _ => 0)))] s.heap := hP
  generalize va_A [(h0, .inr (8, [.ref k1, .int 0, .ref k2, .ref k3, .ref k4, .ref k5, .ref k6, .null])), (k6, .inr (4, [.ref m1, .ref m2, .ref m3, .ref m4, .ref m5, .int 0, .ref m6, .ref m7, .null, .null, .int 0, .int 0, .int 0, .int 0, .long 0, .int 0, .int 0, .int 0, .int 0])), (m7, .inl (G.2.1 0, 12, .inl (fun _ => 0)))] s.heap.size = A at hD hE hA ⊢
  have hS : va_S A s.heap s.heap [] := va_S.rf
  have hl := lv_entry ([.ref h0, .int x]) (n := 2) (Nat.le_of_ble_eq_true rfl)
  rw [lg_entry_eq]
  generalize (lg_sl ([.ref h0, .int x]) ++ List.replicate (2 - (lg_sl ([.ref h0, .int x])).length) Slot.unset).toArray = ls at hl ⊢
  have hl : lv_has ls 2 [(0, .ref h0), (1, .int x)] := hl
  refine lv_iload_n hx hb dX11_count_0 rfl (lv_at hl 1 rfl) ?_
  by_cases h1 : x = 0
  · subst h1
    refine lv_tableIn (tgt := 36) (off := 35) hx hb dX11_count_1 (by decide) (by decide) (by decide) (by decide) ?_
    refine lv_aload_n hx hb dX11_count_36 rfl (lv_at hl 0 rfl) ?_
    refine va_get (D := G.1) (ci := 8) (v := .int 0) (C := RX11) (T := TX11) (N := 8) hx hb hq pin_wsX110 hown hE.1.1 hP 0 rfl rfl 1 (by decide) (hq _ pw_17) (fun _ h9 => h9) rfl dX11_count_37 ?_
    refine W.widen (k := 0) (n := 0) (Nat.le_of_ble_eq_true rfl) (Nat.le_of_ble_eq_true rfl) ?_
    exact W.iret (v := 0) hx hb hr (fun t ht hW => ⟨⟨_, (), rfl, rfl, by rw [ht]; exact hP.sub [] rfl, hD.sub [] (by decide) rfl⟩, hS.F ht⟩) hS.2.2 dX11_count_40
  by_cases h2 : x = 1
  · subst h2
    refine lv_tableIn (tgt := 41) (off := 40) hx hb dX11_count_1 (by decide) (by decide) (by decide) (by decide) ?_
    refine lv_aload_n hx hb dX11_count_41 rfl (lv_at hl 0 rfl) ?_
    refine va_get (D := G.1) (ci := 8) (v := .ref k6) (C := RX11) (T := TX11) (N := 8) hx hb hq pin_wsX110 hown hE.1.1 hP 0 rfl rfl 6 (by decide) (hq _ pw_16) (fun _ h9 => h9) rfl dX11_count_42 ?_
    refine va_get (D := G.1) (ci := 4) (v := .int 0) (C := RX5) (T := TX5) (N := 19) hx hb hq pin_wsX50 hown hE.1.1 hP 1 rfl rfl 5 (by decide) (hq _ pw_40) (fun _ h9 => h9) rfl dX11_count_45 ?_
    refine W.widen (k := 0) (n := 0) (Nat.le_of_ble_eq_true rfl) (Nat.le_of_ble_eq_true rfl) ?_
    exact W.iret (v := 0) hx hb hr (fun t ht hW => ⟨⟨_, (), rfl, rfl, by rw [ht]; exact hP.sub [] rfl, hD.sub [] (by decide) rfl⟩, hS.F ht⟩) hS.2.2 dX11_count_48
  by_cases h3 : x = 2
  · subst h3
    refine lv_tableIn (tgt := 49) (off := 48) hx hb dX11_count_1 (by decide) (by decide) (by decide) (by decide) ?_
    refine lv_aload_n hx hb dX11_count_49 rfl (lv_at hl 0 rfl) ?_
    refine va_get (D := G.1) (ci := 8) (v := .null) (C := RX11) (T := TX11) (N := 8) hx hb hq pin_wsX110 hown hE.1.1 hP 0 rfl rfl 7 (by decide) (hq _ pw_21) (fun _ h9 => h9) rfl dX11_count_50 ?_
    refine lv_ifnonnullN hx hb dX11_count_53 ?_
    refine lv_iconst (v := 0) hx hb dX11_count_56 (by decide) ?_
    refine lv_goto (tgt := 67) hx hb dX11_count_57 (by decide) ?_
    refine W.widen (k := 0) (n := 0) (Nat.le_of_ble_eq_true rfl) (Nat.le_of_ble_eq_true rfl) ?_
    exact W.iret (v := 0) hx hb hr (fun t ht hW => ⟨⟨_, (), rfl, rfl, by rw [ht]; exact hP.sub [] rfl, hD.sub [] (by decide) rfl⟩, hS.F ht⟩) hS.2.2 dX11_count_67
  by_cases h4 : x = 3
  · subst h4
    refine lv_tableIn (tgt := 68) (off := 67) hx hb dX11_count_1 (by decide) (by decide) (by decide) (by decide) ?_
    refine lv_aload_n hx hb dX11_count_68 rfl (lv_at hl 0 rfl) ?_
    refine va_get (D := G.1) (ci := 8) (v := .null) (C := RX11) (T := TX11) (N := 8) hx hb hq pin_wsX110 hown hE.1.1 hP 0 rfl rfl 7 (by decide) (hq _ pw_21) (fun _ h9 => h9) rfl dX11_count_69 ?_
    refine lv_ifnonnullN hx hb dX11_count_72 ?_
    refine lv_iconst (v := 0) hx hb dX11_count_75 (by decide) ?_
    refine lv_goto (tgt := 86) hx hb dX11_count_76 (by decide) ?_
    refine W.widen (k := 0) (n := 0) (Nat.le_of_ble_eq_true rfl) (Nat.le_of_ble_eq_true rfl) ?_
    exact W.iret (v := 0) hx hb hr (fun t ht hW => ⟨⟨_, (), rfl, rfl, by rw [ht]; exact hP.sub [] rfl, hD.sub [] (by decide) rfl⟩, hS.F ht⟩) hS.2.2 dX11_count_86
  by_cases h5 : x = 4
  · subst h5
    refine lv_tableIn (tgt := 87) (off := 86) hx hb dX11_count_1 (by decide) (by decide) (by decide) (by decide) ?_
    refine lv_aload_n hx hb dX11_count_87 rfl (lv_at hl 0 rfl) ?_
    refine va_get (D := G.1) (ci := 8) (v := .null) (C := RX11) (T := TX11) (N := 8) hx hb hq pin_wsX110 hown hE.1.1 hP 0 rfl rfl 7 (by decide) (hq _ pw_21) (fun _ h9 => h9) rfl dX11_count_88 ?_
    refine lv_ifnonnullN hx hb dX11_count_91 ?_
    refine lv_iconst (v := 0) hx hb dX11_count_94 (by decide) ?_
    refine lv_goto (tgt := 108) hx hb dX11_count_95 (by decide) ?_
    refine W.widen (k := 0) (n := 0) (Nat.le_of_ble_eq_true rfl) (Nat.le_of_ble_eq_true rfl) ?_
    exact W.iret (v := 0) hx hb hr (fun t ht hW => ⟨⟨_, (), rfl, rfl, by rw [ht]; exact hP.sub [] rfl, hD.sub [] (by decide) rfl⟩, hS.F ht⟩) hS.2.2 dX11_count_108
  refine lv_tableOut (tgt := 109) hx hb dX11_count_1 (sw_out4 h1 h2 h3 h4 h5) (by decide) ?_
  refine lv_aload_n hx hb dX11_count_109 rfl (lv_at hl 0 rfl) ?_
  refine va_get (D := G.1) (ci := 8) (v := .ref k6) (C := RX11) (T := TX11) (N := 8) hx hb hq pin_wsX110 hown hE.1.1 hP 0 rfl rfl 6 (by decide) (hq _ pw_16) (fun _ h9 => h9) rfl dX11_count_110 ?_
  refine lv_iload_n hx hb dX11_count_113 rfl (lv_at hl 1 rfl) ?_
  refine pc_V (G := G) (As := [.int x]) (rest := []) (wr := [(h0, .inr (8, [.ref k1, .int 0, .ref k2, .ref k3, .ref k4, .ref k5, .ref k6, .null]))]) hx hb hml hown hq hE hX pX0_al hP hD hS hA hl.1 (c_told l G k6 m1 m2 m3 m4 m5 m6 m7 x) (gV pw_49 pw_471 pw_472 pw_463 pw_470) hV_X5_told 1 4 rfl rfl rfl [1, 2] [0] rfl rfl (by decide) (by decide) (by decide) rfl (Nat.le_of_ble_eq_true rfl) dX11_count_114 ⟨Nat.le_of_ble_eq_true rfl, Nat.le_of_ble_eq_true rfl⟩ ⟨Nat.le_of_ble_eq_true rfl, Nat.le_of_ble_eq_true rfl⟩ (fun v8 u6 H locs hw7 hP hD hS => ?_)
  obtain rfl : v8 = some (.int (tld x)) := hw7
  have hP : va_P G.1 pCl [(h0, .inr (8, [.ref k1, .int 0, .ref k2, .ref k3, .ref k4, .ref k5, .ref k6, .null]))] H := hP
  have hD : va_D A [(h0, .inr (8, [.ref k1, .int 0, .ref k2, .ref k3, .ref k4, .ref k5, .ref k6, .null]))] := hD
  refine W.widen (k := 0) (n := 0) (Nat.le_of_ble_eq_true rfl) (Nat.le_of_ble_eq_true rfl) ?_
  refine W.eq (g2 := F0 m 117 ls [.int (tld x)]) rfl ?_
  refine W.widen (k := 0) (n := 0) (Nat.le_of_ble_eq_true rfl) (Nat.le_of_ble_eq_true rfl) ?_
  exact W.iret (v := (tld x)) hx hb hr (fun t ht hW => ⟨⟨_, (), rfl, (by rw [tld_cnt h1 h2 h3 h4 h5]), by rw [ht]; exact hP.sub [] rfl, hD.sub [] (by decide) rfl⟩, hS.F ht⟩) hS.2.2 dX11_count_117

theorem dJ7_fill_53178_0 : decode cJ7_fill_53178 0 = .ok (.iconst 0, 1) := by decide +kernel
theorem dJ7_fill_53178_1 : decode cJ7_fill_53178 1 = .ok (.istore_n 2, 1) := by decide +kernel
theorem dJ7_fill_53178_2 : decode cJ7_fill_53178 2 = .ok (.aload_n 0, 1) := by decide +kernel
theorem dJ7_fill_53178_3 : decode cJ7_fill_53178 3 = .ok (.arraylength, 1) := by decide +kernel
theorem dJ7_fill_53178_4 : decode cJ7_fill_53178 4 = .ok (.istore_n 3, 1) := by decide +kernel
theorem dJ7_fill_53178_5 : decode cJ7_fill_53178 5 = .ok (.iload_n 2, 1) := by decide +kernel
theorem dJ7_fill_53178_6 : decode cJ7_fill_53178 6 = .ok (.iload_n 3, 1) := by decide +kernel
theorem dJ7_fill_53178_7 : decode cJ7_fill_53178 7 = .ok (.if_icmp .ge 13, 3) := by decide +kernel
theorem dJ7_fill_53178_20 : decode cJ7_fill_53178 20 = .ok (.return_, 1) := by decide +kernel
theorem dJ7_fill_53178_10 : decode cJ7_fill_53178 10 = .ok (.aload_n 0, 1) := by decide +kernel
theorem dJ7_fill_53178_11 : decode cJ7_fill_53178 11 = .ok (.iload_n 2, 1) := by decide +kernel
theorem dJ7_fill_53178_12 : decode cJ7_fill_53178 12 = .ok (.iload_n 1, 1) := by decide +kernel
theorem dJ7_fill_53178_13 : decode cJ7_fill_53178 13 = .ok (.iastore, 1) := by decide +kernel
theorem dJ7_fill_53178_14 : decode cJ7_fill_53178 14 = .ok (.iinc 2 1, 3) := by decide +kernel
theorem dJ7_fill_53178_17 : decode cJ7_fill_53178 17 = .ok (.goto (-12), 3) := by decide +kernel
set_option maxHeartbeats 1000000 in
set_option maxRecDepth 100000 in
/-- Arrays.fill of 256 -/
theorem c_fill_256 (l : Launch) (G : pT) (q : Nat) (f : Nat → Int32) (x : Int32) : PM l G pX0 yJ7_fill_53178 cJ7_fill_53178 4 none ({ frames := 2, cells := 0, slots := 0, locals := 60 }) [.ref q, .int x] [(q, .inl (G.2.1 0, 256, .inl f))] (fun (v : Option Value) (u : Nat → Int32) => v = none) (fun u => [(q, .inl (G.2.1 0, 256, .inl u))]) := by
  intro sz
  refine Met.ofW (cc := cJ7_fill_53178) (maxL := 4) (ret := none) (by decide) rfl ?_
  intro p e s m args below meth c s₁ B hml hv
  obtain ⟨rfl, hsz, hP, hD0, hE, hX⟩ := hv
  have hx := B.exec
  have hb := B.bytes
  have hr := B.returns
  have hts := atoms_spec (ws := Cond.code yJ7_fill_53178 cJ7_fill_53178 4 none :: pw) B.pre
  have hq : ∀ w ∈ pw, w.before _ s = true := fun w h => hts w (List.mem_cons_of_mem _ h)
  have hown : s.vm.findClass RJ7 = some m.cls := findClass_of_methodNamed B.named
  have hlocks := B.notSynchronized
  subst hsz
  have hD := hD0.self (sz := s.heap.size)
  have hA : ∀ q : Nat, s.heap.size ≤ q → va_A [(q, .inl (G.2.1 0, 256, .inl f))] s.heap.size q := fun q h => Or.inr h
  have hP : va_P G.1 pCl [(q, .inl (G.2.1 0, 256, .inl f))] s.heap := hP
  generalize va_A [(q, .inl (G.2.1 0, 256, .inl f))] s.heap.size = A at hD hE hA ⊢
  have hS : va_S A s.heap s.heap [] := va_S.rf
  have hl := lv_entry ([.ref q, .int x]) (n := 4) (Nat.le_of_ble_eq_true rfl)
  rw [lg_entry_eq]
  generalize (lg_sl ([.ref q, .int x]) ++ List.replicate (4 - (lg_sl ([.ref q, .int x])).length) Slot.unset).toArray = ls at hl ⊢
  have hl : lv_has ls 4 [(0, .ref q), (1, .int x)] := hl
  refine lv_iconst (v := 0) hx hb dJ7_fill_53178_0 (by decide) ?_
  refine lv_istore_n (lv' := [(2, .int 0), (0, .ref q), (1, .int x)]) hx hb dJ7_fill_53178_1 rfl hl (by decide) rfl (fun ls hl => ?_)
  refine lv_aload_n hx hb dJ7_fill_53178_2 rfl (lv_at hl 1 rfl) ?_
  refine va_alen (v := 256) hx hb hE.1.1 hP 0 0 rfl rfl (show Int32.ofNat 256 = 256 from by decide) dJ7_fill_53178_3 ?_
  refine lv_istore_n (lv' := [(3, .int 256), (2, .int 0), (0, .ref q), (1, .int x)]) hx hb dJ7_fill_53178_4 rfl hl (by decide) rfl (fun ls hl => ?_)
  have loop : ∀ (n k : Nat) (f1 : Nat → Int32) (H : Heap) (locs : List Loc) (ls : Array Slot), k ≤ 256 → 256 + 1 ≤ k + n → va_P G.1 pCl [(q, .inl (G.2.1 0, 256, .inl f1))] H → va_D A [(q, .inl (G.2.1 0, 256, .inl f1))] → va_S A s.heap H locs → lv_has ls 4 [(2, .int (nI k)), (3, .int 256), (0, .ref q), (1, .int x)] → W p l e (headSpec (Cond.code yJ7_fill_53178 cJ7_fill_53178 4 none :: pw) ({ frames := 2, cells := 0, slots := 0, locals := 60 } : Room)).room s m ([.ref q, .int x] : List Value).toArray below meth c H locs 0 0 (MQ below (pQ G A (fun (v : Option Value) (u : Nat → Int32) => v = none) (fun u => [(q, .inl (G.2.1 0, 256, .inl u))])) ([.ref q, .int x] : List Value).toArray s ({ frames := 2, cells := 0, slots := 0, locals := 60 } : Room).cells ({ frames := 2, cells := 0, slots := 0, locals := 60 } : Room).slots A) (F0 m 5 ls []) := by
    intro n
    induction n with
    | zero => intro k f1 H locs ls hk hn; omega
    | succ n ih =>
      intro k f1 H locs ls hk hn hP hD hS hl
      refine lv_iload_n hx hb dJ7_fill_53178_5 rfl (lv_at hl 0 rfl) ?_
      refine lv_iload_n hx hb dJ7_fill_53178_6 rfl (lv_at hl 1 rfl) ?_
      refine lv_icmp_ge (tgt := 20) hx hb dJ7_fill_53178_7 (by decide) (fun c2 => ?_) (fun c2 => ?_)
      · refine W.widen (k := 0) (n := 0) (Nat.le_of_ble_eq_true rfl) (Nat.le_of_ble_eq_true rfl) ?_
        exact W.vret hx hb hr (fun t ht hW => ⟨⟨_, f1, rfl, rfl, by rw [ht]; exact hP.sub [0] rfl, hD.sub [0] (by decide) rfl⟩, hS.F ht⟩) hS.2.2 dJ7_fill_53178_20
      · have hlt : k < 256 := Nat.lt_of_not_le (fun h => c2 (nI_le (a := 256) h (by omega)))
        refine lv_aload_n hx hb dJ7_fill_53178_10 rfl (lv_at hl 2 rfl) ?_
        refine lv_iload_n hx hb dJ7_fill_53178_11 rfl (lv_at hl 0 rfl) ?_
        refine lv_iload_n hx hb dJ7_fill_53178_12 rfl (lv_at hl 3 rfl) ?_
        refine va_iast hx hb hE.1.1 hP hD hS 0 0 rfl rfl (vp_in_nI hlt (by decide)) dJ7_fill_53178_13 (fun H locs hP hD hS => ?_)
        have hP : va_P G.1 pCl [(q, .inl (G.2.1 0, 256, .inl (upd f1 (Int32.toNatClampNeg (nI k)) x)))] H := hP
        have hD : va_D A [(q, .inl (G.2.1 0, 256, .inl (upd f1 (Int32.toNatClampNeg (nI k)) x)))] := hD
        generalize (upd f1 (Int32.toNatClampNeg (nI k)) x) = f3 at hP hD
        refine lv_iinc (v := (nI (k + 1))) (lv' := [(2, .int (nI (k + 1))), (3, .int 256), (0, .ref q), (1, .int x)]) hx hb dJ7_fill_53178_14 hl (k := 0) rfl (nI_1 k) (by decide) rfl (fun ls hl => ?_)
        refine lv_goto (tgt := 5) hx hb dJ7_fill_53178_17 (by decide) ?_
        exact ih (k + 1) f3 _ _ _ (by omega) (by omega) hP hD hS (lv_sub hl [0, 1, 2, 3] rfl)
  exact loop (256 + 1) 0 f _ _ _ (Nat.zero_le _) (by omega) hP hD hS (lv_sub hl [1, 0, 2, 3] rfl)
set_option maxHeartbeats 1000000 in
set_option maxRecDepth 100000 in
/-- Arrays.fill of 12 -/
theorem c_fill_12 (l : Launch) (G : pT) (q : Nat) (f : Nat → Int32) (x : Int32) : PM l G pX0 yJ7_fill_53178 cJ7_fill_53178 4 none ({ frames := 2, cells := 0, slots := 0, locals := 60 }) [.ref q, .int x] [(q, .inl (G.2.1 0, 12, .inl f))] (fun (v : Option Value) (u : Nat → Int32) => v = none) (fun u => [(q, .inl (G.2.1 0, 12, .inl u))]) := by
  intro sz
  refine Met.ofW (cc := cJ7_fill_53178) (maxL := 4) (ret := none) (by decide) rfl ?_
  intro p e s m args below meth c s₁ B hml hv
  obtain ⟨rfl, hsz, hP, hD0, hE, hX⟩ := hv
  have hx := B.exec
  have hb := B.bytes
  have hr := B.returns
  have hts := atoms_spec (ws := Cond.code yJ7_fill_53178 cJ7_fill_53178 4 none :: pw) B.pre
  have hq : ∀ w ∈ pw, w.before _ s = true := fun w h => hts w (List.mem_cons_of_mem _ h)
  have hown : s.vm.findClass RJ7 = some m.cls := findClass_of_methodNamed B.named
  have hlocks := B.notSynchronized
  subst hsz
  have hD := hD0.self (sz := s.heap.size)
  have hA : ∀ q : Nat, s.heap.size ≤ q → va_A [(q, .inl (G.2.1 0, 12, .inl f))] s.heap.size q := fun q h => Or.inr h
  have hP : va_P G.1 pCl [(q, .inl (G.2.1 0, 12, .inl f))] s.heap := hP
  generalize va_A [(q, .inl (G.2.1 0, 12, .inl f))] s.heap.size = A at hD hE hA ⊢
  have hS : va_S A s.heap s.heap [] := va_S.rf
  have hl := lv_entry ([.ref q, .int x]) (n := 4) (Nat.le_of_ble_eq_true rfl)
  rw [lg_entry_eq]
  generalize (lg_sl ([.ref q, .int x]) ++ List.replicate (4 - (lg_sl ([.ref q, .int x])).length) Slot.unset).toArray = ls at hl ⊢
  have hl : lv_has ls 4 [(0, .ref q), (1, .int x)] := hl
  refine lv_iconst (v := 0) hx hb dJ7_fill_53178_0 (by decide) ?_
  refine lv_istore_n (lv' := [(2, .int 0), (0, .ref q), (1, .int x)]) hx hb dJ7_fill_53178_1 rfl hl (by decide) rfl (fun ls hl => ?_)
  refine lv_aload_n hx hb dJ7_fill_53178_2 rfl (lv_at hl 1 rfl) ?_
  refine va_alen (v := 12) hx hb hE.1.1 hP 0 0 rfl rfl (show Int32.ofNat 12 = 12 from by decide) dJ7_fill_53178_3 ?_
  refine lv_istore_n (lv' := [(3, .int 12), (2, .int 0), (0, .ref q), (1, .int x)]) hx hb dJ7_fill_53178_4 rfl hl (by decide) rfl (fun ls hl => ?_)
  have loop : ∀ (n k : Nat) (f1 : Nat → Int32) (H : Heap) (locs : List Loc) (ls : Array Slot), k ≤ 12 → 12 + 1 ≤ k + n → va_P G.1 pCl [(q, .inl (G.2.1 0, 12, .inl f1))] H → va_D A [(q, .inl (G.2.1 0, 12, .inl f1))] → va_S A s.heap H locs → lv_has ls 4 [(2, .int (nI k)), (3, .int 12), (0, .ref q), (1, .int x)] → W p l e (headSpec (Cond.code yJ7_fill_53178 cJ7_fill_53178 4 none :: pw) ({ frames := 2, cells := 0, slots := 0, locals := 60 } : Room)).room s m ([.ref q, .int x] : List Value).toArray below meth c H locs 0 0 (MQ below (pQ G A (fun (v : Option Value) (u : Nat → Int32) => v = none) (fun u => [(q, .inl (G.2.1 0, 12, .inl u))])) ([.ref q, .int x] : List Value).toArray s ({ frames := 2, cells := 0, slots := 0, locals := 60 } : Room).cells ({ frames := 2, cells := 0, slots := 0, locals := 60 } : Room).slots A) (F0 m 5 ls []) := by
    intro n
    induction n with
    | zero => intro k f1 H locs ls hk hn; omega
    | succ n ih =>
      intro k f1 H locs ls hk hn hP hD hS hl
      refine lv_iload_n hx hb dJ7_fill_53178_5 rfl (lv_at hl 0 rfl) ?_
      refine lv_iload_n hx hb dJ7_fill_53178_6 rfl (lv_at hl 1 rfl) ?_
      refine lv_icmp_ge (tgt := 20) hx hb dJ7_fill_53178_7 (by decide) (fun c2 => ?_) (fun c2 => ?_)
      · refine W.widen (k := 0) (n := 0) (Nat.le_of_ble_eq_true rfl) (Nat.le_of_ble_eq_true rfl) ?_
        exact W.vret hx hb hr (fun t ht hW => ⟨⟨_, f1, rfl, rfl, by rw [ht]; exact hP.sub [0] rfl, hD.sub [0] (by decide) rfl⟩, hS.F ht⟩) hS.2.2 dJ7_fill_53178_20
      · have hlt : k < 12 := Nat.lt_of_not_le (fun h => c2 (nI_le (a := 12) h (by omega)))
        refine lv_aload_n hx hb dJ7_fill_53178_10 rfl (lv_at hl 2 rfl) ?_
        refine lv_iload_n hx hb dJ7_fill_53178_11 rfl (lv_at hl 0 rfl) ?_
        refine lv_iload_n hx hb dJ7_fill_53178_12 rfl (lv_at hl 3 rfl) ?_
        refine va_iast hx hb hE.1.1 hP hD hS 0 0 rfl rfl (vp_in_nI hlt (by decide)) dJ7_fill_53178_13 (fun H locs hP hD hS => ?_)
        have hP : va_P G.1 pCl [(q, .inl (G.2.1 0, 12, .inl (upd f1 (Int32.toNatClampNeg (nI k)) x)))] H := hP
        have hD : va_D A [(q, .inl (G.2.1 0, 12, .inl (upd f1 (Int32.toNatClampNeg (nI k)) x)))] := hD
        generalize (upd f1 (Int32.toNatClampNeg (nI k)) x) = f3 at hP hD
        refine lv_iinc (v := (nI (k + 1))) (lv' := [(2, .int (nI (k + 1))), (3, .int 12), (0, .ref q), (1, .int x)]) hx hb dJ7_fill_53178_14 hl (k := 0) rfl (nI_1 k) (by decide) rfl (fun ls hl => ?_)
        refine lv_goto (tgt := 5) hx hb dJ7_fill_53178_17 (by decide) ?_
        exact ih (k + 1) f3 _ _ _ (by omega) (by omega) hP hD hS (lv_sub hl [0, 1, 2, 3] rfl)
  exact loop (12 + 1) 0 f _ _ _ (Nat.zero_le _) (by omega) hP hD hS (lv_sub hl [1, 0, 2, 3] rfl)
theorem dX5_clear_0 : decode cX5_clear 0 = .ok (.aload_n 0, 1) := by decide +kernel
theorem dX5_clear_1 : decode cX5_clear 1 = .ok (.getfield 36, 3) := by decide +kernel
theorem dX5_clear_4 : decode cX5_clear 4 = .ok (.iconst 0, 1) := by decide +kernel
theorem dX5_clear_5 : decode cX5_clear 5 = .ok (.invokestatic 84, 3) := by decide +kernel
theorem dX5_clear_8 : decode cX5_clear 8 = .ok (.aload_n 0, 1) := by decide +kernel
theorem dX5_clear_9 : decode cX5_clear 9 = .ok (.lconst 0, 1) := by decide +kernel
theorem dX5_clear_10 : decode cX5_clear 10 = .ok (.putfield 43, 3) := by decide +kernel
theorem dX5_clear_13 : decode cX5_clear 13 = .ok (.aload_n 0, 1) := by decide +kernel
theorem dX5_clear_14 : decode cX5_clear 14 = .ok (.iconst 0, 1) := by decide +kernel
theorem dX5_clear_15 : decode cX5_clear 15 = .ok (.putfield 90, 3) := by decide +kernel
theorem dX5_clear_18 : decode cX5_clear 18 = .ok (.aload_n 0, 1) := by decide +kernel
theorem dX5_clear_19 : decode cX5_clear 19 = .ok (.iconst 0, 1) := by decide +kernel
theorem dX5_clear_20 : decode cX5_clear 20 = .ok (.putfield 93, 3) := by decide +kernel
theorem dX5_clear_23 : decode cX5_clear 23 = .ok (.aload_n 0, 1) := by decide +kernel
theorem dX5_clear_24 : decode cX5_clear 24 = .ok (.aconst_null, 1) := by decide +kernel
theorem dX5_clear_25 : decode cX5_clear 25 = .ok (.putfield 96, 3) := by decide +kernel
theorem dX5_clear_28 : decode cX5_clear 28 = .ok (.aload_n 0, 1) := by decide +kernel
theorem dX5_clear_29 : decode cX5_clear 29 = .ok (.iconst 0, 1) := by decide +kernel
theorem dX5_clear_30 : decode cX5_clear 30 = .ok (.putfield 100, 3) := by decide +kernel
theorem dX5_clear_33 : decode cX5_clear 33 = .ok (.aload_n 0, 1) := by decide +kernel
theorem dX5_clear_34 : decode cX5_clear 34 = .ok (.iconst 0, 1) := by decide +kernel
theorem dX5_clear_35 : decode cX5_clear 35 = .ok (.putfield 103, 3) := by decide +kernel
theorem dX5_clear_38 : decode cX5_clear 38 = .ok (.aload_n 0, 1) := by decide +kernel
theorem dX5_clear_39 : decode cX5_clear 39 = .ok (.iconst 0, 1) := by decide +kernel
theorem dX5_clear_40 : decode cX5_clear 40 = .ok (.putfield 106, 3) := by decide +kernel
theorem dX5_clear_43 : decode cX5_clear 43 = .ok (.return_, 1) := by decide +kernel
theorem hS_J7_fill_53178 : yJ7_fill_53178.cls ≠ "java/lang/invoke/MethodHandle" ∧ yJ7_fill_53178.cls ≠ "java/lang/invoke/VarHandle" ∧ (parseMethodDescriptor yJ7_fill_53178.desc).map (fun d => d.parameters.length) = some 2 := by decide +kernel
set_option maxHeartbeats 1000000 in
set_option maxRecDepth 100000 in
/-- clear -/
theorem c_clear (l : Launch) (G : pT) (k6 : Nat) (m1 : Nat) (m2 : Nat) (m3 : Nat) (m4 : Nat) (m5 : Nat) (m6 : Nat) (m7 : Nat) (f : Nat → Int32) : PM l G pX0 yX5_clear cX5_clear 1 none ({ frames := 3, cells := 0, slots := 0, locals := 83 }) [.ref k6] [(k6, .inr (4, [.ref m1, .ref m2, .ref m3, .ref m4, .ref m5, .int 0, .ref m6, .ref m7, .null, .null, .int 0, .int 0, .int 0, .int 0, .long 0, .int 0, .int 0, .int 0, .int 0])), (m7, .inl (G.2.1 0, 12, .inl f))] (fun (v : Option Value) (u : (Nat → Nat) × (Nat → Nat → Int32) × (Nat → Nat → Int64)) => v = none) (fun u => [(k6, .inr (4, [.ref m1, .ref m2, .ref m3, .ref m4, .ref m5, .int 0, .ref m6, .ref m7, .null, .null, .int 0, .int 0, .int 0, .int 0, .long 0, .int 0, .int 0, .int 0, .int 0])), (m7, .inl (G.2.1 0, 12, .inl (u.2.1 0)))]) := by
  intro sz
  refine Met.ofW (cc := cX5_clear) (maxL := 1) (ret := none) (by decide) rfl ?_
  intro p e s m args below meth c s₁ B hml hv
  obtain ⟨rfl, hsz, hP, hD0, hE, hX⟩ := hv
  have hx := B.exec
  have hb := B.bytes
  have hr := B.returns
  have hts := atoms_spec (ws := Cond.code yX5_clear cX5_clear 1 none :: pw) B.pre
  have hq : ∀ w ∈ pw, w.before _ s = true := fun w h => hts w (List.mem_cons_of_mem _ h)
  have hown : s.vm.findClass RX5 = some m.cls := findClass_of_methodNamed B.named
  have hlocks := B.notSynchronized
  subst hsz
  have hD := hD0.self (sz := s.heap.size)
  have hA : ∀ q : Nat, s.heap.size ≤ q → va_A [(k6, .inr (4, [.ref m1, .ref m2, .ref m3, .ref m4, .ref m5, .int 0, .ref m6, .ref m7, .null, .null, .int 0, .int 0, .int 0, .int 0, .long 0, .int 0, .int 0, .int 0, .int 0])), (m7, .inl (G.2.1 0, 12, .inl f))] s.heap.size q := fun q h => Or.inr h
  have hP : va_P G.1 pCl [(k6, .inr (4, [.ref m1, .ref m2, .ref m3, .ref m4, .ref m5, .int 0, .ref m6, .ref m7, .null, .null, .int 0, .int 0, .int 0, .int 0, .long 0, .int 0, .int 0, .int 0, .int 0])), (m7, .inl (G.2.1 0, 12, .inl f))] s.heap := hP
  generalize va_A [(k6, .inr (4, [.ref m1, .ref m2, .ref m3, .ref m4, .ref m5, .int 0, .ref m6, .ref m7, .null, .null, .int 0, .int 0, .int 0, .int 0, .long 0, .int 0, .int 0, .int 0, .int 0])), (m7, .inl (G.2.1 0, 12, .inl f))] s.heap.size = A at hD hE hA ⊢
  have hS : va_S A s.heap s.heap [] := va_S.rf
  have hl := lv_entry ([.ref k6]) (n := 1) (Nat.le_of_ble_eq_true rfl)
  rw [lg_entry_eq]
  generalize (lg_sl ([.ref k6]) ++ List.replicate (1 - (lg_sl ([.ref k6])).length) Slot.unset).toArray = ls at hl ⊢
  have hl : lv_has ls 1 [(0, .ref k6)] := hl
  refine lv_aload_n hx hb dX5_clear_0 rfl (lv_at hl 0 rfl) ?_
  refine va_get (D := G.1) (ci := 4) (v := .ref m7) (C := RX5) (T := TX5) (N := 19) hx hb hq pin_wsX50 hown hE.1.1 hP 0 rfl rfl 7 (by decide) (hq _ pw_115) (fun _ h9 => h9) rfl dX5_clear_1 ?_
  refine lv_iconst (v := 0) hx hb dX5_clear_4 (by decide) ?_
  refine pc_S (G := G) (As := [.ref m7, .int 0]) (rest := []) (wr := [(k6, .inr (4, [.ref m1, .ref m2, .ref m3, .ref m4, .ref m5, .int 0, .ref m6, .ref m7, .null, .null, .int 0, .int 0, .int 0, .int 0, .long 0, .int 0, .int 0, .int 0, .int 0]))]) hx hb hml hown hq hE hX pX0_al hP hD hS hA hl.1 (c_fill_12 l G m7 f 0) (gS pw_122 pw_629 pw_630 pw_628) hS_J7_fill_53178 [1] [0] rfl rfl (by decide) (by decide) (by decide) rfl (Nat.le_of_ble_eq_true rfl) dX5_clear_5 ⟨Nat.le_of_ble_eq_true rfl, Nat.le_of_ble_eq_true rfl⟩ ⟨Nat.le_of_ble_eq_true rfl, Nat.le_of_ble_eq_true rfl⟩ (fun v3 f1 H locs hw2 hP hD hS => ?_)
  obtain rfl : v3 = none := hw2
  have hP : va_P G.1 pCl [(k6, .inr (4, [.ref m1, .ref m2, .ref m3, .ref m4, .ref m5, .int 0, .ref m6, .ref m7, .null, .null, .int 0, .int 0, .int 0, .int 0, .long 0, .int 0, .int 0, .int 0, .int 0])), (m7, .inl (G.2.1 0, 12, .inl f1))] H := hP
  have hD : va_D A [(k6, .inr (4, [.ref m1, .ref m2, .ref m3, .ref m4, .ref m5, .int 0, .ref m6, .ref m7, .null, .null, .int 0, .int 0, .int 0, .int 0, .long 0, .int 0, .int 0, .int 0, .int 0])), (m7, .inl (G.2.1 0, 12, .inl f1))] := hD
  refine W.widen (k := 0) (n := 0) (Nat.le_of_ble_eq_true rfl) (Nat.le_of_ble_eq_true rfl) ?_
  refine W.eq (g2 := F0 m 8 ls []) rfl ?_
  refine lv_aload_n hx hb dX5_clear_8 rfl (lv_at hl 0 rfl) ?_
  refine lv_lconst (v := 0) hx hb dX5_clear_9 (by decide) ?_
  refine va_put (D := G.1) (ci := 4) (v := .long 0) (ty := .long) (C := RX5) (T := TX5) (N := 19) hx hb hq pin_wsX50 tyX5 tyX5_ok nmX5 hown hE.1.1 hP hD hS 0 rfl rfl 14 (by decide) (hq _ pw_117) (fun _ h9 => h9) rfl (by decide +kernel) rfl rfl (Nat.le_of_ble_eq_true rfl) dX5_clear_10 (fun H locs hP hD hS => ?_)
  have hP : va_P G.1 pCl [(k6, .inr (4, [.ref m1, .ref m2, .ref m3, .ref m4, .ref m5, .int 0, .ref m6, .ref m7, .null, .null, .int 0, .int 0, .int 0, .int 0, .long 0, .int 0, .int 0, .int 0, .int 0])), (m7, .inl (G.2.1 0, 12, .inl f1))] H := hP
  have hD : va_D A [(k6, .inr (4, [.ref m1, .ref m2, .ref m3, .ref m4, .ref m5, .int 0, .ref m6, .ref m7, .null, .null, .int 0, .int 0, .int 0, .int 0, .long 0, .int 0, .int 0, .int 0, .int 0])), (m7, .inl (G.2.1 0, 12, .inl f1))] := hD
  refine lv_aload_n hx hb dX5_clear_13 rfl (lv_at hl 0 rfl) ?_
  refine lv_iconst (v := 0) hx hb dX5_clear_14 (by decide) ?_
  refine va_put (D := G.1) (ci := 4) (v := .int 0) (ty := .int) (C := RX5) (T := TX5) (N := 19) hx hb hq pin_wsX50 tyX5 tyX5_ok nmX5 hown hE.1.1 hP hD hS 0 rfl rfl 17 (by decide) (hq _ pw_123) (fun _ h9 => h9) rfl (by decide +kernel) rfl rfl (Nat.le_of_ble_eq_true rfl) dX5_clear_15 (fun H locs hP hD hS => ?_)
  have hP : va_P G.1 pCl [(k6, .inr (4, [.ref m1, .ref m2, .ref m3, .ref m4, .ref m5, .int 0, .ref m6, .ref m7, .null, .null, .int 0, .int 0, .int 0, .int 0, .long 0, .int 0, .int 0, .int 0, .int 0])), (m7, .inl (G.2.1 0, 12, .inl f1))] H := hP
  have hD : va_D A [(k6, .inr (4, [.ref m1, .ref m2, .ref m3, .ref m4, .ref m5, .int 0, .ref m6, .ref m7, .null, .null, .int 0, .int 0, .int 0, .int 0, .long 0, .int 0, .int 0, .int 0, .int 0])), (m7, .inl (G.2.1 0, 12, .inl f1))] := hD
  refine lv_aload_n hx hb dX5_clear_18 rfl (lv_at hl 0 rfl) ?_
  refine lv_iconst (v := 0) hx hb dX5_clear_19 (by decide) ?_
  refine va_put (D := G.1) (ci := 4) (v := .int 0) (ty := .int) (C := RX5) (T := TX5) (N := 19) hx hb hq pin_wsX50 tyX5 tyX5_ok nmX5 hown hE.1.1 hP hD hS 0 rfl rfl 15 (by decide) (hq _ pw_124) (fun _ h9 => h9) rfl (by decide +kernel) rfl rfl (Nat.le_of_ble_eq_true rfl) dX5_clear_20 (fun H locs hP hD hS => ?_)
  have hP : va_P G.1 pCl [(k6, .inr (4, [.ref m1, .ref m2, .ref m3, .ref m4, .ref m5, .int 0, .ref m6, .ref m7, .null, .null, .int 0, .int 0, .int 0, .int 0, .long 0, .int 0, .int 0, .int 0, .int 0])), (m7, .inl (G.2.1 0, 12, .inl f1))] H := hP
  have hD : va_D A [(k6, .inr (4, [.ref m1, .ref m2, .ref m3, .ref m4, .ref m5, .int 0, .ref m6, .ref m7, .null, .null, .int 0, .int 0, .int 0, .int 0, .long 0, .int 0, .int 0, .int 0, .int 0])), (m7, .inl (G.2.1 0, 12, .inl f1))] := hD
  refine lv_aload_n hx hb dX5_clear_23 rfl (lv_at hl 0 rfl) ?_
  refine lv_null hx hb dX5_clear_24 ?_
  refine va_put (D := G.1) (ci := 4) (v := .null) (ty := (.object "JinjaTongue$Method")) (C := RX5) (T := TX5) (N := 19) hx hb hq pin_wsX50 tyX5 tyX5_ok nmX5 hown hE.1.1 hP hD hS 0 rfl rfl 9 (by decide) (hq _ pw_125) (fun _ h9 => h9) rfl (by decide +kernel) rfl rfl (Nat.le_of_ble_eq_true rfl) dX5_clear_25 (fun H locs hP hD hS => ?_)
  have hP : va_P G.1 pCl [(k6, .inr (4, [.ref m1, .ref m2, .ref m3, .ref m4, .ref m5, .int 0, .ref m6, .ref m7, .null, .null, .int 0, .int 0, .int 0, .int 0, .long 0, .int 0, .int 0, .int 0, .int 0])), (m7, .inl (G.2.1 0, 12, .inl f1))] H := hP
  have hD : va_D A [(k6, .inr (4, [.ref m1, .ref m2, .ref m3, .ref m4, .ref m5, .int 0, .ref m6, .ref m7, .null, .null, .int 0, .int 0, .int 0, .int 0, .long 0, .int 0, .int 0, .int 0, .int 0])), (m7, .inl (G.2.1 0, 12, .inl f1))] := hD
  refine lv_aload_n hx hb dX5_clear_28 rfl (lv_at hl 0 rfl) ?_
  refine lv_iconst (v := 0) hx hb dX5_clear_29 (by decide) ?_
  refine va_put (D := G.1) (ci := 4) (v := .int 0) (ty := .int) (C := RX5) (T := TX5) (N := 19) hx hb hq pin_wsX50 tyX5 tyX5_ok nmX5 hown hE.1.1 hP hD hS 0 rfl rfl 10 (by decide) (hq _ pw_126) (fun _ h9 => h9) rfl (by decide +kernel) rfl rfl (Nat.le_of_ble_eq_true rfl) dX5_clear_30 (fun H locs hP hD hS => ?_)
  have hP : va_P G.1 pCl [(k6, .inr (4, [.ref m1, .ref m2, .ref m3, .ref m4, .ref m5, .int 0, .ref m6, .ref m7, .null, .null, .int 0, .int 0, .int 0, .int 0, .long 0, .int 0, .int 0, .int 0, .int 0])), (m7, .inl (G.2.1 0, 12, .inl f1))] H := hP
  have hD : va_D A [(k6, .inr (4, [.ref m1, .ref m2, .ref m3, .ref m4, .ref m5, .int 0, .ref m6, .ref m7, .null, .null, .int 0, .int 0, .int 0, .int 0, .long 0, .int 0, .int 0, .int 0, .int 0])), (m7, .inl (G.2.1 0, 12, .inl f1))] := hD
  refine lv_aload_n hx hb dX5_clear_33 rfl (lv_at hl 0 rfl) ?_
  refine lv_iconst (v := 0) hx hb dX5_clear_34 (by decide) ?_
  refine va_put (D := G.1) (ci := 4) (v := .int 0) (ty := .int) (C := RX5) (T := TX5) (N := 19) hx hb hq pin_wsX50 tyX5 tyX5_ok nmX5 hown hE.1.1 hP hD hS 0 rfl rfl 11 (by decide) (hq _ pw_127) (fun _ h9 => h9) rfl (by decide +kernel) rfl rfl (Nat.le_of_ble_eq_true rfl) dX5_clear_35 (fun H locs hP hD hS => ?_)
  have hP : va_P G.1 pCl [(k6, .inr (4, [.ref m1, .ref m2, .ref m3, .ref m4, .ref m5, .int 0, .ref m6, .ref m7, .null, .null, .int 0, .int 0, .int 0, .int 0, .long 0, .int 0, .int 0, .int 0, .int 0])), (m7, .inl (G.2.1 0, 12, .inl f1))] H := hP
  have hD : va_D A [(k6, .inr (4, [.ref m1, .ref m2, .ref m3, .ref m4, .ref m5, .int 0, .ref m6, .ref m7, .null, .null, .int 0, .int 0, .int 0, .int 0, .long 0, .int 0, .int 0, .int 0, .int 0])), (m7, .inl (G.2.1 0, 12, .inl f1))] := hD
  refine lv_aload_n hx hb dX5_clear_38 rfl (lv_at hl 0 rfl) ?_
  refine lv_iconst (v := 0) hx hb dX5_clear_39 (by decide) ?_
  refine va_put (D := G.1) (ci := 4) (v := .int 0) (ty := .int) (C := RX5) (T := TX5) (N := 19) hx hb hq pin_wsX50 tyX5 tyX5_ok nmX5 hown hE.1.1 hP hD hS 0 rfl rfl 12 (by decide) (hq _ pw_128) (fun _ h9 => h9) rfl (by decide +kernel) rfl rfl (Nat.le_of_ble_eq_true rfl) dX5_clear_40 (fun H locs hP hD hS => ?_)
  have hP : va_P G.1 pCl [(k6, .inr (4, [.ref m1, .ref m2, .ref m3, .ref m4, .ref m5, .int 0, .ref m6, .ref m7, .null, .null, .int 0, .int 0, .int 0, .int 0, .long 0, .int 0, .int 0, .int 0, .int 0])), (m7, .inl (G.2.1 0, 12, .inl f1))] H := hP
  have hD : va_D A [(k6, .inr (4, [.ref m1, .ref m2, .ref m3, .ref m4, .ref m5, .int 0, .ref m6, .ref m7, .null, .null, .int 0, .int 0, .int 0, .int 0, .long 0, .int 0, .int 0, .int 0, .int 0])), (m7, .inl (G.2.1 0, 12, .inl f1))] := hD
  refine W.widen (k := 0) (n := 0) (Nat.le_of_ble_eq_true rfl) (Nat.le_of_ble_eq_true rfl) ?_
  exact W.vret hx hb hr (fun t ht hW => ⟨⟨_, ((fun _ => 0), (fun k => match k with | _ => f1), (fun _ => fun _ => 0)), rfl, rfl, by rw [ht]; exact hP.sub [0, 1] rfl, hD.sub [0, 1] (by decide) rfl⟩, hS.F ht⟩) hS.2.2 dX5_clear_43
theorem dJxa1e45_init_da8c8_0 : decode cJxa1e45_init_da8c8 0 = .ok (.aload_n 0, 1) := by decide +kernel
theorem dJxa1e45_init_da8c8_1 : decode cJxa1e45_init_da8c8 1 = .ok (.invokespecial 1, 3) := by decide +kernel
theorem dJxa1e45_init_da8c8_4 : decode cJxa1e45_init_da8c8 4 = .ok (.return_, 1) := by decide +kernel
set_option maxHeartbeats 1000000 in
set_option maxRecDepth 100000 in
/-- AbstractCollection() of a list -/
theorem c_ACol_init (l : Launch) (G : pT) (h0 : Nat) : PM l G pX0 yJxa1e45_init_da8c8 cJxa1e45_init_da8c8 1 none ({ frames := 2, cells := 0, slots := 0, locals := 60 }) [.ref h0] [(h0, .inr (10, [.int 0, .null, .int 0]))] (fun (v : Option Value) (u : (Nat → Nat) × (Nat → Nat → Int32) × (Nat → Nat → Int64)) => v = none) (fun u => [(h0, .inr (10, [.int 0, .null, .int 0]))]) := by
  intro sz
  refine Met.ofW (cc := cJxa1e45_init_da8c8) (maxL := 1) (ret := none) (by decide) rfl ?_
  intro p e s m args below meth c s₁ B hml hv
  obtain ⟨rfl, hsz, hP, hD0, hE, hX⟩ := hv
  have hx := B.exec
  have hb := B.bytes
  have hr := B.returns
  have hts := atoms_spec (ws := Cond.code yJxa1e45_init_da8c8 cJxa1e45_init_da8c8 1 none :: pw) B.pre
  have hq : ∀ w ∈ pw, w.before _ s = true := fun w h => hts w (List.mem_cons_of_mem _ h)
  have hown : s.vm.findClass RJxa1e45 = some m.cls := findClass_of_methodNamed B.named
  have hlocks := B.notSynchronized
  have hin : meth.name = "<init>" := (name_of_methodNamed B.named B.method).1
  subst hsz
  have hD := hD0.self (sz := s.heap.size)
  have hA : ∀ q : Nat, s.heap.size ≤ q → va_A [(h0, .inr (10, [.int 0, .null, .int 0]))] s.heap.size q := fun q h => Or.inr h
  have hP : va_P G.1 pCl [(h0, .inr (10, [.int 0, .null, .int 0]))] s.heap := hP
  generalize va_A [(h0, .inr (10, [.int 0, .null, .int 0]))] s.heap.size = A at hD hE hA ⊢
  have hS : va_S A s.heap s.heap [] := va_S.rf
  have hl := lv_entry ([.ref h0]) (n := 1) (Nat.le_of_ble_eq_true rfl)
  rw [lg_entry_eq]
  generalize (lg_sl ([.ref h0]) ++ List.replicate (1 - (lg_sl ([.ref h0])).length) Slot.unset).toArray = ls at hl ⊢
  have hl : lv_has ls 1 [(0, .ref h0)] := hl
  refine lv_aload_n hx hb dJxa1e45_init_da8c8_0 rfl (lv_at hl 0 rfl) ?_
  refine W.objInit hx hb hown (hq _ pw_331) (hq _ pw_634) (hq _ pw_635) rfl (by rw [hml]; exact hl.1) rfl dJxa1e45_init_da8c8_1 (Nat.le_of_ble_eq_true rfl) (Nat.le_of_ble_eq_true rfl) ?_
  refine W.eq (g2 := F0 m 4 ls []) rfl ?_
  refine W.widen (k := 0) (n := 0) (Nat.le_of_ble_eq_true rfl) (Nat.le_of_ble_eq_true rfl) ?_
  exact W.vret hx hb hr (fun t ht hW => ⟨⟨_, ((fun _ => 0), (fun _ => fun _ => 0), (fun _ => fun _ => 0)), rfl, rfl, by rw [ht]; exact hP.sub [0] rfl, hD.sub [0] (by decide) rfl⟩, hS.F ht⟩) hS.2.2 dJxa1e45_init_da8c8_4
theorem dJxc12de_init_da8c8_0 : decode cJxc12de_init_da8c8 0 = .ok (.aload_n 0, 1) := by decide +kernel
theorem dJxc12de_init_da8c8_1 : decode cJxc12de_init_da8c8 1 = .ok (.invokespecial 1, 3) := by decide +kernel
theorem dJxc12de_init_da8c8_4 : decode cJxc12de_init_da8c8 4 = .ok (.aload_n 0, 1) := by decide +kernel
theorem dJxc12de_init_da8c8_5 : decode cJxc12de_init_da8c8 5 = .ok (.iconst 0, 1) := by decide +kernel
theorem dJxc12de_init_da8c8_6 : decode cJxc12de_init_da8c8 6 = .ok (.putfield 7, 3) := by decide +kernel
theorem dJxc12de_init_da8c8_9 : decode cJxc12de_init_da8c8 9 = .ok (.return_, 1) := by decide +kernel
theorem hS_Jxa1e45_init_da8c8 : yJxa1e45_init_da8c8.cls ≠ "java/lang/invoke/MethodHandle" ∧ yJxa1e45_init_da8c8.cls ≠ "java/lang/invoke/VarHandle" ∧ (parseMethodDescriptor yJxa1e45_init_da8c8.desc).map (fun d => d.parameters.length) = some 0 := by decide +kernel
set_option maxHeartbeats 1000000 in
set_option maxRecDepth 100000 in
/-- AbstractList() of a list -/
theorem c_AList_init (l : Launch) (G : pT) (h0 : Nat) : PM l G pX0 yJxc12de_init_da8c8 cJxc12de_init_da8c8 1 none ({ frames := 3, cells := 0, slots := 0, locals := 80 }) [.ref h0] [(h0, .inr (10, [.int 0, .null, .int 0]))] (fun (v : Option Value) (u : (Nat → Nat) × (Nat → Nat → Int32) × (Nat → Nat → Int64)) => v = none) (fun u => [(h0, .inr (10, [.int 0, .null, .int 0]))]) := by
  intro sz
  refine Met.ofW (cc := cJxc12de_init_da8c8) (maxL := 1) (ret := none) (by decide) rfl ?_
  intro p e s m args below meth c s₁ B hml hv
  obtain ⟨rfl, hsz, hP, hD0, hE, hX⟩ := hv
  have hx := B.exec
  have hb := B.bytes
  have hr := B.returns
  have hts := atoms_spec (ws := Cond.code yJxc12de_init_da8c8 cJxc12de_init_da8c8 1 none :: pw) B.pre
  have hq : ∀ w ∈ pw, w.before _ s = true := fun w h => hts w (List.mem_cons_of_mem _ h)
  have hown : s.vm.findClass RJxc12de = some m.cls := findClass_of_methodNamed B.named
  have hlocks := B.notSynchronized
  have hin : meth.name = "<init>" := (name_of_methodNamed B.named B.method).1
  subst hsz
  have hD := hD0.self (sz := s.heap.size)
  have hA : ∀ q : Nat, s.heap.size ≤ q → va_A [(h0, .inr (10, [.int 0, .null, .int 0]))] s.heap.size q := fun q h => Or.inr h
  have hP : va_P G.1 pCl [(h0, .inr (10, [.int 0, .null, .int 0]))] s.heap := hP
  generalize va_A [(h0, .inr (10, [.int 0, .null, .int 0]))] s.heap.size = A at hD hE hA ⊢
  have hS : va_S A s.heap s.heap [] := va_S.rf
  have hl := lv_entry ([.ref h0]) (n := 1) (Nat.le_of_ble_eq_true rfl)
  rw [lg_entry_eq]
  generalize (lg_sl ([.ref h0]) ++ List.replicate (1 - (lg_sl ([.ref h0])).length) Slot.unset).toArray = ls at hl ⊢
  have hl : lv_has ls 1 [(0, .ref h0)] := hl
  refine lv_aload_n hx hb dJxc12de_init_da8c8_0 rfl (lv_at hl 0 rfl) ?_
  refine pc_I (G := G) (As := []) (rest := []) (wr := []) hx hb hml hown hq hE hX pX0_al hP hD hS hA hl.1 (c_ACol_init l G h0) pw_329 pw_626 pw_627 pw_625 rfl hS_Jxa1e45_init_da8c8 [0] [] rfl rfl (by decide) (by decide) (by decide) rfl (Nat.le_of_ble_eq_true rfl) dJxc12de_init_da8c8_1 ⟨Nat.le_of_ble_eq_true rfl, Nat.le_of_ble_eq_true rfl⟩ ⟨Nat.le_of_ble_eq_true rfl, Nat.le_of_ble_eq_true rfl⟩ (fun v3 u1 H locs hw2 hP hD hS => ?_)
  obtain rfl : v3 = none := hw2
  have hP : va_P G.1 pCl [(h0, .inr (10, [.int 0, .null, .int 0]))] H := hP
  have hD : va_D A [(h0, .inr (10, [.int 0, .null, .int 0]))] := hD
  refine W.widen (k := 0) (n := 0) (Nat.le_of_ble_eq_true rfl) (Nat.le_of_ble_eq_true rfl) ?_
  refine W.eq (g2 := F0 m 4 ls []) rfl ?_
  refine lv_aload_n hx hb dJxc12de_init_da8c8_4 rfl (lv_at hl 0 rfl) ?_
  refine lv_iconst (v := 0) hx hb dJxc12de_init_da8c8_5 (by decide) ?_
  refine va_put (D := G.1) (ci := 10) (v := .int 0) (ty := .int) (C := RJx4a65c) (T := TJx4a65c) (N := 3) hx hb hq pin_wsJx4a65c0 tyJx4a65c tyJx4a65c_ok nmJx4a65c hown hE.1.1 hP hD hS 0 rfl rfl 0 (by decide) (hq _ pw_330) (fun _ h9 => h9) rfl (by decide +kernel) rfl rfl (Nat.le_of_ble_eq_true rfl) dJxc12de_init_da8c8_6 (fun H locs hP hD hS => ?_)
  have hP : va_P G.1 pCl [(h0, .inr (10, [.int 0, .null, .int 0]))] H := hP
  have hD : va_D A [(h0, .inr (10, [.int 0, .null, .int 0]))] := hD
  refine W.widen (k := 0) (n := 0) (Nat.le_of_ble_eq_true rfl) (Nat.le_of_ble_eq_true rfl) ?_
  exact W.vret hx hb hr (fun t ht hW => ⟨⟨_, ((fun _ => 0), (fun _ => fun _ => 0), (fun _ => fun _ => 0)), rfl, rfl, by rw [ht]; exact hP.sub [0] rfl, hD.sub [0] (by decide) rfl⟩, hS.F ht⟩) hS.2.2 dJxc12de_init_da8c8_9
theorem dJx4a65c_init_da8c8_0 : decode cJx4a65c_init_da8c8 0 = .ok (.aload_n 0, 1) := by decide +kernel
theorem dJx4a65c_init_da8c8_1 : decode cJx4a65c_init_da8c8 1 = .ok (.invokespecial 1, 3) := by decide +kernel
theorem dJx4a65c_init_da8c8_4 : decode cJx4a65c_init_da8c8 4 = .ok (.aload_n 0, 1) := by decide +kernel
theorem dJx4a65c_init_da8c8_5 : decode cJx4a65c_init_da8c8 5 = .ok (.getstatic 39, 3) := by decide +kernel
theorem dJx4a65c_init_da8c8_8 : decode cJx4a65c_init_da8c8 8 = .ok (.putfield 9, 3) := by decide +kernel
theorem dJx4a65c_init_da8c8_11 : decode cJx4a65c_init_da8c8 11 = .ok (.return_, 1) := by decide +kernel
theorem hS_Jxc12de_init_da8c8 : yJxc12de_init_da8c8.cls ≠ "java/lang/invoke/MethodHandle" ∧ yJxc12de_init_da8c8.cls ≠ "java/lang/invoke/VarHandle" ∧ (parseMethodDescriptor yJxc12de_init_da8c8.desc).map (fun d => d.parameters.length) = some 0 := by decide +kernel
set_option maxHeartbeats 1000000 in
set_option maxRecDepth 100000 in
/-- ArrayList() -/
theorem c_List_init (l : Launch) (G : pT) (h0 : Nat) : PM l G pX0 yJx4a65c_init_da8c8 cJx4a65c_init_da8c8 1 none ({ frames := 4, cells := 0, slots := 0, locals := 100 }) [.ref h0] [(h0, .inr (10, [.int 0, .null, .int 0]))] (fun (v : Option Value) (u : (Nat → Nat) × (Nat → Nat → Int32) × (Nat → Nat → Int64)) => v = none) (fun u => [(h0, .inr (10, [.int 0, .ref G.2.2.2.2, .int 0]))]) := by
  intro sz
  refine Met.ofW (cc := cJx4a65c_init_da8c8) (maxL := 1) (ret := none) (by decide) rfl ?_
  intro p e s m args below meth c s₁ B hml hv
  obtain ⟨rfl, hsz, hP, hD0, hE, hX⟩ := hv
  have hx := B.exec
  have hb := B.bytes
  have hr := B.returns
  have hts := atoms_spec (ws := Cond.code yJx4a65c_init_da8c8 cJx4a65c_init_da8c8 1 none :: pw) B.pre
  have hq : ∀ w ∈ pw, w.before _ s = true := fun w h => hts w (List.mem_cons_of_mem _ h)
  have hown : s.vm.findClass RJx4a65c = some m.cls := findClass_of_methodNamed B.named
  have hlocks := B.notSynchronized
  have hin : meth.name = "<init>" := (name_of_methodNamed B.named B.method).1
  subst hsz
  have hD := hD0.self (sz := s.heap.size)
  have hA : ∀ q : Nat, s.heap.size ≤ q → va_A [(h0, .inr (10, [.int 0, .null, .int 0]))] s.heap.size q := fun q h => Or.inr h
  have hP : va_P G.1 pCl [(h0, .inr (10, [.int 0, .null, .int 0]))] s.heap := hP
  generalize va_A [(h0, .inr (10, [.int 0, .null, .int 0]))] s.heap.size = A at hD hE hA ⊢
  have hS : va_S A s.heap s.heap [] := va_S.rf
  have hl := lv_entry ([.ref h0]) (n := 1) (Nat.le_of_ble_eq_true rfl)
  rw [lg_entry_eq]
  generalize (lg_sl ([.ref h0]) ++ List.replicate (1 - (lg_sl ([.ref h0])).length) Slot.unset).toArray = ls at hl ⊢
  have hl : lv_has ls 1 [(0, .ref h0)] := hl
  refine lv_aload_n hx hb dJx4a65c_init_da8c8_0 rfl (lv_at hl 0 rfl) ?_
  refine pc_I (G := G) (As := []) (rest := []) (wr := []) hx hb hml hown hq hE hX pX0_al hP hD hS hA hl.1 (c_AList_init l G h0) pw_326 pw_623 pw_624 pw_622 rfl hS_Jxc12de_init_da8c8 [0] [] rfl rfl (by decide) (by decide) (by decide) rfl (Nat.le_of_ble_eq_true rfl) dJx4a65c_init_da8c8_1 ⟨Nat.le_of_ble_eq_true rfl, Nat.le_of_ble_eq_true rfl⟩ ⟨Nat.le_of_ble_eq_true rfl, Nat.le_of_ble_eq_true rfl⟩ (fun v3 u1 H locs hw2 hP hD hS => ?_)
  obtain rfl : v3 = none := hw2
  have hP : va_P G.1 pCl [(h0, .inr (10, [.int 0, .null, .int 0]))] H := hP
  have hD : va_D A [(h0, .inr (10, [.int 0, .null, .int 0]))] := hD
  refine W.widen (k := 0) (n := 0) (Nat.le_of_ble_eq_true rfl) (Nat.le_of_ble_eq_true rfl) ?_
  refine W.eq (g2 := F0 m 4 ls []) rfl ?_
  refine lv_aload_n hx hb dJx4a65c_init_da8c8_4 rfl (lv_at hl 0 rfl) ?_
  refine va_gets hx hb hE.2.2.2.2.2.1 hS hown (hq _ pw_327) (fun _ h9 => h9) dJx4a65c_init_da8c8_5 ?_
  refine va_put (D := G.1) (ci := 10) (v := .ref G.2.2.2.2) (ty := (.array (.object "java/lang/Object"))) (C := RJx4a65c) (T := TJx4a65c) (N := 3) hx hb hq pin_wsJx4a65c0 tyJx4a65c tyJx4a65c_ok nmJx4a65c hown hE.1.1 hP hD hS 0 rfl rfl 1 (by decide) (hq _ pw_328) (fun _ h9 => h9) rfl (by decide +kernel) rfl rfl (Nat.le_of_ble_eq_true rfl) dJx4a65c_init_da8c8_8 (fun H locs hP hD hS => ?_)
  have hP : va_P G.1 pCl [(h0, .inr (10, [.int 0, .ref G.2.2.2.2, .int 0]))] H := hP
  have hD : va_D A [(h0, .inr (10, [.int 0, .ref G.2.2.2.2, .int 0]))] := hD
  refine W.widen (k := 0) (n := 0) (Nat.le_of_ble_eq_true rfl) (Nat.le_of_ble_eq_true rfl) ?_
  exact W.vret hx hb hr (fun t ht hW => ⟨⟨_, ((fun _ => 0), (fun _ => fun _ => 0), (fun _ => fun _ => 0)), rfl, rfl, by rw [ht]; exact hP.sub [0] rfl, hD.sub [0] (by decide) rfl⟩, hS.F ht⟩) hS.2.2 dJx4a65c_init_da8c8_11
theorem dX2_init_0 : decode cX2_init 0 = .ok (.aload_n 0, 1) := by decide +kernel
theorem dX2_init_1 : decode cX2_init 1 = .ok (.invokespecial 3, 3) := by decide +kernel
theorem dX2_init_4 : decode cX2_init 4 = .ok (.aload_n 0, 1) := by decide +kernel
theorem dX2_init_5 : decode cX2_init 5 = .ok (.iload_n 1, 1) := by decide +kernel
theorem dX2_init_6 : decode cX2_init 6 = .ok (.putfield 9, 3) := by decide +kernel
theorem dX2_init_9 : decode cX2_init 9 = .ok (.aload_n 0, 1) := by decide +kernel
theorem dX2_init_10 : decode cX2_init 10 = .ok (.iload_n 2, 1) := by decide +kernel
theorem dX2_init_11 : decode cX2_init 11 = .ok (.putfield 15, 3) := by decide +kernel
theorem dX2_init_14 : decode cX2_init 14 = .ok (.aload_n 0, 1) := by decide +kernel
theorem dX2_init_15 : decode cX2_init 15 = .ok (.iload_n 3, 1) := by decide +kernel
theorem dX2_init_16 : decode cX2_init 16 = .ok (.putfield 18, 3) := by decide +kernel
theorem dX2_init_19 : decode cX2_init 19 = .ok (.aload_n 0, 1) := by decide +kernel
theorem dX2_init_20 : decode cX2_init 20 = .ok (.iload 4, 2) := by decide +kernel
theorem dX2_init_22 : decode cX2_init 22 = .ok (.putfield 21, 3) := by decide +kernel
theorem dX2_init_25 : decode cX2_init 25 = .ok (.aload_n 0, 1) := by decide +kernel
theorem dX2_init_26 : decode cX2_init 26 = .ok (.iconst (-1), 1) := by decide +kernel
theorem dX2_init_27 : decode cX2_init 27 = .ok (.putfield 25, 3) := by decide +kernel
theorem dX2_init_30 : decode cX2_init 30 = .ok (.aload_n 0, 1) := by decide +kernel
theorem dX2_init_31 : decode cX2_init 31 = .ok (.new 28, 3) := by decide +kernel
theorem dX2_init_34 : decode cX2_init 34 = .ok (.dup, 1) := by decide +kernel
theorem dX2_init_35 : decode cX2_init 35 = .ok (.invokespecial 30, 3) := by decide +kernel
theorem dX2_init_38 : decode cX2_init 38 = .ok (.putfield 31, 3) := by decide +kernel
theorem dX2_init_41 : decode cX2_init 41 = .ok (.aload_n 0, 1) := by decide +kernel
theorem dX2_init_42 : decode cX2_init 42 = .ok (.new 28, 3) := by decide +kernel
theorem dX2_init_45 : decode cX2_init 45 = .ok (.dup, 1) := by decide +kernel
theorem dX2_init_46 : decode cX2_init 46 = .ok (.invokespecial 30, 3) := by decide +kernel
theorem dX2_init_49 : decode cX2_init 49 = .ok (.putfield 35, 3) := by decide +kernel
theorem dX2_init_52 : decode cX2_init 52 = .ok (.aload_n 0, 1) := by decide +kernel
theorem dX2_init_53 : decode cX2_init 53 = .ok (.new 28, 3) := by decide +kernel
theorem dX2_init_56 : decode cX2_init 56 = .ok (.dup, 1) := by decide +kernel
theorem dX2_init_57 : decode cX2_init 57 = .ok (.invokespecial 30, 3) := by decide +kernel
theorem dX2_init_60 : decode cX2_init 60 = .ok (.putfield 38, 3) := by decide +kernel
theorem dX2_init_63 : decode cX2_init 63 = .ok (.aload_n 0, 1) := by decide +kernel
theorem dX2_init_64 : decode cX2_init 64 = .ok (.new 28, 3) := by decide +kernel
theorem dX2_init_67 : decode cX2_init 67 = .ok (.dup, 1) := by decide +kernel
theorem dX2_init_68 : decode cX2_init 68 = .ok (.invokespecial 30, 3) := by decide +kernel
theorem dX2_init_71 : decode cX2_init 71 = .ok (.putfield 41, 3) := by decide +kernel
theorem dX2_init_74 : decode cX2_init 74 = .ok (.return_, 1) := by decide +kernel
theorem hS_Jx4a65c_init_da8c8 : yJx4a65c_init_da8c8.cls ≠ "java/lang/invoke/MethodHandle" ∧ yJx4a65c_init_da8c8.cls ≠ "java/lang/invoke/VarHandle" ∧ (parseMethodDescriptor yJx4a65c_init_da8c8.desc).map (fun d => d.parameters.length) = some 0 := by decide +kernel
set_option maxHeartbeats 1000000 in
set_option maxRecDepth 100000 in
/-- Decl(number, name, NONE, false) -/
theorem c_Decl_init (l : Launch) (G : pT) (h0 : Nat) (x1 : Int32) (x2 : Int32) : PM l G pX0 yX2_init cX2_init 5 none ({ frames := 5, cells := 4, slots := 12, locals := 120 }) [.ref h0, .int x1, .int x2, .int (-1), .int 0] [(h0, .inr (2, [.int 0, .int 0, .int 0, .int 0, .int 0, .int 0, .int 0, .null, .null, .null, .long 0, .null, .null]))] (fun (v : Option Value) (u : (Nat → Nat) × (Nat → Nat → Int32) × (Nat → Nat → Int64)) => v = none) (fun u => [(h0, .inr (2, [.int x1, .int x2, .int (-1), .int 0, .int (-1), .int 0, .int 0, .ref (u.1 0), .ref (u.1 1), .null, .long 0, .ref (u.1 2), .ref (u.1 3)]))]) := by
  intro sz
  refine Met.ofW (cc := cX2_init) (maxL := 5) (ret := none) (by decide) rfl ?_
  intro p e s m args below meth c s₁ B hml hv
  obtain ⟨rfl, hsz, hP, hD0, hE, hX⟩ := hv
  have hx := B.exec
  have hb := B.bytes
  have hr := B.returns
  have hts := atoms_spec (ws := Cond.code yX2_init cX2_init 5 none :: pw) B.pre
  have hq : ∀ w ∈ pw, w.before _ s = true := fun w h => hts w (List.mem_cons_of_mem _ h)
  have hown : s.vm.findClass RX2 = some m.cls := findClass_of_methodNamed B.named
  have hlocks := B.notSynchronized
  have hin : meth.name = "<init>" := (name_of_methodNamed B.named B.method).1
  subst hsz
  have hD := hD0.self (sz := s.heap.size)
  have hA : ∀ q : Nat, s.heap.size ≤ q → va_A [(h0, .inr (2, [.int 0, .int 0, .int 0, .int 0, .int 0, .int 0, .int 0, .null, .null, .null, .long 0, .null, .null]))] s.heap.size q := fun q h => Or.inr h
  have hP : va_P G.1 pCl [(h0, .inr (2, [.int 0, .int 0, .int 0, .int 0, .int 0, .int 0, .int 0, .null, .null, .null, .long 0, .null, .null]))] s.heap := hP
  generalize va_A [(h0, .inr (2, [.int 0, .int 0, .int 0, .int 0, .int 0, .int 0, .int 0, .null, .null, .null, .long 0, .null, .null]))] s.heap.size = A at hD hE hA ⊢
  have hS : va_S A s.heap s.heap [] := va_S.rf
  have hl := lv_entry ([.ref h0, .int x1, .int x2, .int (-1), .int 0]) (n := 5) (Nat.le_of_ble_eq_true rfl)
  rw [lg_entry_eq]
  generalize (lg_sl ([.ref h0, .int x1, .int x2, .int (-1), .int 0]) ++ List.replicate (5 - (lg_sl ([.ref h0, .int x1, .int x2, .int (-1), .int 0])).length) Slot.unset).toArray = ls at hl ⊢
  have hl : lv_has ls 5 [(0, .ref h0), (1, .int x1), (2, .int x2), (3, .int (-1)), (4, .int 0)] := hl
  refine lv_aload_n hx hb dX2_init_0 rfl (lv_at hl 0 rfl) ?_
  refine W.objInit hx hb hown (hq _ pw_165) (hq _ pw_634) (hq _ pw_635) rfl (by rw [hml]; exact hl.1) rfl dX2_init_1 (Nat.le_of_ble_eq_true rfl) (Nat.le_of_ble_eq_true rfl) ?_
  refine W.eq (g2 := F0 m 4 ls []) rfl ?_
  refine lv_aload_n hx hb dX2_init_4 rfl (lv_at hl 0 rfl) ?_
  refine lv_iload_n hx hb dX2_init_5 rfl (lv_at hl 1 rfl) ?_
  refine va_putF (D := G.1) (ci := 2) (v := .int x1) (ty := .int) (C := RX2) (T := TX2) (N := 13) hx hb hq pin_wsX20 tyX2 tyX2_ok nmX2 hown hE.1.1 hP hD hS 0 rfl rfl 0 (by decide) (hq _ pw_166) (fun _ h9 => h9) rfl hin rfl (by decide +kernel) rfl rfl (Nat.le_of_ble_eq_true rfl) dX2_init_6 (fun H locs hP hD hS => ?_)
  have hP : va_P G.1 pCl [(h0, .inr (2, [.int x1, .int 0, .int 0, .int 0, .int 0, .int 0, .int 0, .null, .null, .null, .long 0, .null, .null]))] H := hP
  have hD : va_D A [(h0, .inr (2, [.int x1, .int 0, .int 0, .int 0, .int 0, .int 0, .int 0, .null, .null, .null, .long 0, .null, .null]))] := hD
  refine lv_aload_n hx hb dX2_init_9 rfl (lv_at hl 0 rfl) ?_
  refine lv_iload_n hx hb dX2_init_10 rfl (lv_at hl 2 rfl) ?_
  refine va_putF (D := G.1) (ci := 2) (v := .int x2) (ty := .int) (C := RX2) (T := TX2) (N := 13) hx hb hq pin_wsX20 tyX2 tyX2_ok nmX2 hown hE.1.1 hP hD hS 0 rfl rfl 1 (by decide) (hq _ pw_167) (fun _ h9 => h9) rfl hin rfl (by decide +kernel) rfl rfl (Nat.le_of_ble_eq_true rfl) dX2_init_11 (fun H locs hP hD hS => ?_)
  have hP : va_P G.1 pCl [(h0, .inr (2, [.int x1, .int x2, .int 0, .int 0, .int 0, .int 0, .int 0, .null, .null, .null, .long 0, .null, .null]))] H := hP
  have hD : va_D A [(h0, .inr (2, [.int x1, .int x2, .int 0, .int 0, .int 0, .int 0, .int 0, .null, .null, .null, .long 0, .null, .null]))] := hD
  refine lv_aload_n hx hb dX2_init_14 rfl (lv_at hl 0 rfl) ?_
  refine lv_iload_n hx hb dX2_init_15 rfl (lv_at hl 3 rfl) ?_
  refine va_putF (D := G.1) (ci := 2) (v := .int (-1)) (ty := .int) (C := RX2) (T := TX2) (N := 13) hx hb hq pin_wsX20 tyX2 tyX2_ok nmX2 hown hE.1.1 hP hD hS 0 rfl rfl 2 (by decide) (hq _ pw_168) (fun _ h9 => h9) rfl hin rfl (by decide +kernel) rfl rfl (Nat.le_of_ble_eq_true rfl) dX2_init_16 (fun H locs hP hD hS => ?_)
  have hP : va_P G.1 pCl [(h0, .inr (2, [.int x1, .int x2, .int (-1), .int 0, .int 0, .int 0, .int 0, .null, .null, .null, .long 0, .null, .null]))] H := hP
  have hD : va_D A [(h0, .inr (2, [.int x1, .int x2, .int (-1), .int 0, .int 0, .int 0, .int 0, .null, .null, .null, .long 0, .null, .null]))] := hD
  refine lv_aload_n hx hb dX2_init_19 rfl (lv_at hl 0 rfl) ?_
  refine lv_iload hx hb dX2_init_20 (lv_at hl 4 rfl) ?_
  refine va_putF (D := G.1) (ci := 2) (v := .int 0) (ty := .boolean) (C := RX2) (T := TX2) (N := 13) hx hb hq pin_wsX20 tyX2 tyX2_ok nmX2 hown hE.1.1 hP hD hS 0 rfl rfl 3 (by decide) (hq _ pw_169) (fun _ h9 => h9) rfl hin rfl (by decide +kernel) rfl rfl (Nat.le_of_ble_eq_true rfl) dX2_init_22 (fun H locs hP hD hS => ?_)
  have hP : va_P G.1 pCl [(h0, .inr (2, [.int x1, .int x2, .int (-1), .int 0, .int 0, .int 0, .int 0, .null, .null, .null, .long 0, .null, .null]))] H := hP
  have hD : va_D A [(h0, .inr (2, [.int x1, .int x2, .int (-1), .int 0, .int 0, .int 0, .int 0, .null, .null, .null, .long 0, .null, .null]))] := hD
  refine lv_aload_n hx hb dX2_init_25 rfl (lv_at hl 0 rfl) ?_
  refine lv_iconst (v := (-1)) hx hb dX2_init_26 (by decide) ?_
  refine va_put (D := G.1) (ci := 2) (v := .int (-1)) (ty := .int) (C := RX2) (T := TX2) (N := 13) hx hb hq pin_wsX20 tyX2 tyX2_ok nmX2 hown hE.1.1 hP hD hS 0 rfl rfl 4 (by decide) (hq _ pw_170) (fun _ h9 => h9) rfl (by decide +kernel) rfl rfl (Nat.le_of_ble_eq_true rfl) dX2_init_27 (fun H locs hP hD hS => ?_)
  have hP : va_P G.1 pCl [(h0, .inr (2, [.int x1, .int x2, .int (-1), .int 0, .int (-1), .int 0, .int 0, .null, .null, .null, .long 0, .null, .null]))] H := hP
  have hD : va_D A [(h0, .inr (2, [.int x1, .int x2, .int (-1), .int 0, .int (-1), .int 0, .int 0, .null, .null, .null, .long 0, .null, .null]))] := hD
  refine lv_aload_n hx hb dX2_init_30 rfl (lv_at hl 0 rfl) ?_
  refine va_new (ci := 10) (fs := [.int 0, .null, .int 0]) (C := RJx4a65c) (T := TJx4a65c) (N := 3) hx hb hq pin_wsJx4a65c0 tyJx4a65c tyJx4a65c_ok hown (hq _ pw_171) (hq _ pw_644) (hq _ pw_621) hE.1.1 hP hD hS hA rfl nw_Jx4a65c (Nat.le_of_ble_eq_true rfl) (Nat.le_of_ble_eq_true rfl) dX2_init_31 (fun q1 H hP hD hS => ?_)
  have hP : va_P G.1 pCl [(h0, .inr (2, [.int x1, .int x2, .int (-1), .int 0, .int (-1), .int 0, .int 0, .null, .null, .null, .long 0, .null, .null])), (q1, .inr (10, [.int 0, .null, .int 0]))] H := hP
  have hD : va_D A [(h0, .inr (2, [.int x1, .int x2, .int (-1), .int 0, .int (-1), .int 0, .int 0, .null, .null, .null, .long 0, .null, .null])), (q1, .inr (10, [.int 0, .null, .int 0]))] := hD
  refine W.widen (k := 1) (n := 3) (Nat.le_of_ble_eq_true rfl) (Nat.le_of_ble_eq_true rfl) ?_
  refine lv_dup hx hb dX2_init_34 rfl ?_
  refine pc_I (G := G) (As := []) (rest := [.ref q1, .ref h0]) (wr := [(h0, .inr (2, [.int x1, .int x2, .int (-1), .int 0, .int (-1), .int 0, .int 0, .null, .null, .null, .long 0, .null, .null]))]) hx hb hml hown hq hE hX pX0_al hP hD hS hA hl.1 (c_List_init l G q1) pw_172 pw_620 pw_621 pw_619 rfl hS_Jx4a65c_init_da8c8 [1] [0] rfl rfl (by decide) (by decide) (by decide) rfl (Nat.le_of_ble_eq_true rfl) dX2_init_35 ⟨Nat.le_of_ble_eq_true rfl, Nat.le_of_ble_eq_true rfl⟩ ⟨Nat.le_of_ble_eq_true rfl, Nat.le_of_ble_eq_true rfl⟩ (fun v4 u2 H locs hw3 hP hD hS => ?_)
  obtain rfl : v4 = none := hw3
  have hP : va_P G.1 pCl [(h0, .inr (2, [.int x1, .int x2, .int (-1), .int 0, .int (-1), .int 0, .int 0, .null, .null, .null, .long 0, .null, .null])), (q1, .inr (10, [.int 0, .ref G.2.2.2.2, .int 0]))] H := hP
  have hD : va_D A [(h0, .inr (2, [.int x1, .int x2, .int (-1), .int 0, .int (-1), .int 0, .int 0, .null, .null, .null, .long 0, .null, .null])), (q1, .inr (10, [.int 0, .ref G.2.2.2.2, .int 0]))] := hD
  refine W.widen (k := 1) (n := 3) (Nat.le_of_ble_eq_true rfl) (Nat.le_of_ble_eq_true rfl) ?_
  refine W.eq (g2 := F0 m 38 ls [.ref q1, .ref h0]) rfl ?_
  refine va_putF (D := G.1) (ci := 2) (v := .ref q1) (ty := (.object "java/util/ArrayList")) (C := RX2) (T := TX2) (N := 13) hx hb hq pin_wsX20 tyX2 tyX2_ok nmX2 hown hE.1.1 hP hD hS 0 rfl rfl 7 (by decide) (hq _ pw_173) (fun _ h9 => h9) rfl hin rfl (by decide +kernel) rfl rfl (Nat.le_of_ble_eq_true rfl) dX2_init_38 (fun H locs hP hD hS => ?_)
  have hP : va_P G.1 pCl [(h0, .inr (2, [.int x1, .int x2, .int (-1), .int 0, .int (-1), .int 0, .int 0, .ref q1, .null, .null, .long 0, .null, .null])), (q1, .inr (10, [.int 0, .ref G.2.2.2.2, .int 0]))] H := hP
  have hD : va_D A [(h0, .inr (2, [.int x1, .int x2, .int (-1), .int 0, .int (-1), .int 0, .int 0, .ref q1, .null, .null, .long 0, .null, .null])), (q1, .inr (10, [.int 0, .ref G.2.2.2.2, .int 0]))] := hD
  refine lv_aload_n hx hb dX2_init_41 rfl (lv_at hl 0 rfl) ?_
  refine va_new (ci := 10) (fs := [.int 0, .null, .int 0]) (C := RJx4a65c) (T := TJx4a65c) (N := 3) hx hb hq pin_wsJx4a65c0 tyJx4a65c tyJx4a65c_ok hown (hq _ pw_171) (hq _ pw_644) (hq _ pw_621) hE.1.1 hP hD hS hA rfl nw_Jx4a65c (Nat.le_of_ble_eq_true rfl) (Nat.le_of_ble_eq_true rfl) dX2_init_42 (fun q5 H hP hD hS => ?_)
  have hP : va_P G.1 pCl [(h0, .inr (2, [.int x1, .int x2, .int (-1), .int 0, .int (-1), .int 0, .int 0, .ref q1, .null, .null, .long 0, .null, .null])), (q1, .inr (10, [.int 0, .ref G.2.2.2.2, .int 0])), (q5, .inr (10, [.int 0, .null, .int 0]))] H := hP
  have hD : va_D A [(h0, .inr (2, [.int x1, .int x2, .int (-1), .int 0, .int (-1), .int 0, .int 0, .ref q1, .null, .null, .long 0, .null, .null])), (q1, .inr (10, [.int 0, .ref G.2.2.2.2, .int 0])), (q5, .inr (10, [.int 0, .null, .int 0]))] := hD
  refine W.widen (k := 2) (n := 6) (Nat.le_of_ble_eq_true rfl) (Nat.le_of_ble_eq_true rfl) ?_
  refine lv_dup hx hb dX2_init_45 rfl ?_
  refine pc_I (G := G) (As := []) (rest := [.ref q5, .ref h0]) (wr := [(h0, .inr (2, [.int x1, .int x2, .int (-1), .int 0, .int (-1), .int 0, .int 0, .ref q1, .null, .null, .long 0, .null, .null])), (q1, .inr (10, [.int 0, .ref G.2.2.2.2, .int 0]))]) hx hb hml hown hq hE hX pX0_al hP hD hS hA hl.1 (c_List_init l G q5) pw_172 pw_620 pw_621 pw_619 rfl hS_Jx4a65c_init_da8c8 [2] [0, 1] rfl rfl (by decide) (by decide) (by decide) rfl (Nat.le_of_ble_eq_true rfl) dX2_init_46 ⟨Nat.le_of_ble_eq_true rfl, Nat.le_of_ble_eq_true rfl⟩ ⟨Nat.le_of_ble_eq_true rfl, Nat.le_of_ble_eq_true rfl⟩ (fun v8 u6 H locs hw7 hP hD hS => ?_)
  obtain rfl : v8 = none := hw7
  have hP : va_P G.1 pCl [(h0, .inr (2, [.int x1, .int x2, .int (-1), .int 0, .int (-1), .int 0, .int 0, .ref q1, .null, .null, .long 0, .null, .null])), (q1, .inr (10, [.int 0, .ref G.2.2.2.2, .int 0])), (q5, .inr (10, [.int 0, .ref G.2.2.2.2, .int 0]))] H := hP
  have hD : va_D A [(h0, .inr (2, [.int x1, .int x2, .int (-1), .int 0, .int (-1), .int 0, .int 0, .ref q1, .null, .null, .long 0, .null, .null])), (q1, .inr (10, [.int 0, .ref G.2.2.2.2, .int 0])), (q5, .inr (10, [.int 0, .ref G.2.2.2.2, .int 0]))] := hD
  refine W.widen (k := 2) (n := 6) (Nat.le_of_ble_eq_true rfl) (Nat.le_of_ble_eq_true rfl) ?_
  refine W.eq (g2 := F0 m 49 ls [.ref q5, .ref h0]) rfl ?_
  refine va_putF (D := G.1) (ci := 2) (v := .ref q5) (ty := (.object "java/util/ArrayList")) (C := RX2) (T := TX2) (N := 13) hx hb hq pin_wsX20 tyX2 tyX2_ok nmX2 hown hE.1.1 hP hD hS 0 rfl rfl 8 (by decide) (hq _ pw_174) (fun _ h9 => h9) rfl hin rfl (by decide +kernel) rfl rfl (Nat.le_of_ble_eq_true rfl) dX2_init_49 (fun H locs hP hD hS => ?_)
  have hP : va_P G.1 pCl [(h0, .inr (2, [.int x1, .int x2, .int (-1), .int 0, .int (-1), .int 0, .int 0, .ref q1, .ref q5, .null, .long 0, .null, .null])), (q1, .inr (10, [.int 0, .ref G.2.2.2.2, .int 0])), (q5, .inr (10, [.int 0, .ref G.2.2.2.2, .int 0]))] H := hP
  have hD : va_D A [(h0, .inr (2, [.int x1, .int x2, .int (-1), .int 0, .int (-1), .int 0, .int 0, .ref q1, .ref q5, .null, .long 0, .null, .null])), (q1, .inr (10, [.int 0, .ref G.2.2.2.2, .int 0])), (q5, .inr (10, [.int 0, .ref G.2.2.2.2, .int 0]))] := hD
  refine lv_aload_n hx hb dX2_init_52 rfl (lv_at hl 0 rfl) ?_
  refine va_new (ci := 10) (fs := [.int 0, .null, .int 0]) (C := RJx4a65c) (T := TJx4a65c) (N := 3) hx hb hq pin_wsJx4a65c0 tyJx4a65c tyJx4a65c_ok hown (hq _ pw_171) (hq _ pw_644) (hq _ pw_621) hE.1.1 hP hD hS hA rfl nw_Jx4a65c (Nat.le_of_ble_eq_true rfl) (Nat.le_of_ble_eq_true rfl) dX2_init_53 (fun q9 H hP hD hS => ?_)
  have hP : va_P G.1 pCl [(h0, .inr (2, [.int x1, .int x2, .int (-1), .int 0, .int (-1), .int 0, .int 0, .ref q1, .ref q5, .null, .long 0, .null, .null])), (q1, .inr (10, [.int 0, .ref G.2.2.2.2, .int 0])), (q5, .inr (10, [.int 0, .ref G.2.2.2.2, .int 0])), (q9, .inr (10, [.int 0, .null, .int 0]))] H := hP
  have hD : va_D A [(h0, .inr (2, [.int x1, .int x2, .int (-1), .int 0, .int (-1), .int 0, .int 0, .ref q1, .ref q5, .null, .long 0, .null, .null])), (q1, .inr (10, [.int 0, .ref G.2.2.2.2, .int 0])), (q5, .inr (10, [.int 0, .ref G.2.2.2.2, .int 0])), (q9, .inr (10, [.int 0, .null, .int 0]))] := hD
  refine W.widen (k := 3) (n := 9) (Nat.le_of_ble_eq_true rfl) (Nat.le_of_ble_eq_true rfl) ?_
  refine lv_dup hx hb dX2_init_56 rfl ?_
  refine pc_I (G := G) (As := []) (rest := [.ref q9, .ref h0]) (wr := [(h0, .inr (2, [.int x1, .int x2, .int (-1), .int 0, .int (-1), .int 0, .int 0, .ref q1, .ref q5, .null, .long 0, .null, .null])), (q1, .inr (10, [.int 0, .ref G.2.2.2.2, .int 0])), (q5, .inr (10, [.int 0, .ref G.2.2.2.2, .int 0]))]) hx hb hml hown hq hE hX pX0_al hP hD hS hA hl.1 (c_List_init l G q9) pw_172 pw_620 pw_621 pw_619 rfl hS_Jx4a65c_init_da8c8 [3] [0, 1, 2] rfl rfl (by decide) (by decide) (by decide) rfl (Nat.le_of_ble_eq_true rfl) dX2_init_57 ⟨Nat.le_of_ble_eq_true rfl, Nat.le_of_ble_eq_true rfl⟩ ⟨Nat.le_of_ble_eq_true rfl, Nat.le_of_ble_eq_true rfl⟩ (fun v12 u10 H locs hw11 hP hD hS => ?_)
  obtain rfl : v12 = none := hw11
  have hP : va_P G.1 pCl [(h0, .inr (2, [.int x1, .int x2, .int (-1), .int 0, .int (-1), .int 0, .int 0, .ref q1, .ref q5, .null, .long 0, .null, .null])), (q1, .inr (10, [.int 0, .ref G.2.2.2.2, .int 0])), (q5, .inr (10, [.int 0, .ref G.2.2.2.2, .int 0])), (q9, .inr (10, [.int 0, .ref G.2.2.2.2, .int 0]))] H := hP
  have hD : va_D A [(h0, .inr (2, [.int x1, .int x2, .int (-1), .int 0, .int (-1), .int 0, .int 0, .ref q1, .ref q5, .null, .long 0, .null, .null])), (q1, .inr (10, [.int 0, .ref G.2.2.2.2, .int 0])), (q5, .inr (10, [.int 0, .ref G.2.2.2.2, .int 0])), (q9, .inr (10, [.int 0, .ref G.2.2.2.2, .int 0]))] := hD
  refine W.widen (k := 3) (n := 9) (Nat.le_of_ble_eq_true rfl) (Nat.le_of_ble_eq_true rfl) ?_
  refine W.eq (g2 := F0 m 60 ls [.ref q9, .ref h0]) rfl ?_
  refine va_putF (D := G.1) (ci := 2) (v := .ref q9) (ty := (.object "java/util/ArrayList")) (C := RX2) (T := TX2) (N := 13) hx hb hq pin_wsX20 tyX2 tyX2_ok nmX2 hown hE.1.1 hP hD hS 0 rfl rfl 11 (by decide) (hq _ pw_175) (fun _ h9 => h9) rfl hin rfl (by decide +kernel) rfl rfl (Nat.le_of_ble_eq_true rfl) dX2_init_60 (fun H locs hP hD hS => ?_)
  have hP : va_P G.1 pCl [(h0, .inr (2, [.int x1, .int x2, .int (-1), .int 0, .int (-1), .int 0, .int 0, .ref q1, .ref q5, .null, .long 0, .ref q9, .null])), (q1, .inr (10, [.int 0, .ref G.2.2.2.2, .int 0])), (q5, .inr (10, [.int 0, .ref G.2.2.2.2, .int 0])), (q9, .inr (10, [.int 0, .ref G.2.2.2.2, .int 0]))] H := hP
  have hD : va_D A [(h0, .inr (2, [.int x1, .int x2, .int (-1), .int 0, .int (-1), .int 0, .int 0, .ref q1, .ref q5, .null, .long 0, .ref q9, .null])), (q1, .inr (10, [.int 0, .ref G.2.2.2.2, .int 0])), (q5, .inr (10, [.int 0, .ref G.2.2.2.2, .int 0])), (q9, .inr (10, [.int 0, .ref G.2.2.2.2, .int 0]))] := hD
  refine lv_aload_n hx hb dX2_init_63 rfl (lv_at hl 0 rfl) ?_
  refine va_new (ci := 10) (fs := [.int 0, .null, .int 0]) (C := RJx4a65c) (T := TJx4a65c) (N := 3) hx hb hq pin_wsJx4a65c0 tyJx4a65c tyJx4a65c_ok hown (hq _ pw_171) (hq _ pw_644) (hq _ pw_621) hE.1.1 hP hD hS hA rfl nw_Jx4a65c (Nat.le_of_ble_eq_true rfl) (Nat.le_of_ble_eq_true rfl) dX2_init_64 (fun q13 H hP hD hS => ?_)
  have hP : va_P G.1 pCl [(h0, .inr (2, [.int x1, .int x2, .int (-1), .int 0, .int (-1), .int 0, .int 0, .ref q1, .ref q5, .null, .long 0, .ref q9, .null])), (q1, .inr (10, [.int 0, .ref G.2.2.2.2, .int 0])), (q5, .inr (10, [.int 0, .ref G.2.2.2.2, .int 0])), (q9, .inr (10, [.int 0, .ref G.2.2.2.2, .int 0])), (q13, .inr (10, [.int 0, .null, .int 0]))] H := hP
  have hD : va_D A [(h0, .inr (2, [.int x1, .int x2, .int (-1), .int 0, .int (-1), .int 0, .int 0, .ref q1, .ref q5, .null, .long 0, .ref q9, .null])), (q1, .inr (10, [.int 0, .ref G.2.2.2.2, .int 0])), (q5, .inr (10, [.int 0, .ref G.2.2.2.2, .int 0])), (q9, .inr (10, [.int 0, .ref G.2.2.2.2, .int 0])), (q13, .inr (10, [.int 0, .null, .int 0]))] := hD
  refine W.widen (k := 4) (n := 12) (Nat.le_of_ble_eq_true rfl) (Nat.le_of_ble_eq_true rfl) ?_
  refine lv_dup hx hb dX2_init_67 rfl ?_
  refine pc_I (G := G) (As := []) (rest := [.ref q13, .ref h0]) (wr := [(h0, .inr (2, [.int x1, .int x2, .int (-1), .int 0, .int (-1), .int 0, .int 0, .ref q1, .ref q5, .null, .long 0, .ref q9, .null])), (q1, .inr (10, [.int 0, .ref G.2.2.2.2, .int 0])), (q5, .inr (10, [.int 0, .ref G.2.2.2.2, .int 0])), (q9, .inr (10, [.int 0, .ref G.2.2.2.2, .int 0]))]) hx hb hml hown hq hE hX pX0_al hP hD hS hA hl.1 (c_List_init l G q13) pw_172 pw_620 pw_621 pw_619 rfl hS_Jx4a65c_init_da8c8 [4] [0, 1, 2, 3] rfl rfl (by decide) (by decide) (by decide) rfl (Nat.le_of_ble_eq_true rfl) dX2_init_68 ⟨Nat.le_of_ble_eq_true rfl, Nat.le_of_ble_eq_true rfl⟩ ⟨Nat.le_of_ble_eq_true rfl, Nat.le_of_ble_eq_true rfl⟩ (fun v16 u14 H locs hw15 hP hD hS => ?_)
  obtain rfl : v16 = none := hw15
  have hP : va_P G.1 pCl [(h0, .inr (2, [.int x1, .int x2, .int (-1), .int 0, .int (-1), .int 0, .int 0, .ref q1, .ref q5, .null, .long 0, .ref q9, .null])), (q1, .inr (10, [.int 0, .ref G.2.2.2.2, .int 0])), (q5, .inr (10, [.int 0, .ref G.2.2.2.2, .int 0])), (q9, .inr (10, [.int 0, .ref G.2.2.2.2, .int 0])), (q13, .inr (10, [.int 0, .ref G.2.2.2.2, .int 0]))] H := hP
  have hD : va_D A [(h0, .inr (2, [.int x1, .int x2, .int (-1), .int 0, .int (-1), .int 0, .int 0, .ref q1, .ref q5, .null, .long 0, .ref q9, .null])), (q1, .inr (10, [.int 0, .ref G.2.2.2.2, .int 0])), (q5, .inr (10, [.int 0, .ref G.2.2.2.2, .int 0])), (q9, .inr (10, [.int 0, .ref G.2.2.2.2, .int 0])), (q13, .inr (10, [.int 0, .ref G.2.2.2.2, .int 0]))] := hD
  refine W.widen (k := 4) (n := 12) (Nat.le_of_ble_eq_true rfl) (Nat.le_of_ble_eq_true rfl) ?_
  refine W.eq (g2 := F0 m 71 ls [.ref q13, .ref h0]) rfl ?_
  refine va_putF (D := G.1) (ci := 2) (v := .ref q13) (ty := (.object "java/util/ArrayList")) (C := RX2) (T := TX2) (N := 13) hx hb hq pin_wsX20 tyX2 tyX2_ok nmX2 hown hE.1.1 hP hD hS 0 rfl rfl 12 (by decide) (hq _ pw_176) (fun _ h9 => h9) rfl hin rfl (by decide +kernel) rfl rfl (Nat.le_of_ble_eq_true rfl) dX2_init_71 (fun H locs hP hD hS => ?_)
  have hP : va_P G.1 pCl [(h0, .inr (2, [.int x1, .int x2, .int (-1), .int 0, .int (-1), .int 0, .int 0, .ref q1, .ref q5, .null, .long 0, .ref q9, .ref q13])), (q1, .inr (10, [.int 0, .ref G.2.2.2.2, .int 0])), (q5, .inr (10, [.int 0, .ref G.2.2.2.2, .int 0])), (q9, .inr (10, [.int 0, .ref G.2.2.2.2, .int 0])), (q13, .inr (10, [.int 0, .ref G.2.2.2.2, .int 0]))] H := hP
  have hD : va_D A [(h0, .inr (2, [.int x1, .int x2, .int (-1), .int 0, .int (-1), .int 0, .int 0, .ref q1, .ref q5, .null, .long 0, .ref q9, .ref q13])), (q1, .inr (10, [.int 0, .ref G.2.2.2.2, .int 0])), (q5, .inr (10, [.int 0, .ref G.2.2.2.2, .int 0])), (q9, .inr (10, [.int 0, .ref G.2.2.2.2, .int 0])), (q13, .inr (10, [.int 0, .ref G.2.2.2.2, .int 0]))] := hD
  refine W.widen (k := 4) (n := 12) (Nat.le_of_ble_eq_true rfl) (Nat.le_of_ble_eq_true rfl) ?_
  exact W.vret hx hb hr (fun t ht hW => ⟨⟨_, ((fun k => match k with | 0 => q1 | 1 => q5 | 2 => q9 | _ => q13), (fun _ => fun _ => 0), (fun _ => fun _ => 0)), rfl, rfl, by rw [ht]; exact hP.sub [0] rfl, hD.sub [0] (by decide) rfl⟩, hS.F ht⟩) hS.2.2 dX2_init_74

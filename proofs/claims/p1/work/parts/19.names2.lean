theorem fill_step {k : Nat} {g : Nat → Int32} (hlt : k < 256) (hg : ∀ j : Nat, j < k → g j < 0) : ∀ j : Nat, j < k + 1 → upd g (Int32.toNatClampNeg (nI k)) (-1) j < 0 := fun j hj => by
  rw [nI_clamp (by omega)]
  unfold upd
  by_cases e : j = k
  · rw [if_pos e]; decide
  · rw [if_neg e]; exact hg j (by omega)
theorem nI_subN {a b : Nat} (h : a ≤ b) : nI b - nI a = nI (b - a) := by
  have e : nI b = nI (b - a) + nI a := by rw [nI_add, Nat.sub_add_cancel h]
  rw [e, Int32.add_sub_cancel]
set_option maxHeartbeats 1000000 in
set_option maxRecDepth 100000 in
/-- Arrays.fill(buckets, NONE) -/
theorem c_fillN (l : Launch) (G : pT) (q : Nat) (f : Nat → Int32) : PM l G pX0 yJ7_fill_53178 cJ7_fill_53178 4 none ({ frames := 2, cells := 0, slots := 0, locals := 60 }) [.ref q, .int (-1)] [(q, .inl (G.2.1 0, 256, .inl f))] (fun (v : Option Value) (u : Nat → Int32) => v = none ∧ ∀ j : Nat, j < 256 → u j < 0) (fun u => [(q, .inl (G.2.1 0, 256, .inl u))]) := by
  intro sz
  refine Met.ofW (cc := cJ7_fill_53178) (maxL := 4) (ret := none) (by decide) rfl ?_
  intro p e s m args below meth c s₁ B hml hv
  obtain ⟨rfl, hsz, hP, hD0, hE, hX⟩ := hv
  have hx := B.exec
  have hb := B.bytes
  have hr := B.returns
  have hts := atoms_spec (ws := Cond.code yJ7_fill_53178 cJ7_fill_53178 4 none :: pw) B.pre
  have hq : ∀ w ∈ pw, w.before _ s = true := fun w h => hts w (List.mem_cons_of_mem _ h)
  have hown : s.vm.findClass RJ7 = some m.cls := findClass_of_methodNamed B.named
  have hlocks := B.notSynchronized
  subst hsz
  have hD := hD0.self (sz := s.heap.size)
  have hA : ∀ q : Nat, s.heap.size ≤ q → va_A [(q, .inl (G.2.1 0, 256, .inl f))] s.heap.size q := fun q h => Or.inr h
  have hP : va_P G.1 pCl [(q, .inl (G.2.1 0, 256, .inl f))] s.heap := hP
  generalize va_A [(q, .inl (G.2.1 0, 256, .inl f))] s.heap.size = A at hD hE hA ⊢
  have hS : va_S A s.heap s.heap [] := va_S.rf
  have hl := lv_entry ([.ref q, .int (-1)]) (n := 4) (Nat.le_of_ble_eq_true rfl)
  rw [lg_entry_eq]
  generalize (lg_sl ([.ref q, .int (-1)]) ++ List.replicate (4 - (lg_sl ([.ref q, .int (-1)])).length) Slot.unset).toArray = ls at hl ⊢
  have hl : lv_has ls 4 [(0, .ref q), (1, .int (-1))] := hl
  refine lv_iconst (v := 0) hx hb dJ7_fill_53178_0 (by decide) ?_
  refine lv_istore_n (lv' := [(2, .int 0), (0, .ref q), (1, .int (-1))]) hx hb dJ7_fill_53178_1 rfl hl (by decide) rfl (fun ls hl => ?_)
  refine lv_aload_n hx hb dJ7_fill_53178_2 rfl (lv_at hl 1 rfl) ?_
  refine va_alen (v := 256) hx hb hE.1.1 hP 0 0 rfl rfl (show Int32.ofNat 256 = 256 from by decide) dJ7_fill_53178_3 ?_
  refine lv_istore_n (lv' := [(3, .int 256), (2, .int 0), (0, .ref q), (1, .int (-1))]) hx hb dJ7_fill_53178_4 rfl hl (by decide) rfl (fun ls hl => ?_)
  have loop_f : ∀ (n_f k : Nat) (g : Nat → Int32) (H : Heap) (locs : List Loc) (ls : Array Slot), k ≤ 256 → 256 + 1 ≤ k + n_f → (∀ j : Nat, j < k → g j < 0) → va_P G.1 pCl [(q, .inl (G.2.1 0, 256, .inl g))] H → va_D A [(q, .inl (G.2.1 0, 256, .inl g))] → va_S A s.heap H locs → lv_has ls 4 [(2, .int (nI k)), (3, .int 256), (0, .ref q), (1, .int (-1))] → W p l e (headSpec (Cond.code yJ7_fill_53178 cJ7_fill_53178 4 none :: pw) ({ frames := 2, cells := 0, slots := 0, locals := 60 } : Room)).room s m ([.ref q, .int (-1)] : List Value).toArray below meth c H locs 0 0 (MQ below (pQ G A (fun (v : Option Value) (u : Nat → Int32) => v = none ∧ ∀ j : Nat, j < 256 → u j < 0) (fun u => [(q, .inl (G.2.1 0, 256, .inl u))])) ([.ref q, .int (-1)] : List Value).toArray s ({ frames := 2, cells := 0, slots := 0, locals := 60 } : Room).cells ({ frames := 2, cells := 0, slots := 0, locals := 60 } : Room).slots A) (F0 m 5 ls []) := by
    intro n_f
    induction n_f with
    | zero => intro k g H locs ls hk_f hn_f; omega
    | succ n_f ih_f =>
      intro k g H locs ls hk_f hn_f hg hP hD hS hl
      refine lv_iload_n hx hb dJ7_fill_53178_5 rfl (lv_at hl 0 rfl) ?_
      refine lv_iload_n hx hb dJ7_fill_53178_6 rfl (lv_at hl 1 rfl) ?_
      refine lv_icmp_ge (tgt := 20) hx hb dJ7_fill_53178_7 (by decide) (fun c1 => ?_) (fun c1 => ?_)
      · refine W.widen (k := 0) (n := 0) (Nat.le_of_ble_eq_true rfl) (Nat.le_of_ble_eq_true rfl) ?_
        exact W.vret hx hb hr (fun t ht hW => ⟨⟨_, g, rfl, ⟨rfl, fun j hj => hg j (by have := Nat.le_of_not_lt (fun h => absurd c1 (nI_ge (b := 256) h (by decide))); omega)⟩, by rw [ht]; exact hP.sub [0] rfl, hD.sub [0] (by decide) rfl⟩, hS.F ht⟩) hS.2.2 dJ7_fill_53178_20
      · have hlt : k < 256 := Nat.lt_of_not_le (fun h => c1 (nI_le (a := 256) h (by omega)))
        refine lv_aload_n hx hb dJ7_fill_53178_10 rfl (lv_at hl 2 rfl) ?_
        refine lv_iload_n hx hb dJ7_fill_53178_11 rfl (lv_at hl 0 rfl) ?_
        refine lv_iload_n hx hb dJ7_fill_53178_12 rfl (lv_at hl 3 rfl) ?_
        refine va_iast hx hb hE.1.1 hP hD hS 0 0 rfl rfl (vp_in_nI hlt (by decide)) dJ7_fill_53178_13 (fun H locs hP hD hS => ?_)
        have hP : va_P G.1 pCl [(q, .inl (G.2.1 0, 256, .inl (upd g (Int32.toNatClampNeg (nI k)) (-1))))] H := hP
        have hD : va_D A [(q, .inl (G.2.1 0, 256, .inl (upd g (Int32.toNatClampNeg (nI k)) (-1))))] := hD
        refine lv_iinc (v := (nI (k + 1))) (lv' := [(2, .int (nI (k + 1))), (3, .int 256), (0, .ref q), (1, .int (-1))]) hx hb dJ7_fill_53178_14 hl (k := 0) rfl (nI_1 k) (by decide) rfl (fun ls hl => ?_)
        refine lv_goto (tgt := 5) hx hb dJ7_fill_53178_17 (by decide) ?_
        exact ih_f (k + 1) (upd g (Int32.toNatClampNeg (nI k)) (-1)) _ _ _ (by omega) (by omega) (fill_step hlt hg) hP hD hS (lv_sub hl [0, 1, 2, 3] rfl)
  exact loop_f (256 + 1) 0 f _ _ _ (by omega) (by omega) (fun j hj => absurd hj (Nat.not_lt_zero _)) hP hD hS (lv_sub hl [1, 0, 2, 3] rfl)
theorem dX10_learnBuiltIn_0 : decode cX10_learnBuiltIn 0 = .ok (.aload_n 0, 1) := by decide +kernel
theorem dX10_learnBuiltIn_1 : decode cX10_learnBuiltIn 1 = .ok (.iconst 0, 1) := by decide +kernel
theorem dX10_learnBuiltIn_2 : decode cX10_learnBuiltIn 2 = .ok (.putfield 100, 3) := by decide +kernel
theorem dX10_learnBuiltIn_5 : decode cX10_learnBuiltIn 5 = .ok (.aload_n 0, 1) := by decide +kernel
theorem dX10_learnBuiltIn_6 : decode cX10_learnBuiltIn 6 = .ok (.getfield 60, 3) := by decide +kernel
theorem dX10_learnBuiltIn_9 : decode cX10_learnBuiltIn 9 = .ok (.iconst (-1), 1) := by decide +kernel
theorem dX10_learnBuiltIn_10 : decode cX10_learnBuiltIn 10 = .ok (.invokestatic 103, 3) := by decide +kernel
theorem dX10_learnBuiltIn_13 : decode cX10_learnBuiltIn 13 = .ok (.iconst 0, 1) := by decide +kernel
theorem dX10_learnBuiltIn_14 : decode cX10_learnBuiltIn 14 = .ok (.istore_n 1, 1) := by decide +kernel
theorem dX10_learnBuiltIn_15 : decode cX10_learnBuiltIn 15 = .ok (.iconst 0, 1) := by decide +kernel
theorem dX10_learnBuiltIn_16 : decode cX10_learnBuiltIn 16 = .ok (.istore_n 2, 1) := by decide +kernel
theorem dX10_learnBuiltIn_17 : decode cX10_learnBuiltIn 17 = .ok (.iload_n 2, 1) := by decide +kernel
theorem dX10_learnBuiltIn_18 : decode cX10_learnBuiltIn 18 = .ok (.aload_n 0, 1) := by decide +kernel
theorem dX10_learnBuiltIn_19 : decode cX10_learnBuiltIn 19 = .ok (.getfield 23, 3) := by decide +kernel
theorem dX10_learnBuiltIn_22 : decode cX10_learnBuiltIn 22 = .ok (.if_icmp .ge 33, 3) := by decide +kernel
theorem dX10_learnBuiltIn_55 : decode cX10_learnBuiltIn 55 = .ok (.return_, 1) := by decide +kernel
theorem dX10_learnBuiltIn_25 : decode cX10_learnBuiltIn 25 = .ok (.aload_n 0, 1) := by decide +kernel
theorem dX10_learnBuiltIn_26 : decode cX10_learnBuiltIn 26 = .ok (.getfield 27, 3) := by decide +kernel
theorem dX10_learnBuiltIn_29 : decode cX10_learnBuiltIn 29 = .ok (.iload_n 2, 1) := by decide +kernel
theorem dX10_learnBuiltIn_30 : decode cX10_learnBuiltIn 30 = .ok (.baload, 1) := by decide +kernel
theorem dX10_learnBuiltIn_31 : decode cX10_learnBuiltIn 31 = .ok (.bipush 32, 2) := by decide +kernel
theorem dX10_learnBuiltIn_33 : decode cX10_learnBuiltIn 33 = .ok (.if_icmp .ne 16, 3) := by decide +kernel
theorem dX10_learnBuiltIn_49 : decode cX10_learnBuiltIn 49 = .ok (.iinc 2 1, 3) := by decide +kernel
theorem dX10_learnBuiltIn_52 : decode cX10_learnBuiltIn 52 = .ok (.goto (-35), 3) := by decide +kernel
theorem dX10_learnBuiltIn_36 : decode cX10_learnBuiltIn 36 = .ok (.aload_n 0, 1) := by decide +kernel
theorem dX10_learnBuiltIn_37 : decode cX10_learnBuiltIn 37 = .ok (.iload_n 1, 1) := by decide +kernel
theorem dX10_learnBuiltIn_38 : decode cX10_learnBuiltIn 38 = .ok (.iload_n 2, 1) := by decide +kernel
theorem dX10_learnBuiltIn_39 : decode cX10_learnBuiltIn 39 = .ok (.iload_n 1, 1) := by decide +kernel
theorem dX10_learnBuiltIn_40 : decode cX10_learnBuiltIn 40 = .ok (.isub, 1) := by decide +kernel
theorem dX10_learnBuiltIn_41 : decode cX10_learnBuiltIn 41 = .ok (.invokevirtual 109, 3) := by decide +kernel
theorem dX10_learnBuiltIn_44 : decode cX10_learnBuiltIn 44 = .ok (.pop, 1) := by decide +kernel
theorem dX10_learnBuiltIn_45 : decode cX10_learnBuiltIn 45 = .ok (.iload_n 2, 1) := by decide +kernel
theorem dX10_learnBuiltIn_46 : decode cX10_learnBuiltIn 46 = .ok (.iconst 1, 1) := by decide +kernel
theorem dX10_learnBuiltIn_47 : decode cX10_learnBuiltIn 47 = .ok (.iadd, 1) := by decide +kernel
theorem dX10_learnBuiltIn_48 : decode cX10_learnBuiltIn 48 = .ok (.istore_n 1, 1) := by decide +kernel
theorem hV_X10_nameOf : yX10_nameOf.cls = RX10 ∧ yX10_nameOf.cls ≠ "java/lang/invoke/MethodHandle" ∧ yX10_nameOf.cls ≠ "java/lang/invoke/VarHandle" ∧ (parseMethodDescriptor yX10_nameOf.desc).map (fun d => d.parameters.length) = some 2 := by decide +kernel
set_option maxHeartbeats 1000000 in
set_option maxRecDepth 100000 in
/-- learnBuiltIn: it comes to its end -/
theorem c_learn (l : Launch) (G : pT) (k2 : Nat) (t1 : Nat) (t2 : Nat) (t3 : Nat) (t4 : Nat) (t5 : Nat) (t6 : Nat) (t7 : Nat) (t8 : Nat) (t9 : Nat) (t10 : Nat) (fb : Nat → Int32) (f7 : Nat → Int32) (f8 : Nat → Int32) (f9 : Nat → Int32) (f10 : Nat → Int32) : PM l G pX0 yX10_learnBuiltIn cX10_learnBuiltIn 3 none ({ frames := 4, cells := 0, slots := 0, locals := 110 }) [.ref k2] [(k2, .inr (7, [.ref t1, .int 220, .int 0, .ref t2, .ref t3, .ref t4, .ref t5, .ref t6, .int 0, .ref t7, .ref t8, .ref t9, .ref t10, .int 0, .int 0])), (t1, .inl (G.2.1 1, 5220, .inl fb)), (t7, .inl (G.2.1 0, 2540, .inl f7)), (t8, .inl (G.2.1 0, 2540, .inl f8)), (t9, .inl (G.2.1 0, 2540, .inl f9)), (t10, .inl (G.2.1 0, 256, .inl f10))] (fun (v : Option Value) (u : Nat) => v = none) (fun u => [(k2, .inr (7, [.ref t1, .int 220, .int 0, .ref t2, .ref t3, .ref t4, .ref t5, .ref t6, .int 0, .ref t7, .ref t8, .ref t9, .ref t10, .int (nI u), .int 0])), (t1, .inl (G.2.1 1, 5220, .inl fb))]) := by
  intro sz
  refine Met.ofW (cc := cX10_learnBuiltIn) (maxL := 3) (ret := none) (by decide) rfl ?_
  intro p e s m args below meth c s₁ B hml hv
  obtain ⟨rfl, hsz, hP, hD0, hE, hX⟩ := hv
  have hx := B.exec
  have hb := B.bytes
  have hr := B.returns
  have hts := atoms_spec (ws := Cond.code yX10_learnBuiltIn cX10_learnBuiltIn 3 none :: pw) B.pre
  have hq : ∀ w ∈ pw, w.before _ s = true := fun w h => hts w (List.mem_cons_of_mem _ h)
  have hown : s.vm.findClass RX10 = some m.cls := findClass_of_methodNamed B.named
  have hlocks := B.notSynchronized
  subst hsz
  have hD := hD0.self (sz := s.heap.size)
  have hA : ∀ q : Nat, s.heap.size ≤ q → va_A [(k2, .inr (7, [.ref t1, .int 220, .int 0, .ref t2, .ref t3, .ref t4, .ref t5, .ref t6, .int 0, .ref t7, .ref t8, .ref t9, .ref t10, .int 0, .int 0])), (t1, .inl (G.2.1 1, 5220, .inl fb)), (t7, .inl (G.2.1 0, 2540, .inl f7)), (t8, .inl (G.2.1 0, 2540, .inl f8)), (t9, .inl (G.2.1 0, 2540, .inl f9)), (t10, .inl (G.2.1 0, 256, .inl f10))] s.heap.size q := fun q h => Or.inr h
  have hP : va_P G.1 pCl [(k2, .inr (7, [.ref t1, .int 220, .int 0, .ref t2, .ref t3, .ref t4, .ref t5, .ref t6, .int 0, .ref t7, .ref t8, .ref t9, .ref t10, .int 0, .int 0])), (t1, .inl (G.2.1 1, 5220, .inl fb)), (t7, .inl (G.2.1 0, 2540, .inl f7)), (t8, .inl (G.2.1 0, 2540, .inl f8)), (t9, .inl (G.2.1 0, 2540, .inl f9)), (t10, .inl (G.2.1 0, 256, .inl f10))] s.heap := hP
  generalize va_A [(k2, .inr (7, [.ref t1, .int 220, .int 0, .ref t2, .ref t3, .ref t4, .ref t5, .ref t6, .int 0, .ref t7, .ref t8, .ref t9, .ref t10, .int 0, .int 0])), (t1, .inl (G.2.1 1, 5220, .inl fb)), (t7, .inl (G.2.1 0, 2540, .inl f7)), (t8, .inl (G.2.1 0, 2540, .inl f8)), (t9, .inl (G.2.1 0, 2540, .inl f9)), (t10, .inl (G.2.1 0, 256, .inl f10))] s.heap.size = A at hD hE hA ⊢
  have hS : va_S A s.heap s.heap [] := va_S.rf
  have hl := lv_entry ([.ref k2]) (n := 3) (Nat.le_of_ble_eq_true rfl)
  rw [lg_entry_eq]
  generalize (lg_sl ([.ref k2]) ++ List.replicate (3 - (lg_sl ([.ref k2])).length) Slot.unset).toArray = ls at hl ⊢
  have hl : lv_has ls 3 [(0, .ref k2)] := hl
  refine lv_aload_n hx hb dX10_learnBuiltIn_0 rfl (lv_at hl 0 rfl) ?_
  refine lv_iconst (v := 0) hx hb dX10_learnBuiltIn_1 (by decide) ?_
  refine va_put (D := G.1) (ci := 7) (v := .int 0) (ty := .int) (C := RX10) (T := TX10) (N := 15) hx hb hq pin_wsX100 tyX10 tyX10_ok nmX10 hown hE.1.1 hP hD hS 0 rfl rfl 13 (by decide) (hq _ pw_74) (fun _ h9 => h9) rfl (by decide +kernel) rfl rfl (Nat.le_of_ble_eq_true rfl) dX10_learnBuiltIn_2 (fun H locs hP hD hS => ?_)
  have hP : va_P G.1 pCl [(k2, .inr (7, [.ref t1, .int 220, .int 0, .ref t2, .ref t3, .ref t4, .ref t5, .ref t6, .int 0, .ref t7, .ref t8, .ref t9, .ref t10, .int 0, .int 0])), (t1, .inl (G.2.1 1, 5220, .inl fb)), (t7, .inl (G.2.1 0, 2540, .inl f7)), (t8, .inl (G.2.1 0, 2540, .inl f8)), (t9, .inl (G.2.1 0, 2540, .inl f9)), (t10, .inl (G.2.1 0, 256, .inl f10))] H := hP
  have hD : va_D A [(k2, .inr (7, [.ref t1, .int 220, .int 0, .ref t2, .ref t3, .ref t4, .ref t5, .ref t6, .int 0, .ref t7, .ref t8, .ref t9, .ref t10, .int 0, .int 0])), (t1, .inl (G.2.1 1, 5220, .inl fb)), (t7, .inl (G.2.1 0, 2540, .inl f7)), (t8, .inl (G.2.1 0, 2540, .inl f8)), (t9, .inl (G.2.1 0, 2540, .inl f9)), (t10, .inl (G.2.1 0, 256, .inl f10))] := hD
  refine lv_aload_n hx hb dX10_learnBuiltIn_5 rfl (lv_at hl 0 rfl) ?_
  refine va_get (D := G.1) (ci := 7) (v := .ref t10) (C := RX10) (T := TX10) (N := 15) hx hb hq pin_wsX100 hown hE.1.1 hP 0 rfl rfl 12 (by decide) (hq _ pw_64) (fun _ h9 => h9) rfl dX10_learnBuiltIn_6 ?_
  refine lv_iconst (v := (-1)) hx hb dX10_learnBuiltIn_9 (by decide) ?_
  refine pc_S (G := G) (As := [.ref t10, .int (-1)]) (rest := []) (wr := [(k2, .inr (7, [.ref t1, .int 220, .int 0, .ref t2, .ref t3, .ref t4, .ref t5, .ref t6, .int 0, .ref t7, .ref t8, .ref t9, .ref t10, .int 0, .int 0])), (t1, .inl (G.2.1 1, 5220, .inl fb)), (t7, .inl (G.2.1 0, 2540, .inl f7)), (t8, .inl (G.2.1 0, 2540, .inl f8)), (t9, .inl (G.2.1 0, 2540, .inl f9))]) hx hb hml hown hq hE hX pX0_al hP hD hS hA hl.1 (c_fillN l G t10 f10) (gS pw_75 pw_629 pw_630 pw_628) hS_J7_fill_53178 [5] [0, 1, 2, 3, 4] rfl rfl (by decide) (by decide) (by decide) rfl (Nat.le_of_ble_eq_true rfl) dX10_learnBuiltIn_10 ⟨Nat.le_of_ble_eq_true rfl, Nat.le_of_ble_eq_true rfl⟩ ⟨Nat.le_of_ble_eq_true rfl, Nat.le_of_ble_eq_true rfl⟩ (fun v3 f1 H locs hw2 hP hD hS => ?_)
  obtain rfl : v3 = none := hw2.1
  have hP : va_P G.1 pCl [(k2, .inr (7, [.ref t1, .int 220, .int 0, .ref t2, .ref t3, .ref t4, .ref t5, .ref t6, .int 0, .ref t7, .ref t8, .ref t9, .ref t10, .int 0, .int 0])), (t1, .inl (G.2.1 1, 5220, .inl fb)), (t7, .inl (G.2.1 0, 2540, .inl f7)), (t8, .inl (G.2.1 0, 2540, .inl f8)), (t9, .inl (G.2.1 0, 2540, .inl f9)), (t10, .inl (G.2.1 0, 256, .inl f1))] H := hP
  have hD : va_D A [(k2, .inr (7, [.ref t1, .int 220, .int 0, .ref t2, .ref t3, .ref t4, .ref t5, .ref t6, .int 0, .ref t7, .ref t8, .ref t9, .ref t10, .int 0, .int 0])), (t1, .inl (G.2.1 1, 5220, .inl fb)), (t7, .inl (G.2.1 0, 2540, .inl f7)), (t8, .inl (G.2.1 0, 2540, .inl f8)), (t9, .inl (G.2.1 0, 2540, .inl f9)), (t10, .inl (G.2.1 0, 256, .inl f1))] := hD
  refine W.widen (k := 0) (n := 0) (Nat.le_of_ble_eq_true rfl) (Nat.le_of_ble_eq_true rfl) ?_
  refine W.eq (g2 := F0 m 13 ls []) rfl ?_
  refine lv_iconst (v := 0) hx hb dX10_learnBuiltIn_13 (by decide) ?_
  refine lv_istore_n (lv' := [(1, .int 0), (0, .ref k2)]) hx hb dX10_learnBuiltIn_14 rfl hl (by decide) rfl (fun ls hl => ?_)
  refine lv_iconst (v := 0) hx hb dX10_learnBuiltIn_15 (by decide) ?_
  refine lv_istore_n (lv' := [(2, .int 0), (1, .int 0), (0, .ref k2)]) hx hb dX10_learnBuiltIn_16 rfl hl (by decide) rfl (fun ls hl => ?_)
  have loop_l : ∀ (n_l k : Nat) (a : Nat) (nm : Nat) (g7 : Nat → Int32) (g8 : Nat → Int32) (g9 : Nat → Int32) (g10 : Nat → Int32) (H : Heap) (locs : List Loc) (ls : Array Slot), k ≤ 220 → 220 + 1 ≤ k + n_l → (a ≤ k) → (nm ≤ k) → (nInv nm g7 g8 g9 g10) → va_P G.1 pCl [(k2, .inr (7, [.ref t1, .int 220, .int 0, .ref t2, .ref t3, .ref t4, .ref t5, .ref t6, .int 0, .ref t7, .ref t8, .ref t9, .ref t10, .int (nI nm), .int 0])), (t1, .inl (G.2.1 1, 5220, .inl fb)), (t7, .inl (G.2.1 0, 2540, .inl g7)), (t8, .inl (G.2.1 0, 2540, .inl g8)), (t9, .inl (G.2.1 0, 2540, .inl g9)), (t10, .inl (G.2.1 0, 256, .inl g10))] H → va_D A [(k2, .inr (7, [.ref t1, .int 220, .int 0, .ref t2, .ref t3, .ref t4, .ref t5, .ref t6, .int 0, .ref t7, .ref t8, .ref t9, .ref t10, .int (nI nm), .int 0])), (t1, .inl (G.2.1 1, 5220, .inl fb)), (t7, .inl (G.2.1 0, 2540, .inl g7)), (t8, .inl (G.2.1 0, 2540, .inl g8)), (t9, .inl (G.2.1 0, 2540, .inl g9)), (t10, .inl (G.2.1 0, 256, .inl g10))] → va_S A s.heap H locs → lv_has ls 3 [(2, .int (nI k)), (1, .int (nI a)), (0, .ref k2)] → W p l e (headSpec (Cond.code yX10_learnBuiltIn cX10_learnBuiltIn 3 none :: pw) ({ frames := 4, cells := 0, slots := 0, locals := 110 } : Room)).room s m ([.ref k2] : List Value).toArray below meth c H locs 0 0 (MQ below (pQ G A (fun (v : Option Value) (u : Nat) => v = none) (fun u => [(k2, .inr (7, [.ref t1, .int 220, .int 0, .ref t2, .ref t3, .ref t4, .ref t5, .ref t6, .int 0, .ref t7, .ref t8, .ref t9, .ref t10, .int (nI u), .int 0])), (t1, .inl (G.2.1 1, 5220, .inl fb))])) ([.ref k2] : List Value).toArray s ({ frames := 4, cells := 0, slots := 0, locals := 110 } : Room).cells ({ frames := 4, cells := 0, slots := 0, locals := 110 } : Room).slots A) (F0 m 17 ls []) := by
    intro n_l
    induction n_l with
    | zero => intro k a nm g7 g8 g9 g10 H locs ls hk_l hn_l; omega
    | succ n_l ih_l =>
      intro k a nm g7 g8 g9 g10 H locs ls hk_l hn_l ha hnm hI hP hD hS hl
      refine lv_iload_n hx hb dX10_learnBuiltIn_17 rfl (lv_at hl 0 rfl) ?_
      refine lv_aload_n hx hb dX10_learnBuiltIn_18 rfl (lv_at hl 2 rfl) ?_
      refine va_get (D := G.1) (ci := 7) (v := .int 220) (C := RX10) (T := TX10) (N := 15) hx hb hq pin_wsX100 hown hE.1.1 hP 0 rfl rfl 1 (by decide) (hq _ pw_53) (fun _ h9 => h9) rfl dX10_learnBuiltIn_19 ?_
      refine lv_icmp_ge (tgt := 55) hx hb dX10_learnBuiltIn_22 (by decide) (fun c4 => ?_) (fun c4 => ?_)
      · refine W.widen (k := 0) (n := 0) (Nat.le_of_ble_eq_true rfl) (Nat.le_of_ble_eq_true rfl) ?_
        exact W.vret hx hb hr (fun t ht hW => ⟨⟨_, nm, rfl, rfl, by rw [ht]; exact hP.sub [0, 1] rfl, hD.sub [0, 1] (by decide) rfl⟩, hS.F ht⟩) hS.2.2 dX10_learnBuiltIn_55
      · have hlt : k < 220 := Nat.lt_of_not_le (fun h => c4 (nI_le (a := 220) h (by omega)))
        refine lv_aload_n hx hb dX10_learnBuiltIn_25 rfl (lv_at hl 2 rfl) ?_
        refine va_get (D := G.1) (ci := 7) (v := .ref t1) (C := RX10) (T := TX10) (N := 15) hx hb hq pin_wsX100 hown hE.1.1 hP 0 rfl rfl 0 (by decide) (hq _ pw_54) (fun _ h9 => h9) rfl dX10_learnBuiltIn_26 ?_
        refine lv_iload_n hx hb dX10_learnBuiltIn_29 rfl (lv_at hl 0 rfl) ?_
        refine va_bald hx hb hE.1.1 hP 1 1 rfl rfl (vp_in_nI (by omega) (by decide)) dX10_learnBuiltIn_30 ?_
        refine lv_topi (fun x5 e6 => ?_)
        refine lv_bipush (v := 32) hx hb dX10_learnBuiltIn_31 (by decide) ?_
        refine lv_icmp_ne (tgt := 49) hx hb dX10_learnBuiltIn_33 (by decide) (fun c7 => ?_) (fun c7 => ?_)
        · refine lv_iinc (v := (nI (k + 1))) (lv' := [(2, .int (nI (k + 1))), (1, .int (nI a)), (0, .ref k2)]) hx hb dX10_learnBuiltIn_49 hl (k := 0) rfl (nI_1 k) (by decide) rfl (fun ls hl => ?_)
          refine lv_goto (tgt := 17) hx hb dX10_learnBuiltIn_52 (by decide) ?_
          exact ih_l (k + 1) a nm g7 g8 g9 g10 _ _ _ (by omega) (by omega) (by omega) (by omega) hI hP hD hS (lv_sub hl [0, 1, 2] rfl)
        · refine lv_aload_n hx hb dX10_learnBuiltIn_36 rfl (lv_at hl 2 rfl) ?_
          refine lv_iload_n hx hb dX10_learnBuiltIn_37 rfl (lv_at hl 1 rfl) ?_
          refine lv_iload_n hx hb dX10_learnBuiltIn_38 rfl (lv_at hl 0 rfl) ?_
          refine lv_iload_n hx hb dX10_learnBuiltIn_39 rfl (lv_at hl 1 rfl) ?_
          refine lv_isub hx hb dX10_learnBuiltIn_40 ?_
          refine lv_topi (fun x8 e9 => ?_)
          obtain rfl : x8 = nI (k - a) := e9.trans (nI_subN ha)
          refine pc_V (G := G) (As := [.int (nI a), .int (nI (k - a))]) (rest := []) (wr := []) hx hb hml hown hq hE hX pX0_al hP hD hS hA hl.1 (c_nameOf l G k2 t1 t2 t3 t4 t5 t6 t7 t8 t9 t10 nm a ((k - a)) fb g7 g8 g9 g10 (by omega) (by omega) hI) (gV pw_76 pw_438 pw_439 pw_424 pw_437) hV_X10_nameOf 0 7 rfl rfl rfl [0, 1, 2, 3, 4, 5] [] rfl rfl (by decide) (by decide) (by decide) rfl (Nat.le_of_ble_eq_true rfl) dX10_learnBuiltIn_41 ⟨Nat.le_of_ble_eq_true rfl, Nat.le_of_ble_eq_true rfl⟩ ⟨Nat.le_of_ble_eq_true rfl, Nat.le_of_ble_eq_true rfl⟩ (fun v12 u10 H locs hw11 hP hD hS => ?_)
          obtain ⟨⟨x13, rfl⟩, hj14, hi15⟩ := hw11
          have hP : va_P G.1 pCl [(k2, .inr (7, [.ref t1, .int 220, .int 0, .ref t2, .ref t3, .ref t4, .ref t5, .ref t6, .int 0, .ref t7, .ref t8, .ref t9, .ref t10, .int (nI u10.1), .int 0])), (t1, .inl (G.2.1 1, 5220, .inl fb)), (t7, .inl (G.2.1 0, 2540, .inl u10.2.1)), (t8, .inl (G.2.1 0, 2540, .inl u10.2.2.1)), (t9, .inl (G.2.1 0, 2540, .inl u10.2.2.2.1)), (t10, .inl (G.2.1 0, 256, .inl u10.2.2.2.2))] H := hP
          have hD : va_D A [(k2, .inr (7, [.ref t1, .int 220, .int 0, .ref t2, .ref t3, .ref t4, .ref t5, .ref t6, .int 0, .ref t7, .ref t8, .ref t9, .ref t10, .int (nI u10.1), .int 0])), (t1, .inl (G.2.1 1, 5220, .inl fb)), (t7, .inl (G.2.1 0, 2540, .inl u10.2.1)), (t8, .inl (G.2.1 0, 2540, .inl u10.2.2.1)), (t9, .inl (G.2.1 0, 2540, .inl u10.2.2.2.1)), (t10, .inl (G.2.1 0, 256, .inl u10.2.2.2.2))] := hD
          obtain ⟨nm9, h7, h8, h9, h10⟩ := u10
          have hj14 : nm9 ≤ nm + 1 := hj14
          have hi15 : nInv nm9 h7 h8 h9 h10 := hi15
          have hP : va_P G.1 pCl [(k2, .inr (7, [.ref t1, .int 220, .int 0, .ref t2, .ref t3, .ref t4, .ref t5, .ref t6, .int 0, .ref t7, .ref t8, .ref t9, .ref t10, .int (nI nm9), .int 0])), (t1, .inl (G.2.1 1, 5220, .inl fb)), (t7, .inl (G.2.1 0, 2540, .inl h7)), (t8, .inl (G.2.1 0, 2540, .inl h8)), (t9, .inl (G.2.1 0, 2540, .inl h9)), (t10, .inl (G.2.1 0, 256, .inl h10))] H := hP
          have hD : va_D A [(k2, .inr (7, [.ref t1, .int 220, .int 0, .ref t2, .ref t3, .ref t4, .ref t5, .ref t6, .int 0, .ref t7, .ref t8, .ref t9, .ref t10, .int (nI nm9), .int 0])), (t1, .inl (G.2.1 1, 5220, .inl fb)), (t7, .inl (G.2.1 0, 2540, .inl h7)), (t8, .inl (G.2.1 0, 2540, .inl h8)), (t9, .inl (G.2.1 0, 2540, .inl h9)), (t10, .inl (G.2.1 0, 256, .inl h10))] := hD
          refine W.widen (k := 0) (n := 0) (Nat.le_of_ble_eq_true rfl) (Nat.le_of_ble_eq_true rfl) ?_
          refine W.eq (g2 := F0 m 44 ls [.int x13]) rfl ?_
          refine lv_pop hx hb dX10_learnBuiltIn_44 rfl ?_
          refine lv_iload_n hx hb dX10_learnBuiltIn_45 rfl (lv_at hl 0 rfl) ?_
          refine lv_iconst (v := 1) hx hb dX10_learnBuiltIn_46 (by decide) ?_
          refine lv_iadd hx hb dX10_learnBuiltIn_47 ?_
          refine lv_topi (fun x16 e17 => ?_)
          obtain rfl : x16 = nI (k + 1) := e17.trans (nI_add (k) (1))
          refine lv_istore_n (lv' := [(1, .int (nI (k + 1))), (2, .int (nI k)), (0, .ref k2)]) hx hb dX10_learnBuiltIn_48 rfl hl (by decide) rfl (fun ls hl => ?_)
          refine lv_iinc (v := (nI (k + 1))) (lv' := [(2, .int (nI (k + 1))), (1, .int (nI (k + 1))), (0, .ref k2)]) hx hb dX10_learnBuiltIn_49 hl (k := 1) rfl (nI_1 k) (by decide) rfl (fun ls hl => ?_)
          refine lv_goto (tgt := 17) hx hb dX10_learnBuiltIn_52 (by decide) ?_
          exact ih_l (k + 1) (k + 1) nm9 h7 h8 h9 h10 _ _ _ (by omega) (by omega) (by omega) (by omega) hi15 hP hD hS (lv_sub hl [0, 1, 2] rfl)
  exact loop_l (220 + 1) 0 0 0 f7 f8 f9 f1 _ _ _ (by omega) (by omega) (Nat.le_refl _) (Nat.le_refl _) (nInv_0 hw2.2) hP hD hS (lv_sub hl [0, 1, 2] rfl)
set_option maxHeartbeats 1000000 in
set_option maxRecDepth 100000 in
/-- pastBlanks(0) of an empty text: 0, the text stays -/
theorem c_pastBlanks2 (l : Launch) (G : pT) (k2 : Nat) (t1 : Nat) (t2 : Nat) (t3 : Nat) (t4 : Nat) (t5 : Nat) (t6 : Nat) (t7 : Nat) (t8 : Nat) (t9 : Nat) (t10 : Nat) (nm : Int32) : PM l G pX0 yX10_pastBlanks cX10_pastBlanks 5 (some .int) ({ frames := 2, cells := 0, slots := 0, locals := 60 }) [.ref k2, .int 0] [(k2, .inr (7, [.ref t1, .int 220, .int 0, .ref t2, .ref t3, .ref t4, .ref t5, .ref t6, .int 0, .ref t7, .ref t8, .ref t9, .ref t10, .int nm, .int 0]))] (fun (v : Option Value) (u : (Nat → Nat) × (Nat → Nat → Int32) × (Nat → Nat → Int64)) => v = some (.int 0)) (fun u => [(k2, .inr (7, [.ref t1, .int 220, .int 0, .ref t2, .ref t3, .ref t4, .ref t5, .ref t6, .int 0, .ref t7, .ref t8, .ref t9, .ref t10, .int nm, .int 0]))]) := by
  intro sz
  refine Met.ofW (cc := cX10_pastBlanks) (maxL := 5) (ret := (some .int)) (by decide) rfl ?_
  intro p e s m args below meth c s₁ B hml hv
  obtain ⟨rfl, hsz, hP, hD0, hE, hX⟩ := hv
  have hx := B.exec
  have hb := B.bytes
  have hr := B.returns
  have hts := atoms_spec (ws := Cond.code yX10_pastBlanks cX10_pastBlanks 5 (some .int) :: pw) B.pre
  have hq : ∀ w ∈ pw, w.before _ s = true := fun w h => hts w (List.mem_cons_of_mem _ h)
  have hown : s.vm.findClass RX10 = some m.cls := findClass_of_methodNamed B.named
  have hlocks := B.notSynchronized
  subst hsz
  have hD := hD0.self (sz := s.heap.size)
  have hA : ∀ q : Nat, s.heap.size ≤ q → va_A [(k2, .inr (7, [.ref t1, .int 220, .int 0, .ref t2, .ref t3, .ref t4, .ref t5, .ref t6, .int 0, .ref t7, .ref t8, .ref t9, .ref t10, .int nm, .int 0]))] s.heap.size q := fun q h => Or.inr h
  have hP : va_P G.1 pCl [(k2, .inr (7, [.ref t1, .int 220, .int 0, .ref t2, .ref t3, .ref t4, .ref t5, .ref t6, .int 0, .ref t7, .ref t8, .ref t9, .ref t10, .int nm, .int 0]))] s.heap := hP
  generalize va_A [(k2, .inr (7, [.ref t1, .int 220, .int 0, .ref t2, .ref t3, .ref t4, .ref t5, .ref t6, .int 0, .ref t7, .ref t8, .ref t9, .ref t10, .int nm, .int 0]))] s.heap.size = A at hD hE hA ⊢
  have hS : va_S A s.heap s.heap [] := va_S.rf
  have hl := lv_entry ([.ref k2, .int 0]) (n := 5) (Nat.le_of_ble_eq_true rfl)
  rw [lg_entry_eq]
  generalize (lg_sl ([.ref k2, .int 0]) ++ List.replicate (5 - (lg_sl ([.ref k2, .int 0])).length) Slot.unset).toArray = ls at hl ⊢
  have hl : lv_has ls 5 [(0, .ref k2), (1, .int 0)] := hl
  refine lv_iconst (v := 0) hx hb dX10_pastBlanks_0 (by decide) ?_
  refine lv_istore_n (lv' := [(2, .int 0), (0, .ref k2), (1, .int 0)]) hx hb dX10_pastBlanks_1 rfl hl (by decide) rfl (fun ls hl => ?_)
  refine lv_iload_n hx hb dX10_pastBlanks_2 rfl (lv_at hl 2 rfl) ?_
  refine lv_istore_n (lv' := [(3, .int 0), (2, .int 0), (0, .ref k2), (1, .int 0)]) hx hb dX10_pastBlanks_3 rfl hl (by decide) rfl (fun ls hl => ?_)
  refine lv_iload_n hx hb dX10_pastBlanks_4 rfl (lv_at hl 0 rfl) ?_
  refine lv_aload_n hx hb dX10_pastBlanks_5 rfl (lv_at hl 2 rfl) ?_
  refine va_get (D := G.1) (ci := 7) (v := .int 0) (C := RX10) (T := TX10) (N := 15) hx hb hq pin_wsX100 hown hE.1.1 hP 0 rfl rfl 2 (by decide) (hq _ pw_68) (fun _ h9 => h9) rfl dX10_pastBlanks_6 ?_
  refine lv_icmp_ge (tgt := 99) hx hb dX10_pastBlanks_9 (by decide) (fun c1 => ?_) (fun c1 => absurd c1 (by decide))
  refine lv_aload_n hx hb dX10_pastBlanks_99 rfl (lv_at hl 2 rfl) ?_
  refine va_get (D := G.1) (ci := 7) (v := .int 0) (C := RX10) (T := TX10) (N := 15) hx hb hq pin_wsX100 hown hE.1.1 hP 0 rfl rfl 2 (by decide) (hq _ pw_68) (fun _ h9 => h9) rfl dX10_pastBlanks_100 ?_
  refine W.widen (k := 0) (n := 0) (Nat.le_of_ble_eq_true rfl) (Nat.le_of_ble_eq_true rfl) ?_
  exact W.iret (v := 0) hx hb hr (fun t ht hW => ⟨⟨_, ((fun _ => 0), (fun _ => fun _ => 0), (fun _ => fun _ => 0)), rfl, rfl, by rw [ht]; exact hP.sub [0] rfl, hD.sub [0] (by decide) rfl⟩, hS.F ht⟩) hS.2.2 dX10_pastBlanks_103
theorem dX10_split_0 : decode cX10_split 0 = .ok (.aload_n 0, 1) := by decide +kernel
theorem dX10_split_1 : decode cX10_split 1 = .ok (.iconst 0, 1) := by decide +kernel
theorem dX10_split_2 : decode cX10_split 2 = .ok (.iload_n 2, 1) := by decide +kernel
theorem dX10_split_3 : decode cX10_split 3 = .ok (.aload_n 1, 1) := by decide +kernel
theorem dX10_split_4 : decode cX10_split 4 = .ok (.arraylength, 1) := by decide +kernel
theorem dX10_split_5 : decode cX10_split 5 = .ok (.sipush 5000, 3) := by decide +kernel
theorem dX10_split_8 : decode cX10_split 8 = .ok (.invokestatic 67, 3) := by decide +kernel
theorem dX10_split_11 : decode cX10_split 11 = .ok (.invokestatic 67, 3) := by decide +kernel
theorem dX10_split_14 : decode cX10_split 14 = .ok (.invokestatic 73, 3) := by decide +kernel
theorem dX10_split_17 : decode cX10_split 17 = .ok (.putfield 76, 3) := by decide +kernel
theorem dX10_split_20 : decode cX10_split 20 = .ok (.aload_n 1, 1) := by decide +kernel
theorem dX10_split_21 : decode cX10_split 21 = .ok (.iconst 0, 1) := by decide +kernel
theorem dX10_split_22 : decode cX10_split 22 = .ok (.aload_n 0, 1) := by decide +kernel
theorem dX10_split_23 : decode cX10_split 23 = .ok (.getfield 27, 3) := by decide +kernel
theorem dX10_split_26 : decode cX10_split 26 = .ok (.aload_n 0, 1) := by decide +kernel
theorem dX10_split_27 : decode cX10_split 27 = .ok (.getfield 23, 3) := by decide +kernel
theorem dX10_split_30 : decode cX10_split 30 = .ok (.aload_n 0, 1) := by decide +kernel
theorem dX10_split_31 : decode cX10_split 31 = .ok (.getfield 76, 3) := by decide +kernel
theorem dX10_split_34 : decode cX10_split 34 = .ok (.invokestatic 78, 3) := by decide +kernel
theorem dX10_split_37 : decode cX10_split 37 = .ok (.aload_n 0, 1) := by decide +kernel
theorem dX10_split_38 : decode cX10_split 38 = .ok (.iconst 0, 1) := by decide +kernel
theorem dX10_split_39 : decode cX10_split 39 = .ok (.putfield 84, 3) := by decide +kernel
theorem dX10_split_42 : decode cX10_split 42 = .ok (.aload_n 0, 1) := by decide +kernel
theorem dX10_split_43 : decode cX10_split 43 = .ok (.iconst 0, 1) := by decide +kernel
theorem dX10_split_44 : decode cX10_split 44 = .ok (.putfield 87, 3) := by decide +kernel
theorem dX10_split_47 : decode cX10_split 47 = .ok (.aload_n 0, 1) := by decide +kernel
theorem dX10_split_48 : decode cX10_split 48 = .ok (.invokevirtual 90, 3) := by decide +kernel
theorem dX10_split_51 : decode cX10_split 51 = .ok (.aload_n 0, 1) := by decide +kernel
theorem dX10_split_52 : decode cX10_split 52 = .ok (.iconst 0, 1) := by decide +kernel
theorem dX10_split_53 : decode cX10_split 53 = .ok (.invokevirtual 93, 3) := by decide +kernel
theorem dX10_split_56 : decode cX10_split 56 = .ok (.istore_n 3, 1) := by decide +kernel
theorem dX10_split_57 : decode cX10_split 57 = .ok (.iconst 0, 1) := by decide +kernel
theorem dX10_split_58 : decode cX10_split 58 = .ok (.istore 4, 2) := by decide +kernel
theorem dX10_split_60 : decode cX10_split 60 = .ok (.iload 4, 2) := by decide +kernel
theorem dX10_split_62 : decode cX10_split 62 = .ok (.aload_n 0, 1) := by decide +kernel
theorem dX10_split_63 : decode cX10_split 63 = .ok (.getfield 76, 3) := by decide +kernel
theorem dX10_split_66 : decode cX10_split 66 = .ok (.if_icmp .ge 44, 3) := by decide +kernel
theorem dX10_split_110 : decode cX10_split 110 = .ok (.return_, 1) := by decide +kernel
theorem hV_X10_learnBuiltIn : yX10_learnBuiltIn.cls = RX10 ∧ yX10_learnBuiltIn.cls ≠ "java/lang/invoke/MethodHandle" ∧ yX10_learnBuiltIn.cls ≠ "java/lang/invoke/VarHandle" ∧ (parseMethodDescriptor yX10_learnBuiltIn.desc).map (fun d => d.parameters.length) = some 0 := by decide +kernel
theorem hV_X10_pastBlanks : yX10_pastBlanks.cls = RX10 ∧ yX10_pastBlanks.cls ≠ "java/lang/invoke/MethodHandle" ∧ yX10_pastBlanks.cls ≠ "java/lang/invoke/VarHandle" ∧ (parseMethodDescriptor yX10_pastBlanks.desc).map (fun d => d.parameters.length) = some 1 := by decide +kernel
set_option maxHeartbeats 1000000 in
set_option maxRecDepth 100000 in
/-- split of an empty tape -/
theorem c_split (l : Launch) (G : pT) (k2 : Nat) (t1 : Nat) (t2 : Nat) (t3 : Nat) (t4 : Nat) (t5 : Nat) (t6 : Nat) (t7 : Nat) (t8 : Nat) (t9 : Nat) (t10 : Nat) (k1 : Nat) (ft : Nat → Int32) (fb : Nat → Int32) (f7 : Nat → Int32) (f8 : Nat → Int32) (f9 : Nat → Int32) (f10 : Nat → Int32) : PM l G pX0 yX10_split cX10_split 6 none ({ frames := 5, cells := 0, slots := 0, locals := 132 }) [.ref k2, .ref k1, .int 0] [(k2, .inr (7, [.ref t1, .int 220, .int 0, .ref t2, .ref t3, .ref t4, .ref t5, .ref t6, .int 0, .ref t7, .ref t8, .ref t9, .ref t10, .int 0, .int 0])), (k1, .inl (G.2.1 1, 5000, .inl ft)), (t1, .inl (G.2.1 1, 5220, .inl fb)), (t7, .inl (G.2.1 0, 2540, .inl f7)), (t8, .inl (G.2.1 0, 2540, .inl f8)), (t9, .inl (G.2.1 0, 2540, .inl f9)), (t10, .inl (G.2.1 0, 256, .inl f10))] (fun (v : Option Value) (u : Int32) => v = none) (fun u => [(k2, .inr (7, [.ref t1, .int 220, .int 0, .ref t2, .ref t3, .ref t4, .ref t5, .ref t6, .int 0, .ref t7, .ref t8, .ref t9, .ref t10, .int u, .int 0]))]) := by
  intro sz
  refine Met.ofW (cc := cX10_split) (maxL := 6) (ret := none) (by decide) rfl ?_
  intro p e s m args below meth c s₁ B hml hv
  obtain ⟨rfl, hsz, hP, hD0, hE, hX⟩ := hv
  have hx := B.exec
  have hb := B.bytes
  have hr := B.returns
  have hts := atoms_spec (ws := Cond.code yX10_split cX10_split 6 none :: pw) B.pre
  have hq : ∀ w ∈ pw, w.before _ s = true := fun w h => hts w (List.mem_cons_of_mem _ h)
  have hown : s.vm.findClass RX10 = some m.cls := findClass_of_methodNamed B.named
  have hlocks := B.notSynchronized
  subst hsz
  have hD := hD0.self (sz := s.heap.size)
  have hA : ∀ q : Nat, s.heap.size ≤ q → va_A [(k2, .inr (7, [.ref t1, .int 220, .int 0, .ref t2, .ref t3, .ref t4, .ref t5, .ref t6, .int 0, .ref t7, .ref t8, .ref t9, .ref t10, .int 0, .int 0])), (k1, .inl (G.2.1 1, 5000, .inl ft)), (t1, .inl (G.2.1 1, 5220, .inl fb)), (t7, .inl (G.2.1 0, 2540, .inl f7)), (t8, .inl (G.2.1 0, 2540, .inl f8)), (t9, .inl (G.2.1 0, 2540, .inl f9)), (t10, .inl (G.2.1 0, 256, .inl f10))] s.heap.size q := fun q h => Or.inr h
  have hP : va_P G.1 pCl [(k2, .inr (7, [.ref t1, .int 220, .int 0, .ref t2, .ref t3, .ref t4, .ref t5, .ref t6, .int 0, .ref t7, .ref t8, .ref t9, .ref t10, .int 0, .int 0])), (k1, .inl (G.2.1 1, 5000, .inl ft)), (t1, .inl (G.2.1 1, 5220, .inl fb)), (t7, .inl (G.2.1 0, 2540, .inl f7)), (t8, .inl (G.2.1 0, 2540, .inl f8)), (t9, .inl (G.2.1 0, 2540, .inl f9)), (t10, .inl (G.2.1 0, 256, .inl f10))] s.heap := hP
  generalize va_A [(k2, .inr (7, [.ref t1, .int 220, .int 0, .ref t2, .ref t3, .ref t4, .ref t5, .ref t6, .int 0, .ref t7, .ref t8, .ref t9, .ref t10, .int 0, .int 0])), (k1, .inl (G.2.1 1, 5000, .inl ft)), (t1, .inl (G.2.1 1, 5220, .inl fb)), (t7, .inl (G.2.1 0, 2540, .inl f7)), (t8, .inl (G.2.1 0, 2540, .inl f8)), (t9, .inl (G.2.1 0, 2540, .inl f9)), (t10, .inl (G.2.1 0, 256, .inl f10))] s.heap.size = A at hD hE hA ⊢
  have hS : va_S A s.heap s.heap [] := va_S.rf
  have hl := lv_entry ([.ref k2, .ref k1, .int 0]) (n := 6) (Nat.le_of_ble_eq_true rfl)
  rw [lg_entry_eq]
  generalize (lg_sl ([.ref k2, .ref k1, .int 0]) ++ List.replicate (6 - (lg_sl ([.ref k2, .ref k1, .int 0])).length) Slot.unset).toArray = ls at hl ⊢
  have hl : lv_has ls 6 [(0, .ref k2), (1, .ref k1), (2, .int 0)] := hl
  refine lv_aload_n hx hb dX10_split_0 rfl (lv_at hl 0 rfl) ?_
  refine lv_iconst (v := 0) hx hb dX10_split_1 (by decide) ?_
  refine lv_iload_n hx hb dX10_split_2 rfl (lv_at hl 2 rfl) ?_
  refine lv_aload_n hx hb dX10_split_3 rfl (lv_at hl 1 rfl) ?_
  refine va_alen (v := 5000) hx hb hE.1.1 hP 1 1 rfl rfl (show Int32.ofNat 5000 = 5000 from by decide) dX10_split_4 ?_
  refine lv_sipush (v := 5000) hx hb dX10_split_5 (by decide) ?_
  refine va_mmin (own := RX10) hx hb (by rw [hml]; exact hl.1.symm) hown (hq _ pw_66) (hq _ pw_646) (hq _ pw_640) (hq _ pw_647) (Nat.le_of_ble_eq_true rfl) (Nat.le_of_ble_eq_true rfl) (Nat.le_of_ble_eq_true rfl) (Nat.le_of_ble_eq_true rfl) dX10_split_8 ?_
  refine lv_topi (fun x1 e2 => ?_)
  obtain rfl : x1 = 5000 := e2.trans (by decide)
  refine va_mmin (own := RX10) hx hb (by rw [hml]; exact hl.1.symm) hown (hq _ pw_66) (hq _ pw_646) (hq _ pw_640) (hq _ pw_647) (Nat.le_of_ble_eq_true rfl) (Nat.le_of_ble_eq_true rfl) (Nat.le_of_ble_eq_true rfl) (Nat.le_of_ble_eq_true rfl) dX10_split_11 ?_
  refine lv_topi (fun x3 e4 => ?_)
  obtain rfl : x3 = 0 := e4.trans (by decide)
  refine va_mmax (own := RX10) hx hb (by rw [hml]; exact hl.1.symm) hown (hq _ pw_67) (hq _ pw_639) (hq _ pw_640) (hq _ pw_641) (Nat.le_of_ble_eq_true rfl) (Nat.le_of_ble_eq_true rfl) (Nat.le_of_ble_eq_true rfl) (Nat.le_of_ble_eq_true rfl) dX10_split_14 ?_
  refine lv_topi (fun x5 e6 => ?_)
  obtain rfl : x5 = 0 := e6.trans (by decide)
  refine va_put (D := G.1) (ci := 7) (v := .int 0) (ty := .int) (C := RX10) (T := TX10) (N := 15) hx hb hq pin_wsX100 tyX10 tyX10_ok nmX10 hown hE.1.1 hP hD hS 0 rfl rfl 2 (by decide) (hq _ pw_68) (fun _ h9 => h9) rfl (by decide +kernel) rfl rfl (Nat.le_of_ble_eq_true rfl) dX10_split_17 (fun H locs hP hD hS => ?_)
  have hP : va_P G.1 pCl [(k2, .inr (7, [.ref t1, .int 220, .int 0, .ref t2, .ref t3, .ref t4, .ref t5, .ref t6, .int 0, .ref t7, .ref t8, .ref t9, .ref t10, .int 0, .int 0])), (k1, .inl (G.2.1 1, 5000, .inl ft)), (t1, .inl (G.2.1 1, 5220, .inl fb)), (t7, .inl (G.2.1 0, 2540, .inl f7)), (t8, .inl (G.2.1 0, 2540, .inl f8)), (t9, .inl (G.2.1 0, 2540, .inl f9)), (t10, .inl (G.2.1 0, 256, .inl f10))] H := hP
  have hD : va_D A [(k2, .inr (7, [.ref t1, .int 220, .int 0, .ref t2, .ref t3, .ref t4, .ref t5, .ref t6, .int 0, .ref t7, .ref t8, .ref t9, .ref t10, .int 0, .int 0])), (k1, .inl (G.2.1 1, 5000, .inl ft)), (t1, .inl (G.2.1 1, 5220, .inl fb)), (t7, .inl (G.2.1 0, 2540, .inl f7)), (t8, .inl (G.2.1 0, 2540, .inl f8)), (t9, .inl (G.2.1 0, 2540, .inl f9)), (t10, .inl (G.2.1 0, 256, .inl f10))] := hD
  refine lv_aload_n hx hb dX10_split_20 rfl (lv_at hl 1 rfl) ?_
  refine lv_iconst (v := 0) hx hb dX10_split_21 (by decide) ?_
  refine lv_aload_n hx hb dX10_split_22 rfl (lv_at hl 0 rfl) ?_
  refine va_get (D := G.1) (ci := 7) (v := .ref t1) (C := RX10) (T := TX10) (N := 15) hx hb hq pin_wsX100 hown hE.1.1 hP 0 rfl rfl 0 (by decide) (hq _ pw_54) (fun _ h9 => h9) rfl dX10_split_23 ?_
  refine lv_aload_n hx hb dX10_split_26 rfl (lv_at hl 0 rfl) ?_
  refine va_get (D := G.1) (ci := 7) (v := .int 220) (C := RX10) (T := TX10) (N := 15) hx hb hq pin_wsX100 hown hE.1.1 hP 0 rfl rfl 1 (by decide) (hq _ pw_53) (fun _ h9 => h9) rfl dX10_split_27 ?_
  refine lv_aload_n hx hb dX10_split_30 rfl (lv_at hl 0 rfl) ?_
  refine va_get (D := G.1) (ci := 7) (v := .int 0) (C := RX10) (T := TX10) (N := 15) hx hb hq pin_wsX100 hown hE.1.1 hP 0 rfl rfl 2 (by decide) (hq _ pw_68) (fun _ h9 => h9) rfl dX10_split_31 ?_
  refine va_copyi (own := RX10) hx hb (by rw [hml]; exact hl.1.symm) hown (hq _ pw_69) (hq _ pw_649) (hq _ pw_650) (hq _ pw_651) hE.1.1 hP hD hS 1 2 1 1 rfl rfl rfl rfl rfl (by decide) (by decide) (by decide) (by decide) (by decide) (fun i hi => absurd hi (by decide +revert)) (Nat.le_of_ble_eq_true rfl) (by decide) dX10_split_34 (fun H locs hP hD hS => ?_)
  have hP : va_P G.1 pCl [(k2, .inr (7, [.ref t1, .int 220, .int 0, .ref t2, .ref t3, .ref t4, .ref t5, .ref t6, .int 0, .ref t7, .ref t8, .ref t9, .ref t10, .int 0, .int 0])), (k1, .inl (G.2.1 1, 5000, .inl ft)), (t1, .inl (G.2.1 1, 5220, .inl (va_cpy ft fb (Int32.toNatClampNeg 0) (Int32.toNatClampNeg 220) (Int32.toNatClampNeg 0)))), (t7, .inl (G.2.1 0, 2540, .inl f7)), (t8, .inl (G.2.1 0, 2540, .inl f8)), (t9, .inl (G.2.1 0, 2540, .inl f9)), (t10, .inl (G.2.1 0, 256, .inl f10))] H := hP
  have hD : va_D A [(k2, .inr (7, [.ref t1, .int 220, .int 0, .ref t2, .ref t3, .ref t4, .ref t5, .ref t6, .int 0, .ref t7, .ref t8, .ref t9, .ref t10, .int 0, .int 0])), (k1, .inl (G.2.1 1, 5000, .inl ft)), (t1, .inl (G.2.1 1, 5220, .inl (va_cpy ft fb (Int32.toNatClampNeg 0) (Int32.toNatClampNeg 220) (Int32.toNatClampNeg 0)))), (t7, .inl (G.2.1 0, 2540, .inl f7)), (t8, .inl (G.2.1 0, 2540, .inl f8)), (t9, .inl (G.2.1 0, 2540, .inl f9)), (t10, .inl (G.2.1 0, 256, .inl f10))] := hD
  generalize (va_cpy ft fb (Int32.toNatClampNeg 0) (Int32.toNatClampNeg 220) (Int32.toNatClampNeg 0)) = f11 at hP hD
  refine lv_aload_n hx hb dX10_split_37 rfl (lv_at hl 0 rfl) ?_
  refine lv_iconst (v := 0) hx hb dX10_split_38 (by decide) ?_
  refine va_put (D := G.1) (ci := 7) (v := .int 0) (ty := .int) (C := RX10) (T := TX10) (N := 15) hx hb hq pin_wsX100 tyX10 tyX10_ok nmX10 hown hE.1.1 hP hD hS 0 rfl rfl 8 (by decide) (hq _ pw_70) (fun _ h9 => h9) rfl (by decide +kernel) rfl rfl (Nat.le_of_ble_eq_true rfl) dX10_split_39 (fun H locs hP hD hS => ?_)
  have hP : va_P G.1 pCl [(k2, .inr (7, [.ref t1, .int 220, .int 0, .ref t2, .ref t3, .ref t4, .ref t5, .ref t6, .int 0, .ref t7, .ref t8, .ref t9, .ref t10, .int 0, .int 0])), (k1, .inl (G.2.1 1, 5000, .inl ft)), (t1, .inl (G.2.1 1, 5220, .inl f11)), (t7, .inl (G.2.1 0, 2540, .inl f7)), (t8, .inl (G.2.1 0, 2540, .inl f8)), (t9, .inl (G.2.1 0, 2540, .inl f9)), (t10, .inl (G.2.1 0, 256, .inl f10))] H := hP
  have hD : va_D A [(k2, .inr (7, [.ref t1, .int 220, .int 0, .ref t2, .ref t3, .ref t4, .ref t5, .ref t6, .int 0, .ref t7, .ref t8, .ref t9, .ref t10, .int 0, .int 0])), (k1, .inl (G.2.1 1, 5000, .inl ft)), (t1, .inl (G.2.1 1, 5220, .inl f11)), (t7, .inl (G.2.1 0, 2540, .inl f7)), (t8, .inl (G.2.1 0, 2540, .inl f8)), (t9, .inl (G.2.1 0, 2540, .inl f9)), (t10, .inl (G.2.1 0, 256, .inl f10))] := hD
  refine lv_aload_n hx hb dX10_split_42 rfl (lv_at hl 0 rfl) ?_
  refine lv_iconst (v := 0) hx hb dX10_split_43 (by decide) ?_
  refine va_put (D := G.1) (ci := 7) (v := .int 0) (ty := .int) (C := RX10) (T := TX10) (N := 15) hx hb hq pin_wsX100 tyX10 tyX10_ok nmX10 hown hE.1.1 hP hD hS 0 rfl rfl 14 (by decide) (hq _ pw_71) (fun _ h9 => h9) rfl (by decide +kernel) rfl rfl (Nat.le_of_ble_eq_true rfl) dX10_split_44 (fun H locs hP hD hS => ?_)
  have hP : va_P G.1 pCl [(k2, .inr (7, [.ref t1, .int 220, .int 0, .ref t2, .ref t3, .ref t4, .ref t5, .ref t6, .int 0, .ref t7, .ref t8, .ref t9, .ref t10, .int 0, .int 0])), (k1, .inl (G.2.1 1, 5000, .inl ft)), (t1, .inl (G.2.1 1, 5220, .inl f11)), (t7, .inl (G.2.1 0, 2540, .inl f7)), (t8, .inl (G.2.1 0, 2540, .inl f8)), (t9, .inl (G.2.1 0, 2540, .inl f9)), (t10, .inl (G.2.1 0, 256, .inl f10))] H := hP
  have hD : va_D A [(k2, .inr (7, [.ref t1, .int 220, .int 0, .ref t2, .ref t3, .ref t4, .ref t5, .ref t6, .int 0, .ref t7, .ref t8, .ref t9, .ref t10, .int 0, .int 0])), (k1, .inl (G.2.1 1, 5000, .inl ft)), (t1, .inl (G.2.1 1, 5220, .inl f11)), (t7, .inl (G.2.1 0, 2540, .inl f7)), (t8, .inl (G.2.1 0, 2540, .inl f8)), (t9, .inl (G.2.1 0, 2540, .inl f9)), (t10, .inl (G.2.1 0, 256, .inl f10))] := hD
  refine lv_aload_n hx hb dX10_split_47 rfl (lv_at hl 0 rfl) ?_
  refine pc_V (G := G) (As := []) (rest := []) (wr := [(k1, .inl (G.2.1 1, 5000, .inl ft))]) hx hb hml hown hq hE hX pX0_al hP hD hS hA hl.1 (c_learn l G k2 t1 t2 t3 t4 t5 t6 t7 t8 t9 t10 f11 f7 f8 f9 f10) (gV pw_72 pw_432 pw_433 pw_424 pw_431) hV_X10_learnBuiltIn 0 7 rfl rfl rfl [0, 2, 3, 4, 5, 6] [1] rfl rfl (by decide) (by decide) (by decide) rfl (Nat.le_of_ble_eq_true rfl) dX10_split_48 ⟨Nat.le_of_ble_eq_true rfl, Nat.le_of_ble_eq_true rfl⟩ ⟨Nat.le_of_ble_eq_true rfl, Nat.le_of_ble_eq_true rfl⟩ (fun v14 u12 H locs hw13 hP hD hS => ?_)
  obtain rfl : v14 = none := hw13
  have hP : va_P G.1 pCl [(k1, .inl (G.2.1 1, 5000, .inl ft)), (k2, .inr (7, [.ref t1, .int 220, .int 0, .ref t2, .ref t3, .ref t4, .ref t5, .ref t6, .int 0, .ref t7, .ref t8, .ref t9, .ref t10, .int (nI u12), .int 0])), (t1, .inl (G.2.1 1, 5220, .inl f11))] H := hP
  have hD : va_D A [(k1, .inl (G.2.1 1, 5000, .inl ft)), (k2, .inr (7, [.ref t1, .int 220, .int 0, .ref t2, .ref t3, .ref t4, .ref t5, .ref t6, .int 0, .ref t7, .ref t8, .ref t9, .ref t10, .int (nI u12), .int 0])), (t1, .inl (G.2.1 1, 5220, .inl f11))] := hD
  refine W.widen (k := 0) (n := 0) (Nat.le_of_ble_eq_true rfl) (Nat.le_of_ble_eq_true rfl) ?_
  refine W.eq (g2 := F0 m 51 ls []) rfl ?_
  refine lv_aload_n hx hb dX10_split_51 rfl (lv_at hl 0 rfl) ?_
  refine lv_iconst (v := 0) hx hb dX10_split_52 (by decide) ?_
  refine pc_V (G := G) (As := [.int 0]) (rest := []) (wr := [(k1, .inl (G.2.1 1, 5000, .inl ft)), (t1, .inl (G.2.1 1, 5220, .inl f11))]) hx hb hml hown hq hE hX pX0_al hP hD hS hA hl.1 (c_pastBlanks2 l G k2 t1 t2 t3 t4 t5 t6 t7 t8 t9 t10 ((nI u12))) (gV pw_73 pw_435 pw_436 pw_424 pw_434) hV_X10_pastBlanks 1 7 rfl rfl rfl [1] [0, 2] rfl rfl (by decide) (by decide) (by decide) rfl (Nat.le_of_ble_eq_true rfl) dX10_split_53 ⟨Nat.le_of_ble_eq_true rfl, Nat.le_of_ble_eq_true rfl⟩ ⟨Nat.le_of_ble_eq_true rfl, Nat.le_of_ble_eq_true rfl⟩ (fun v17 u15 H locs hw16 hP hD hS => ?_)
  obtain rfl : v17 = some (.int 0) := hw16
  have hP : va_P G.1 pCl [(k1, .inl (G.2.1 1, 5000, .inl ft)), (t1, .inl (G.2.1 1, 5220, .inl f11)), (k2, .inr (7, [.ref t1, .int 220, .int 0, .ref t2, .ref t3, .ref t4, .ref t5, .ref t6, .int 0, .ref t7, .ref t8, .ref t9, .ref t10, .int (nI u12), .int 0]))] H := hP
  have hD : va_D A [(k1, .inl (G.2.1 1, 5000, .inl ft)), (t1, .inl (G.2.1 1, 5220, .inl f11)), (k2, .inr (7, [.ref t1, .int 220, .int 0, .ref t2, .ref t3, .ref t4, .ref t5, .ref t6, .int 0, .ref t7, .ref t8, .ref t9, .ref t10, .int (nI u12), .int 0]))] := hD
  refine W.widen (k := 0) (n := 0) (Nat.le_of_ble_eq_true rfl) (Nat.le_of_ble_eq_true rfl) ?_
  refine W.eq (g2 := F0 m 56 ls [.int 0]) rfl ?_
  refine lv_istore_n (lv' := [(3, .int 0), (0, .ref k2), (1, .ref k1), (2, .int 0)]) hx hb dX10_split_56 rfl hl (by decide) rfl (fun ls hl => ?_)
  refine lv_iconst (v := 0) hx hb dX10_split_57 (by decide) ?_
  refine lv_istore (lv' := [(4, .int 0), (3, .int 0), (0, .ref k2), (1, .ref k1), (2, .int 0)]) hx hb dX10_split_58 hl (by decide) rfl (fun ls hl => ?_)
  refine lv_iload hx hb dX10_split_60 (lv_at hl 0 rfl) ?_
  refine lv_aload_n hx hb dX10_split_62 rfl (lv_at hl 2 rfl) ?_
  refine va_get (D := G.1) (ci := 7) (v := .int 0) (C := RX10) (T := TX10) (N := 15) hx hb hq pin_wsX100 hown hE.1.1 hP 2 rfl rfl 2 (by decide) (hq _ pw_68) (fun _ h9 => h9) rfl dX10_split_63 ?_
  refine lv_icmp_ge (tgt := 110) hx hb dX10_split_66 (by decide) (fun c18 => ?_) (fun c18 => absurd c18 (by decide))
  refine W.widen (k := 0) (n := 0) (Nat.le_of_ble_eq_true rfl) (Nat.le_of_ble_eq_true rfl) ?_
  exact W.vret hx hb hr (fun t ht hW => ⟨⟨_, (nI u12), rfl, rfl, by rw [ht]; exact hP.sub [2] rfl, hD.sub [2] (by decide) rfl⟩, hS.F ht⟩) hS.2.2 dX10_split_110

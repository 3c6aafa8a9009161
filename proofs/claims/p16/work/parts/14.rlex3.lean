theorem dJ1_canEncode_9a6ad_0 : decode cJ1_canEncode_9a6ad 0 = .ok (.iload_n 0, 1) := by decide +kernel
theorem dJ1_canEncode_9a6ad_1 : decode cJ1_canEncode_9a6ad 1 = .ok (.ifCond .lt 14, 3) := by decide +kernel
theorem dJ1_canEncode_9a6ad_15 : decode cJ1_canEncode_9a6ad 15 = .ok (.iconst 0, 1) := by decide +kernel
theorem dJ1_canEncode_9a6ad_16 : decode cJ1_canEncode_9a6ad 16 = .ok (.ireturn, 1) := by decide +kernel
theorem dJ1_canEncode_9a6ad_4 : decode cJ1_canEncode_9a6ad 4 = .ok (.iload_n 0, 1) := by decide +kernel
theorem dJ1_canEncode_9a6ad_5 : decode cJ1_canEncode_9a6ad 5 = .ok (.sipush 255, 3) := by decide +kernel
theorem dJ1_canEncode_9a6ad_8 : decode cJ1_canEncode_9a6ad 8 = .ok (.if_icmp .gt 7, 3) := by decide +kernel
theorem dJ1_canEncode_9a6ad_11 : decode cJ1_canEncode_9a6ad 11 = .ok (.iconst 1, 1) := by decide +kernel
theorem dJ1_canEncode_9a6ad_12 : decode cJ1_canEncode_9a6ad 12 = .ok (.goto 4, 3) := by decide +kernel
set_option maxHeartbeats 1000000 in
set_option maxRecDepth 100000 in
/-- canEncode(c) -/
theorem c_canEncode (l : Launch) (G : pT) (x : Int32) : PM l G pX0 yJ1_canEncode_9a6ad cJ1_canEncode_9a6ad 1 (some .boolean) ({ frames := 2, cells := 0, slots := 0, locals := 60 }) [.int x] [] (fun (v : Option Value) (u : Unit) => ∃ r : Int32, v = some (.int r)) (fun u => []) := by
  intro sz
  refine Met.ofW (cc := cJ1_canEncode_9a6ad) (maxL := 1) (ret := (some .boolean)) (by decide) rfl ?_
  intro p e s m args below meth c s₁ B hml hv
  obtain ⟨rfl, hsz, hP, hD0, hE, hX⟩ := hv
  have hx := B.exec
  have hb := B.bytes
  have hr := B.returns
  have hts := atoms_spec (ws := Cond.code yJ1_canEncode_9a6ad cJ1_canEncode_9a6ad 1 (some .boolean) :: pw) B.pre
  have hq : ∀ w ∈ pw, w.before _ s = true := fun w h => hts w (List.mem_cons_of_mem _ h)
  have hown : s.vm.findClass RJ1 = some m.cls := findClass_of_methodNamed B.named
  have hlocks := B.notSynchronized
  subst hsz
  have hD := hD0.self (sz := s.heap.size)
  have hA : ∀ q : Nat, s.heap.size ≤ q → va_A [] s.heap.size q := fun q h => Or.inr h
  have hP : va_P G.1 pCl [] s.heap := hP
  generalize va_A [] s.heap.size = A at hD hE hA ⊢
  have hS : va_S A s.heap s.heap [] := va_S.rf
  have hl := lv_entry ([.int x]) (n := 1) (Nat.le_of_ble_eq_true rfl)
  rw [lg_entry_eq]
  generalize (lg_sl ([.int x]) ++ List.replicate (1 - (lg_sl ([.int x])).length) Slot.unset).toArray = ls at hl ⊢
  have hl : lv_has ls 1 [(0, .int x)] := hl
  refine lv_iload_n hx hb dJ1_canEncode_9a6ad_0 rfl (lv_at hl 0 rfl) ?_
  refine lv_if_lt (tgt := 15) hx hb dJ1_canEncode_9a6ad_1 (by decide) (fun c1 => ?_) (fun c1 => ?_)
  · refine lv_iconst (v := 0) hx hb dJ1_canEncode_9a6ad_15 (by decide) ?_
    refine W.widen (k := 0) (n := 0) (Nat.le_of_ble_eq_true rfl) (Nat.le_of_ble_eq_true rfl) ?_
    exact W.zret (v := 0) hx hb hr rfl (fun t ht hW => ⟨⟨_, (), rfl, ⟨_, rfl⟩, by rw [ht]; exact hP.sub [] rfl, hD.sub [] (by decide) rfl⟩, hS.F ht⟩) hS.2.2 dJ1_canEncode_9a6ad_16
  · refine lv_iload_n hx hb dJ1_canEncode_9a6ad_4 rfl (lv_at hl 0 rfl) ?_
    refine lv_sipush (v := 255) hx hb dJ1_canEncode_9a6ad_5 (by decide) ?_
    refine lv_icmp_gt (tgt := 15) hx hb dJ1_canEncode_9a6ad_8 (by decide) (fun c2 => ?_) (fun c2 => ?_)
    · refine lv_iconst (v := 0) hx hb dJ1_canEncode_9a6ad_15 (by decide) ?_
      refine W.widen (k := 0) (n := 0) (Nat.le_of_ble_eq_true rfl) (Nat.le_of_ble_eq_true rfl) ?_
      exact W.zret (v := 0) hx hb hr rfl (fun t ht hW => ⟨⟨_, (), rfl, ⟨_, rfl⟩, by rw [ht]; exact hP.sub [] rfl, hD.sub [] (by decide) rfl⟩, hS.F ht⟩) hS.2.2 dJ1_canEncode_9a6ad_16
    · refine lv_iconst (v := 1) hx hb dJ1_canEncode_9a6ad_11 (by decide) ?_
      refine lv_goto (tgt := 16) hx hb dJ1_canEncode_9a6ad_12 (by decide) ?_
      refine W.widen (k := 0) (n := 0) (Nat.le_of_ble_eq_true rfl) (Nat.le_of_ble_eq_true rfl) ?_
      exact W.zret (v := 1) hx hb hr rfl (fun t ht hW => ⟨⟨_, (), rfl, ⟨_, rfl⟩, by rw [ht]; exact hP.sub [] rfl, hD.sub [] (by decide) rfl⟩, hS.F ht⟩) hS.2.2 dJ1_canEncode_9a6ad_16
theorem dJ1_indexOfChar_4cfef_0 : decode cJ1_indexOfChar_4cfef 0 = .ok (.iload_n 1, 1) := by decide +kernel
theorem dJ1_indexOfChar_4cfef_1 : decode cJ1_indexOfChar_4cfef 1 = .ok (.i2b, 1) := by decide +kernel
theorem dJ1_indexOfChar_4cfef_2 : decode cJ1_indexOfChar_4cfef 2 = .ok (.istore 4, 2) := by decide +kernel
theorem dJ1_indexOfChar_4cfef_4 : decode cJ1_indexOfChar_4cfef 4 = .ok (.iload_n 2, 1) := by decide +kernel
theorem dJ1_indexOfChar_4cfef_5 : decode cJ1_indexOfChar_4cfef 5 = .ok (.istore 5, 2) := by decide +kernel
theorem dJ1_indexOfChar_4cfef_7 : decode cJ1_indexOfChar_4cfef 7 = .ok (.iload 5, 2) := by decide +kernel
theorem dJ1_indexOfChar_4cfef_9 : decode cJ1_indexOfChar_4cfef 9 = .ok (.iload_n 3, 1) := by decide +kernel
theorem dJ1_indexOfChar_4cfef_10 : decode cJ1_indexOfChar_4cfef 10 = .ok (.if_icmp .ge 21, 3) := by decide +kernel
theorem dJ1_indexOfChar_4cfef_31 : decode cJ1_indexOfChar_4cfef 31 = .ok (.iconst (-1), 1) := by decide +kernel
theorem dJ1_indexOfChar_4cfef_32 : decode cJ1_indexOfChar_4cfef 32 = .ok (.ireturn, 1) := by decide +kernel
theorem dJ1_indexOfChar_4cfef_13 : decode cJ1_indexOfChar_4cfef 13 = .ok (.aload_n 0, 1) := by decide +kernel
theorem dJ1_indexOfChar_4cfef_14 : decode cJ1_indexOfChar_4cfef 14 = .ok (.iload 5, 2) := by decide +kernel
theorem dJ1_indexOfChar_4cfef_16 : decode cJ1_indexOfChar_4cfef 16 = .ok (.baload, 1) := by decide +kernel
theorem dJ1_indexOfChar_4cfef_17 : decode cJ1_indexOfChar_4cfef 17 = .ok (.iload 4, 2) := by decide +kernel
theorem dJ1_indexOfChar_4cfef_19 : decode cJ1_indexOfChar_4cfef 19 = .ok (.if_icmp .ne 6, 3) := by decide +kernel
theorem dJ1_indexOfChar_4cfef_25 : decode cJ1_indexOfChar_4cfef 25 = .ok (.iinc 5 1, 3) := by decide +kernel
theorem dJ1_indexOfChar_4cfef_28 : decode cJ1_indexOfChar_4cfef 28 = .ok (.goto (-21), 3) := by decide +kernel
theorem dJ1_indexOfChar_4cfef_22 : decode cJ1_indexOfChar_4cfef 22 = .ok (.iload 5, 2) := by decide +kernel
theorem dJ1_indexOfChar_4cfef_24 : decode cJ1_indexOfChar_4cfef 24 = .ok (.ireturn, 1) := by decide +kernel
set_option maxHeartbeats 1000000 in
set_option maxRecDepth 100000 in
/-- indexOfChar of a constant's row -/
theorem c_indexOfChar (l : Launch) (G : pT) (i : Nat) (x : Int32) (hi : i < 19) : PM l G pX0 yJ1_indexOfChar_4cfef cJ1_indexOfChar_4cfef 6 (some .int) ({ frames := 2, cells := 0, slots := 0, locals := 60 }) [.ref (G.2.2.2.1 i), .int x, .int 0, .int (nI (sLen.getD i 0))] [] (fun (v : Option Value) (u : Unit) => ∃ r : Int32, v = some (.int r)) (fun u => []) := by
  intro sz
  refine Met.ofW (cc := cJ1_indexOfChar_4cfef) (maxL := 6) (ret := (some .int)) (by decide) rfl ?_
  intro p e s m args below meth c s₁ B hml hv
  obtain ⟨rfl, hsz, hP, hD0, hE, hX⟩ := hv
  have hx := B.exec
  have hb := B.bytes
  have hr := B.returns
  have hts := atoms_spec (ws := Cond.code yJ1_indexOfChar_4cfef cJ1_indexOfChar_4cfef 6 (some .int) :: pw) B.pre
  have hq : ∀ w ∈ pw, w.before _ s = true := fun w h => hts w (List.mem_cons_of_mem _ h)
  have hown : s.vm.findClass RJ1 = some m.cls := findClass_of_methodNamed B.named
  have hlocks := B.notSynchronized
  subst hsz
  have hD := hD0.self (sz := s.heap.size)
  have hA : ∀ q : Nat, s.heap.size ≤ q → va_A [] s.heap.size q := fun q h => Or.inr h
  have hP : va_P G.1 pCl [] s.heap := hP
  generalize va_A [] s.heap.size = A at hD hE hA ⊢
  have hS : va_S A s.heap s.heap [] := va_S.rf
  have hl := lv_entry ([.ref (G.2.2.2.1 i), .int x, .int 0, .int (nI (sLen.getD i 0))]) (n := 6) (Nat.le_of_ble_eq_true rfl)
  rw [lg_entry_eq]
  generalize (lg_sl ([.ref (G.2.2.2.1 i), .int x, .int 0, .int (nI (sLen.getD i 0))]) ++ List.replicate (6 - (lg_sl ([.ref (G.2.2.2.1 i), .int x, .int 0, .int (nI (sLen.getD i 0))])).length) Slot.unset).toArray = ls at hl ⊢
  have hl : lv_has ls 6 [(0, .ref (G.2.2.2.1 i)), (1, .int x), (2, .int 0), (3, .int (nI (sLen.getD i 0)))] := hl
  refine lv_iload_n hx hb dJ1_indexOfChar_4cfef_0 rfl (lv_at hl 1 rfl) ?_
  refine lv_i2b hx hb dJ1_indexOfChar_4cfef_1 rfl ?_
  refine lv_topi (fun x1 e2 => ?_)
  refine lv_istore (lv' := [(4, .int x1), (0, .ref (G.2.2.2.1 i)), (1, .int x), (2, .int 0), (3, .int (nI (sLen.getD i 0)))]) hx hb dJ1_indexOfChar_4cfef_2 hl (by decide) rfl (fun ls hl => ?_)
  refine lv_iload_n hx hb dJ1_indexOfChar_4cfef_4 rfl (lv_at hl 3 rfl) ?_
  refine lv_istore (lv' := [(5, .int 0), (4, .int x1), (0, .ref (G.2.2.2.1 i)), (1, .int x), (2, .int 0), (3, .int (nI (sLen.getD i 0)))]) hx hb dJ1_indexOfChar_4cfef_5 hl (by decide) rfl (fun ls hl => ?_)
  have loop_l : ∀ (n_l k : Nat) (bt : Int32) (H : Heap) (locs : List Loc) (ls : Array Slot), k ≤ sLen.getD i 0 → sLen.getD i 0 + 1 ≤ k + n_l → va_P G.1 pCl [] H → va_D A [] → va_S A s.heap H locs → lv_has ls 6 [(5, .int (nI k)), (4, .int bt), (0, .ref (G.2.2.2.1 i)), (1, .int x), (2, .int 0), (3, .int (nI (sLen.getD i 0)))] → W p l e (headSpec (Cond.code yJ1_indexOfChar_4cfef cJ1_indexOfChar_4cfef 6 (some .int) :: pw) ({ frames := 2, cells := 0, slots := 0, locals := 60 } : Room)).room s m ([.ref (G.2.2.2.1 i), .int x, .int 0, .int (nI (sLen.getD i 0))] : List Value).toArray below meth c H locs 0 0 (MQ below (pQ G A (fun (v : Option Value) (u : Unit) => ∃ r : Int32, v = some (.int r)) (fun u => [])) ([.ref (G.2.2.2.1 i), .int x, .int 0, .int (nI (sLen.getD i 0))] : List Value).toArray s ({ frames := 2, cells := 0, slots := 0, locals := 60 } : Room).cells ({ frames := 2, cells := 0, slots := 0, locals := 60 } : Room).slots A) (F0 m 7 ls []) := by
    intro n_l
    induction n_l with
    | zero => intro k bt H locs ls hk_l hn_l; omega
    | succ n_l ih_l =>
      intro k bt H locs ls hk_l hn_l hP hD hS hl
      refine lv_iload hx hb dJ1_indexOfChar_4cfef_7 (lv_at hl 0 rfl) ?_
      refine lv_iload_n hx hb dJ1_indexOfChar_4cfef_9 rfl (lv_at hl 5 rfl) ?_
      refine lv_icmp_ge (tgt := 31) hx hb dJ1_indexOfChar_4cfef_10 (by decide) (fun c3 => ?_) (fun c3 => ?_)
      · refine lv_iconst (v := (-1)) hx hb dJ1_indexOfChar_4cfef_31 (by decide) ?_
        refine W.widen (k := 0) (n := 0) (Nat.le_of_ble_eq_true rfl) (Nat.le_of_ble_eq_true rfl) ?_
        exact W.iret (v := (-1)) hx hb hr (fun t ht hW => ⟨⟨_, (), rfl, ⟨_, rfl⟩, by rw [ht]; exact hP.sub [] rfl, hD.sub [] (by decide) rfl⟩, hS.F ht⟩) hS.2.2 dJ1_indexOfChar_4cfef_32
      · have hlt : k < sLen.getD i 0 := Nat.lt_of_not_le (fun h => c3 (nI_le h (Nat.lt_of_le_of_lt hk_l (Nat.lt_trans (sLen_lt i hi) (by decide)))))
        refine lv_aload_n hx hb dJ1_indexOfChar_4cfef_13 rfl (lv_at hl 2 rfl) ?_
        refine lv_iload hx hb dJ1_indexOfChar_4cfef_14 (lv_at hl 0 rfl) ?_
        refine va_tb (v := .int ((sByt.getD i []).getD (Int32.toNatClampNeg (nI k)) 0)) hx hb (hE.2.1.1 i hi).2.2.2 hS (vp_in_nI hlt (Nat.lt_trans (sLen_lt i hi) (by decide))) rfl dJ1_indexOfChar_4cfef_16 ?_
        refine lv_topi (fun x4 e5 => ?_)
        refine lv_iload hx hb dJ1_indexOfChar_4cfef_17 (lv_at hl 1 rfl) ?_
        refine lv_icmp_ne (tgt := 25) hx hb dJ1_indexOfChar_4cfef_19 (by decide) (fun c6 => ?_) (fun c6 => ?_)
        · refine lv_iinc (v := (nI (k + 1))) (lv' := [(5, .int (nI (k + 1))), (4, .int bt), (0, .ref (G.2.2.2.1 i)), (1, .int x), (2, .int 0), (3, .int (nI (sLen.getD i 0)))]) hx hb dJ1_indexOfChar_4cfef_25 hl (k := 0) rfl (nI_1 k) (by decide) rfl (fun ls hl => ?_)
          refine lv_goto (tgt := 7) hx hb dJ1_indexOfChar_4cfef_28 (by decide) ?_
          exact ih_l (k + 1) bt _ _ _ (by omega) (by omega) hP hD hS (lv_sub hl [0, 1, 2, 3, 4, 5] rfl)
        · refine lv_iload hx hb dJ1_indexOfChar_4cfef_22 (lv_at hl 0 rfl) ?_
          refine W.widen (k := 0) (n := 0) (Nat.le_of_ble_eq_true rfl) (Nat.le_of_ble_eq_true rfl) ?_
          exact W.iret (v := (nI k)) hx hb hr (fun t ht hW => ⟨⟨_, (), rfl, ⟨_, rfl⟩, by rw [ht]; exact hP.sub [] rfl, hD.sub [] (by decide) rfl⟩, hS.F ht⟩) hS.2.2 dJ1_indexOfChar_4cfef_24
  exact loop_l (sLen.getD i 0 + 1) 0 x1 _ _ _ (by omega) (by omega) hP hD hS (lv_sub hl [0, 1, 2, 3, 4, 5] rfl)
theorem dJ1_indexOf_4cfef_0 : decode cJ1_indexOf_4cfef 0 = .ok (.iload_n 1, 1) := by decide +kernel
theorem dJ1_indexOf_4cfef_1 : decode cJ1_indexOf_4cfef 1 = .ok (.invokestatic 88, 3) := by decide +kernel
theorem dJ1_indexOf_4cfef_4 : decode cJ1_indexOf_4cfef 4 = .ok (.ifCond .ne 5, 3) := by decide +kernel
theorem dJ1_indexOf_4cfef_9 : decode cJ1_indexOf_4cfef 9 = .ok (.iload_n 2, 1) := by decide +kernel
theorem dJ1_indexOf_4cfef_10 : decode cJ1_indexOf_4cfef 10 = .ok (.iconst 0, 1) := by decide +kernel
theorem dJ1_indexOf_4cfef_11 : decode cJ1_indexOf_4cfef 11 = .ok (.invokestatic 92, 3) := by decide +kernel
theorem dJ1_indexOf_4cfef_14 : decode cJ1_indexOf_4cfef 14 = .ok (.istore_n 2, 1) := by decide +kernel
theorem dJ1_indexOf_4cfef_15 : decode cJ1_indexOf_4cfef 15 = .ok (.iload_n 3, 1) := by decide +kernel
theorem dJ1_indexOf_4cfef_16 : decode cJ1_indexOf_4cfef 16 = .ok (.aload_n 0, 1) := by decide +kernel
theorem dJ1_indexOf_4cfef_17 : decode cJ1_indexOf_4cfef 17 = .ok (.arraylength, 1) := by decide +kernel
theorem dJ1_indexOf_4cfef_18 : decode cJ1_indexOf_4cfef 18 = .ok (.invokestatic 38, 3) := by decide +kernel
theorem dJ1_indexOf_4cfef_21 : decode cJ1_indexOf_4cfef 21 = .ok (.istore_n 3, 1) := by decide +kernel
theorem dJ1_indexOf_4cfef_22 : decode cJ1_indexOf_4cfef 22 = .ok (.iload_n 2, 1) := by decide +kernel
theorem dJ1_indexOf_4cfef_23 : decode cJ1_indexOf_4cfef 23 = .ok (.iload_n 3, 1) := by decide +kernel
theorem dJ1_indexOf_4cfef_24 : decode cJ1_indexOf_4cfef 24 = .ok (.if_icmp .lt 5, 3) := by decide +kernel
theorem dJ1_indexOf_4cfef_29 : decode cJ1_indexOf_4cfef 29 = .ok (.aload_n 0, 1) := by decide +kernel
theorem dJ1_indexOf_4cfef_30 : decode cJ1_indexOf_4cfef 30 = .ok (.iload_n 1, 1) := by decide +kernel
theorem dJ1_indexOf_4cfef_31 : decode cJ1_indexOf_4cfef 31 = .ok (.iload_n 2, 1) := by decide +kernel
theorem dJ1_indexOf_4cfef_32 : decode cJ1_indexOf_4cfef 32 = .ok (.iload_n 3, 1) := by decide +kernel
theorem dJ1_indexOf_4cfef_33 : decode cJ1_indexOf_4cfef 33 = .ok (.invokestatic 95, 3) := by decide +kernel
theorem dJ1_indexOf_4cfef_36 : decode cJ1_indexOf_4cfef 36 = .ok (.ireturn, 1) := by decide +kernel
theorem dJ1_indexOf_4cfef_27 : decode cJ1_indexOf_4cfef 27 = .ok (.iconst (-1), 1) := by decide +kernel
theorem dJ1_indexOf_4cfef_28 : decode cJ1_indexOf_4cfef 28 = .ok (.ireturn, 1) := by decide +kernel
theorem dJ1_indexOf_4cfef_7 : decode cJ1_indexOf_4cfef 7 = .ok (.iconst (-1), 1) := by decide +kernel
theorem dJ1_indexOf_4cfef_8 : decode cJ1_indexOf_4cfef 8 = .ok (.ireturn, 1) := by decide +kernel
theorem hS_J1_canEncode_9a6ad : yJ1_canEncode_9a6ad.cls ≠ "java/lang/invoke/MethodHandle" ∧ yJ1_canEncode_9a6ad.cls ≠ "java/lang/invoke/VarHandle" ∧ (parseMethodDescriptor yJ1_canEncode_9a6ad.desc).map (fun d => d.parameters.length) = some 1 := by decide +kernel
theorem hS_J1_indexOfChar_4cfef : yJ1_indexOfChar_4cfef.cls ≠ "java/lang/invoke/MethodHandle" ∧ yJ1_indexOfChar_4cfef.cls ≠ "java/lang/invoke/VarHandle" ∧ (parseMethodDescriptor yJ1_indexOfChar_4cfef.desc).map (fun d => d.parameters.length) = some 4 := by decide +kernel
set_option maxHeartbeats 1000000 in
set_option maxRecDepth 100000 in
/-- StringLatin1.indexOf of a constant's row -/
theorem c_indexOf4 (l : Launch) (G : pT) (i : Nat) (x : Int32) (hi : i < 19) : PM l G pX0 yJ1_indexOf_4cfef cJ1_indexOf_4cfef 4 (some .int) ({ frames := 3, cells := 0, slots := 0, locals := 85 }) [.ref (G.2.2.2.1 i), .int x, .int 0, .int (nI (sLen.getD i 0))] [] (fun (v : Option Value) (u : Unit) => ∃ r : Int32, v = some (.int r)) (fun u => []) := by
  intro sz
  refine Met.ofW (cc := cJ1_indexOf_4cfef) (maxL := 4) (ret := (some .int)) (by decide) rfl ?_
  intro p e s m args below meth c s₁ B hml hv
  obtain ⟨rfl, hsz, hP, hD0, hE, hX⟩ := hv
  have hx := B.exec
  have hb := B.bytes
  have hr := B.returns
  have hts := atoms_spec (ws := Cond.code yJ1_indexOf_4cfef cJ1_indexOf_4cfef 4 (some .int) :: pw) B.pre
  have hq : ∀ w ∈ pw, w.before _ s = true := fun w h => hts w (List.mem_cons_of_mem _ h)
  have hown : s.vm.findClass RJ1 = some m.cls := findClass_of_methodNamed B.named
  have hlocks := B.notSynchronized
  subst hsz
  have hD := hD0.self (sz := s.heap.size)
  have hA : ∀ q : Nat, s.heap.size ≤ q → va_A [] s.heap.size q := fun q h => Or.inr h
  have hP : va_P G.1 pCl [] s.heap := hP
  generalize va_A [] s.heap.size = A at hD hE hA ⊢
  have hS : va_S A s.heap s.heap [] := va_S.rf
  have hl := lv_entry ([.ref (G.2.2.2.1 i), .int x, .int 0, .int (nI (sLen.getD i 0))]) (n := 4) (Nat.le_of_ble_eq_true rfl)
  rw [lg_entry_eq]
  generalize (lg_sl ([.ref (G.2.2.2.1 i), .int x, .int 0, .int (nI (sLen.getD i 0))]) ++ List.replicate (4 - (lg_sl ([.ref (G.2.2.2.1 i), .int x, .int 0, .int (nI (sLen.getD i 0))])).length) Slot.unset).toArray = ls at hl ⊢
  have hl : lv_has ls 4 [(0, .ref (G.2.2.2.1 i)), (1, .int x), (2, .int 0), (3, .int (nI (sLen.getD i 0)))] := hl
  refine lv_iload_n hx hb dJ1_indexOf_4cfef_0 rfl (lv_at hl 1 rfl) ?_
  refine pc_S (G := G) (As := [.int x]) (rest := []) (wr := []) hx hb hml hown hq hE hX pX0_al hP hD hS hA hl.1 (c_canEncode l G x) (gS pw_1537 pw_1538 pw_1232 pw_1532) hS_J1_canEncode_9a6ad [] [] rfl rfl (by decide) (by decide) (by decide) rfl (Nat.le_of_ble_eq_true rfl) dJ1_indexOf_4cfef_1 ⟨Nat.le_of_ble_eq_true rfl, Nat.le_of_ble_eq_true rfl⟩ ⟨Nat.le_of_ble_eq_true rfl, Nat.le_of_ble_eq_true rfl⟩ (fun v3 u1 H locs hw2 hP hD hS => ?_)
  obtain ⟨x4, rfl⟩ := hw2
  have hP : va_P G.1 pCl [] H := hP
  have hD : va_D A [] := hD
  refine W.widen (k := 0) (n := 0) (Nat.le_of_ble_eq_true rfl) (Nat.le_of_ble_eq_true rfl) ?_
  refine W.eq (g2 := F0 m 4 ls [.int x4]) rfl ?_
  refine lv_if_ne (tgt := 9) hx hb dJ1_indexOf_4cfef_4 (by decide) (fun c5 => ?_) (fun c5 => ?_)
  · refine lv_iload_n hx hb dJ1_indexOf_4cfef_9 rfl (lv_at hl 2 rfl) ?_
    refine lv_iconst (v := 0) hx hb dJ1_indexOf_4cfef_10 (by decide) ?_
    refine va_mmax (own := RJ1) hx hb (by rw [hml]; exact hl.1.symm) hown (hq _ pw_1535) (hq _ pw_51) (hq _ pw_52) (hq _ pw_53) (Nat.le_of_ble_eq_true rfl) (Nat.le_of_ble_eq_true rfl) (Nat.le_of_ble_eq_true rfl) (Nat.le_of_ble_eq_true rfl) dJ1_indexOf_4cfef_11 ?_
    refine lv_topi (fun x6 e7 => ?_)
    obtain rfl : x6 = 0 := e7.trans (by decide)
    refine lv_istore_n (lv' := [(2, .int 0), (0, .ref (G.2.2.2.1 i)), (1, .int x), (3, .int (nI (sLen.getD i 0)))]) hx hb dJ1_indexOf_4cfef_14 rfl hl (by decide) rfl (fun ls hl => ?_)
    refine lv_iload_n hx hb dJ1_indexOf_4cfef_15 rfl (lv_at hl 3 rfl) ?_
    refine lv_aload_n hx hb dJ1_indexOf_4cfef_16 rfl (lv_at hl 1 rfl) ?_
    refine va_tlen (v := (nI (sLen.getD i 0))) hx hb (hE.2.1.1 i hi).2.2.2 hS rfl dJ1_indexOf_4cfef_17 ?_
    refine va_mmin (own := RJ1) hx hb (by rw [hml]; exact hl.1.symm) hown (hq _ pw_1536) (hq _ pw_420) (hq _ pw_52) (hq _ pw_421) (Nat.le_of_ble_eq_true rfl) (Nat.le_of_ble_eq_true rfl) (Nat.le_of_ble_eq_true rfl) (Nat.le_of_ble_eq_true rfl) dJ1_indexOf_4cfef_18 ?_
    refine lv_topi (fun x8 e9 => ?_)
    obtain rfl : x8 = (nI (sLen.getD i 0)) := e9.trans (ite_self _)
    refine lv_istore_n (lv' := [(3, .int (nI (sLen.getD i 0))), (2, .int 0), (0, .ref (G.2.2.2.1 i)), (1, .int x)]) hx hb dJ1_indexOf_4cfef_21 rfl hl (by decide) rfl (fun ls hl => ?_)
    refine lv_iload_n hx hb dJ1_indexOf_4cfef_22 rfl (lv_at hl 1 rfl) ?_
    refine lv_iload_n hx hb dJ1_indexOf_4cfef_23 rfl (lv_at hl 0 rfl) ?_
    refine lv_icmp_lt (tgt := 29) hx hb dJ1_indexOf_4cfef_24 (by decide) (fun c10 => ?_) (fun c10 => ?_)
    · refine lv_aload_n hx hb dJ1_indexOf_4cfef_29 rfl (lv_at hl 2 rfl) ?_
      refine lv_iload_n hx hb dJ1_indexOf_4cfef_30 rfl (lv_at hl 3 rfl) ?_
      refine lv_iload_n hx hb dJ1_indexOf_4cfef_31 rfl (lv_at hl 1 rfl) ?_
      refine lv_iload_n hx hb dJ1_indexOf_4cfef_32 rfl (lv_at hl 0 rfl) ?_
      refine pc_S (G := G) (As := [.ref (G.2.2.2.1 i), .int x, .int 0, .int (nI (sLen.getD i 0))]) (rest := []) (wr := []) hx hb hml hown hq hE hX pX0_al hP hD hS hA hl.1 (c_indexOfChar l G i x hi) (gS pw_1539 pw_1540 pw_1232 pw_1533) hS_J1_indexOfChar_4cfef [] [] rfl rfl (by decide) (by decide) (by decide) rfl (Nat.le_of_ble_eq_true rfl) dJ1_indexOf_4cfef_33 ⟨Nat.le_of_ble_eq_true rfl, Nat.le_of_ble_eq_true rfl⟩ ⟨Nat.le_of_ble_eq_true rfl, Nat.le_of_ble_eq_true rfl⟩ (fun v13 u11 H locs hw12 hP hD hS => ?_)
      obtain ⟨x14, rfl⟩ := hw12
      have hP : va_P G.1 pCl [] H := hP
      have hD : va_D A [] := hD
      refine W.widen (k := 0) (n := 0) (Nat.le_of_ble_eq_true rfl) (Nat.le_of_ble_eq_true rfl) ?_
      refine W.eq (g2 := F0 m 36 ls [.int x14]) rfl ?_
      refine W.widen (k := 0) (n := 0) (Nat.le_of_ble_eq_true rfl) (Nat.le_of_ble_eq_true rfl) ?_
      exact W.iret (v := x14) hx hb hr (fun t ht hW => ⟨⟨_, (), rfl, ⟨_, rfl⟩, by rw [ht]; exact hP.sub [] rfl, hD.sub [] (by decide) rfl⟩, hS.F ht⟩) hS.2.2 dJ1_indexOf_4cfef_36
    · refine lv_iconst (v := (-1)) hx hb dJ1_indexOf_4cfef_27 (by decide) ?_
      refine W.widen (k := 0) (n := 0) (Nat.le_of_ble_eq_true rfl) (Nat.le_of_ble_eq_true rfl) ?_
      exact W.iret (v := (-1)) hx hb hr (fun t ht hW => ⟨⟨_, (), rfl, ⟨_, rfl⟩, by rw [ht]; exact hP.sub [] rfl, hD.sub [] (by decide) rfl⟩, hS.F ht⟩) hS.2.2 dJ1_indexOf_4cfef_28
  · refine lv_iconst (v := (-1)) hx hb dJ1_indexOf_4cfef_7 (by decide) ?_
    refine W.widen (k := 0) (n := 0) (Nat.le_of_ble_eq_true rfl) (Nat.le_of_ble_eq_true rfl) ?_
    exact W.iret (v := (-1)) hx hb hr (fun t ht hW => ⟨⟨_, (), rfl, ⟨_, rfl⟩, by rw [ht]; exact hP.sub [] rfl, hD.sub [] (by decide) rfl⟩, hS.F ht⟩) hS.2.2 dJ1_indexOf_4cfef_8
theorem dJ0_indexOf_7cf53_0 : decode cJ0_indexOf_7cf53 0 = .ok (.aload_n 0, 1) := by decide +kernel
theorem dJ0_indexOf_7cf53_1 : decode cJ0_indexOf_7cf53 1 = .ok (.invokevirtual 492, 3) := by decide +kernel
theorem dJ0_indexOf_7cf53_4 : decode cJ0_indexOf_7cf53 4 = .ok (.ifCond .eq 19, 3) := by decide +kernel
theorem dJ0_indexOf_7cf53_7 : decode cJ0_indexOf_7cf53 7 = .ok (.aload_n 0, 1) := by decide +kernel
theorem dJ0_indexOf_7cf53_8 : decode cJ0_indexOf_7cf53 8 = .ok (.getfield 9, 3) := by decide +kernel
theorem dJ0_indexOf_7cf53_11 : decode cJ0_indexOf_7cf53 11 = .ok (.iload_n 1, 1) := by decide +kernel
theorem dJ0_indexOf_7cf53_12 : decode cJ0_indexOf_7cf53 12 = .ok (.iload_n 2, 1) := by decide +kernel
theorem dJ0_indexOf_7cf53_13 : decode cJ0_indexOf_7cf53 13 = .ok (.aload_n 0, 1) := by decide +kernel
theorem dJ0_indexOf_7cf53_14 : decode cJ0_indexOf_7cf53 14 = .ok (.invokevirtual 505, 3) := by decide +kernel
theorem dJ0_indexOf_7cf53_17 : decode cJ0_indexOf_7cf53 17 = .ok (.invokestatic 637, 3) := by decide +kernel
theorem dJ0_indexOf_7cf53_20 : decode cJ0_indexOf_7cf53 20 = .ok (.goto 16, 3) := by decide +kernel
theorem dJ0_indexOf_7cf53_36 : decode cJ0_indexOf_7cf53 36 = .ok (.ireturn, 1) := by decide +kernel
theorem hS_J1_indexOf_4cfef : yJ1_indexOf_4cfef.cls ≠ "java/lang/invoke/MethodHandle" ∧ yJ1_indexOf_4cfef.cls ≠ "java/lang/invoke/VarHandle" ∧ (parseMethodDescriptor yJ1_indexOf_4cfef.desc).map (fun d => d.parameters.length) = some 4 := by decide +kernel
set_option maxHeartbeats 1000000 in
set_option maxRecDepth 100000 in
/-- indexOf(c, 0) of a constant -/
theorem c_indexOf2 (l : Launch) (G : pT) (i : Nat) (x : Int32) (hi : i < 19) : PM l G pX0 yJ0_indexOf_7cf53 cJ0_indexOf_7cf53 3 (some .int) ({ frames := 4, cells := 0, slots := 0, locals := 108 }) [.ref (G.2.2.1 i), .int x, .int 0] [] (fun (v : Option Value) (u : Unit) => ∃ r : Int32, v = some (.int r)) (fun u => []) := by
  intro sz
  refine Met.ofW (cc := cJ0_indexOf_7cf53) (maxL := 3) (ret := (some .int)) (by decide) rfl ?_
  intro p e s m args below meth c s₁ B hml hv
  obtain ⟨rfl, hsz, hP, hD0, hE, hX⟩ := hv
  have hx := B.exec
  have hb := B.bytes
  have hr := B.returns
  have hts := atoms_spec (ws := Cond.code yJ0_indexOf_7cf53 cJ0_indexOf_7cf53 3 (some .int) :: pw) B.pre
  have hq : ∀ w ∈ pw, w.before _ s = true := fun w h => hts w (List.mem_cons_of_mem _ h)
  have hown : s.vm.findClass RJ0 = some m.cls := findClass_of_methodNamed B.named
  have hlocks := B.notSynchronized
  subst hsz
  have hD := hD0.self (sz := s.heap.size)
  have hA : ∀ q : Nat, s.heap.size ≤ q → va_A [] s.heap.size q := fun q h => Or.inr h
  have hP : va_P G.1 pCl [] s.heap := hP
  generalize va_A [] s.heap.size = A at hD hE hA ⊢
  have hS : va_S A s.heap s.heap [] := va_S.rf
  have hl := lv_entry ([.ref (G.2.2.1 i), .int x, .int 0]) (n := 3) (Nat.le_of_ble_eq_true rfl)
  rw [lg_entry_eq]
  generalize (lg_sl ([.ref (G.2.2.1 i), .int x, .int 0]) ++ List.replicate (3 - (lg_sl ([.ref (G.2.2.1 i), .int x, .int 0])).length) Slot.unset).toArray = ls at hl ⊢
  have hl : lv_has ls 3 [(0, .ref (G.2.2.1 i)), (1, .int x), (2, .int 0)] := hl
  refine lv_aload_n hx hb dJ0_indexOf_7cf53_0 rfl (lv_at hl 0 rfl) ?_
  refine pc_VR (G := G) (As := []) (rest := []) (wr := []) hx hb hml hown hq hE hX pX0_al hP hD hS hA hl.1 (c_isLatin1 l G i hi) (gV pw_1227 pw_1228 pw_1229 pw_1214 pw_1215) hV_J0_isLatin1_aae02 (vk_recv hE.2.1 hi hS) [] [] rfl rfl (by decide) (by decide) (by decide) rfl (Nat.le_of_ble_eq_true rfl) dJ0_indexOf_7cf53_1 ⟨Nat.le_of_ble_eq_true rfl, Nat.le_of_ble_eq_true rfl⟩ ⟨Nat.le_of_ble_eq_true rfl, Nat.le_of_ble_eq_true rfl⟩ (fun v3 u1 H locs hw2 hP hD hS => ?_)
  obtain rfl : v3 = some (.int 1) := hw2
  have hP : va_P G.1 pCl [] H := hP
  have hD : va_D A [] := hD
  refine W.widen (k := 0) (n := 0) (Nat.le_of_ble_eq_true rfl) (Nat.le_of_ble_eq_true rfl) ?_
  refine W.eq (g2 := F0 m 4 ls [.int 1]) rfl ?_
  refine lv_if_eq (tgt := 23) hx hb dJ0_indexOf_7cf53_4 (by decide) (fun c4 => absurd c4 (by decide)) (fun c4 => ?_)
  refine lv_aload_n hx hb dJ0_indexOf_7cf53_7 rfl (lv_at hl 0 rfl) ?_
  refine vk_getf hx hb (hE.2.1.1 i hi).2.2.1 hS hown (hq _ pw_1210) (fun _ h9 => h9) dJ0_indexOf_7cf53_8 ?_
  refine lv_iload_n hx hb dJ0_indexOf_7cf53_11 rfl (lv_at hl 1 rfl) ?_
  refine lv_iload_n hx hb dJ0_indexOf_7cf53_12 rfl (lv_at hl 2 rfl) ?_
  refine lv_aload_n hx hb dJ0_indexOf_7cf53_13 rfl (lv_at hl 0 rfl) ?_
  refine pc_VR (G := G) (As := []) (rest := [.int 0, .int x, .ref (G.2.2.2.1 i)]) (wr := []) hx hb hml hown hq hE hX pX0_al hP hD hS hA hl.1 (c_length l G i hi) (gV pw_1553 pw_1236 pw_1237 pw_1214 pw_1209) hV_J0_length_8abf5 (vk_recv hE.2.1 hi hS) [] [] rfl rfl (by decide) (by decide) (by decide) rfl (Nat.le_of_ble_eq_true rfl) dJ0_indexOf_7cf53_14 ⟨Nat.le_of_ble_eq_true rfl, Nat.le_of_ble_eq_true rfl⟩ ⟨Nat.le_of_ble_eq_true rfl, Nat.le_of_ble_eq_true rfl⟩ (fun v7 u5 H locs hw6 hP hD hS => ?_)
  obtain rfl : v7 = some (.int (nI (sLen.getD i 0))) := hw6
  have hP : va_P G.1 pCl [] H := hP
  have hD : va_D A [] := hD
  refine W.widen (k := 0) (n := 0) (Nat.le_of_ble_eq_true rfl) (Nat.le_of_ble_eq_true rfl) ?_
  refine W.eq (g2 := F0 m 17 ls [.int (nI (sLen.getD i 0)), .int 0, .int x, .ref (G.2.2.2.1 i)]) rfl ?_
  refine pc_S (G := G) (As := [.ref (G.2.2.2.1 i), .int x, .int 0, .int (nI (sLen.getD i 0))]) (rest := []) (wr := []) hx hb hml hown hq hE hX pX0_al hP hD hS hA hl.1 (c_indexOf4 l G i x hi) (gS pw_1554 pw_1555 pw_1232 pw_1534) hS_J1_indexOf_4cfef [] [] rfl rfl (by decide) (by decide) (by decide) rfl (Nat.le_of_ble_eq_true rfl) dJ0_indexOf_7cf53_17 ⟨Nat.le_of_ble_eq_true rfl, Nat.le_of_ble_eq_true rfl⟩ ⟨Nat.le_of_ble_eq_true rfl, Nat.le_of_ble_eq_true rfl⟩ (fun v10 u8 H locs hw9 hP hD hS => ?_)
  obtain ⟨x11, rfl⟩ := hw9
  have hP : va_P G.1 pCl [] H := hP
  have hD : va_D A [] := hD
  refine W.widen (k := 0) (n := 0) (Nat.le_of_ble_eq_true rfl) (Nat.le_of_ble_eq_true rfl) ?_
  refine W.eq (g2 := F0 m 20 ls [.int x11]) rfl ?_
  refine lv_goto (tgt := 36) hx hb dJ0_indexOf_7cf53_20 (by decide) ?_
  refine W.widen (k := 0) (n := 0) (Nat.le_of_ble_eq_true rfl) (Nat.le_of_ble_eq_true rfl) ?_
  exact W.iret (v := x11) hx hb hr (fun t ht hW => ⟨⟨_, (), rfl, ⟨_, rfl⟩, by rw [ht]; exact hP.sub [] rfl, hD.sub [] (by decide) rfl⟩, hS.F ht⟩) hS.2.2 dJ0_indexOf_7cf53_36
theorem dJ0_indexOf_0f7a4_0 : decode cJ0_indexOf_0f7a4 0 = .ok (.aload_n 0, 1) := by decide +kernel
theorem dJ0_indexOf_0f7a4_1 : decode cJ0_indexOf_0f7a4 1 = .ok (.iload_n 1, 1) := by decide +kernel
theorem dJ0_indexOf_0f7a4_2 : decode cJ0_indexOf_0f7a4 2 = .ok (.iconst 0, 1) := by decide +kernel
theorem dJ0_indexOf_0f7a4_3 : decode cJ0_indexOf_0f7a4 3 = .ok (.invokevirtual 633, 3) := by decide +kernel
theorem dJ0_indexOf_0f7a4_6 : decode cJ0_indexOf_0f7a4 6 = .ok (.ireturn, 1) := by decide +kernel
theorem hV_J0_indexOf_7cf53 : yJ0_indexOf_7cf53.cls = RJ0 ∧ yJ0_indexOf_7cf53.cls ≠ "java/lang/invoke/MethodHandle" ∧ yJ0_indexOf_7cf53.cls ≠ "java/lang/invoke/VarHandle" ∧ (parseMethodDescriptor yJ0_indexOf_7cf53.desc).map (fun d => d.parameters.length) = some 2 := by decide +kernel
set_option maxHeartbeats 1000000 in
set_option maxRecDepth 100000 in
/-- indexOf(c) of a constant -/
theorem c_indexOf1 (l : Launch) (G : pT) (i : Nat) (x : Int32) (hi : i < 19) : PM l G pX0 yJ0_indexOf_0f7a4 cJ0_indexOf_0f7a4 2 (some .int) ({ frames := 5, cells := 0, slots := 0, locals := 130 }) [.ref (G.2.2.1 i), .int x] [] (fun (v : Option Value) (u : Unit) => ∃ r : Int32, v = some (.int r)) (fun u => []) := by
  intro sz
  refine Met.ofW (cc := cJ0_indexOf_0f7a4) (maxL := 2) (ret := (some .int)) (by decide) rfl ?_
  intro p e s m args below meth c s₁ B hml hv
  obtain ⟨rfl, hsz, hP, hD0, hE, hX⟩ := hv
  have hx := B.exec
  have hb := B.bytes
  have hr := B.returns
  have hts := atoms_spec (ws := Cond.code yJ0_indexOf_0f7a4 cJ0_indexOf_0f7a4 2 (some .int) :: pw) B.pre
  have hq : ∀ w ∈ pw, w.before _ s = true := fun w h => hts w (List.mem_cons_of_mem _ h)
  have hown : s.vm.findClass RJ0 = some m.cls := findClass_of_methodNamed B.named
  have hlocks := B.notSynchronized
  subst hsz
  have hD := hD0.self (sz := s.heap.size)
  have hA : ∀ q : Nat, s.heap.size ≤ q → va_A [] s.heap.size q := fun q h => Or.inr h
  have hP : va_P G.1 pCl [] s.heap := hP
  generalize va_A [] s.heap.size = A at hD hE hA ⊢
  have hS : va_S A s.heap s.heap [] := va_S.rf
  have hl := lv_entry ([.ref (G.2.2.1 i), .int x]) (n := 2) (Nat.le_of_ble_eq_true rfl)
  rw [lg_entry_eq]
  generalize (lg_sl ([.ref (G.2.2.1 i), .int x]) ++ List.replicate (2 - (lg_sl ([.ref (G.2.2.1 i), .int x])).length) Slot.unset).toArray = ls at hl ⊢
  have hl : lv_has ls 2 [(0, .ref (G.2.2.1 i)), (1, .int x)] := hl
  refine lv_aload_n hx hb dJ0_indexOf_0f7a4_0 rfl (lv_at hl 0 rfl) ?_
  refine lv_iload_n hx hb dJ0_indexOf_0f7a4_1 rfl (lv_at hl 1 rfl) ?_
  refine lv_iconst (v := 0) hx hb dJ0_indexOf_0f7a4_2 (by decide) ?_
  refine pc_VR (G := G) (As := [.int x, .int 0]) (rest := []) (wr := []) hx hb hml hown hq hE hX pX0_al hP hD hS hA hl.1 (c_indexOf2 l G i x hi) (gV pw_1557 pw_1558 pw_1559 pw_1214 pw_1556) hV_J0_indexOf_7cf53 (vk_recv hE.2.1 hi hS) [] [] rfl rfl (by decide) (by decide) (by decide) rfl (Nat.le_of_ble_eq_true rfl) dJ0_indexOf_0f7a4_3 ⟨Nat.le_of_ble_eq_true rfl, Nat.le_of_ble_eq_true rfl⟩ ⟨Nat.le_of_ble_eq_true rfl, Nat.le_of_ble_eq_true rfl⟩ (fun v3 u1 H locs hw2 hP hD hS => ?_)
  obtain ⟨x4, rfl⟩ := hw2
  have hP : va_P G.1 pCl [] H := hP
  have hD : va_D A [] := hD
  refine W.widen (k := 0) (n := 0) (Nat.le_of_ble_eq_true rfl) (Nat.le_of_ble_eq_true rfl) ?_
  refine W.eq (g2 := F0 m 6 ls [.int x4]) rfl ?_
  refine W.widen (k := 0) (n := 0) (Nat.le_of_ble_eq_true rfl) (Nat.le_of_ble_eq_true rfl) ?_
  exact W.iret (v := x4) hx hb hr (fun t ht hW => ⟨⟨_, (), rfl, ⟨_, rfl⟩, by rw [ht]; exact hP.sub [] rfl, hD.sub [] (by decide) rfl⟩, hS.F ht⟩) hS.2.2 dJ0_indexOf_0f7a4_6
theorem dX12_sign_0 : decode cX12_sign 0 = .ok (.aload_n 0, 1) := by decide +kernel
theorem dX12_sign_1 : decode cX12_sign 1 = .ok (.iload_n 1, 1) := by decide +kernel
theorem dX12_sign_2 : decode cX12_sign 2 = .ok (.invokevirtual 283, 3) := by decide +kernel
theorem dX12_sign_5 : decode cX12_sign 5 = .ok (.istore_n 2, 1) := by decide +kernel
theorem dX12_sign_6 : decode cX12_sign 6 = .ok (.aload_n 0, 1) := by decide +kernel
theorem dX12_sign_7 : decode cX12_sign 7 = .ok (.iload_n 1, 1) := by decide +kernel
theorem dX12_sign_8 : decode cX12_sign 8 = .ok (.iconst 1, 1) := by decide +kernel
theorem dX12_sign_9 : decode cX12_sign 9 = .ok (.iadd, 1) := by decide +kernel
theorem dX12_sign_10 : decode cX12_sign 10 = .ok (.invokevirtual 283, 3) := by decide +kernel
theorem dX12_sign_13 : decode cX12_sign 13 = .ok (.istore_n 3, 1) := by decide +kernel
theorem dX12_sign_14 : decode cX12_sign 14 = .ok (.iload_n 2, 1) := by decide +kernel
theorem dX12_sign_15 : decode cX12_sign 15 = .ok (.bipush 62, 2) := by decide +kernel
theorem dX12_sign_17 : decode cX12_sign 17 = .ok (.if_icmp .ne 31, 3) := by decide +kernel
theorem dX12_sign_48 : decode cX12_sign 48 = .ok (.iload_n 2, 1) := by decide +kernel
theorem dX12_sign_49 : decode cX12_sign 49 = .ok (.bipush 60, 2) := by decide +kernel
theorem dX12_sign_51 : decode cX12_sign 51 = .ok (.if_icmp .ne 13, 3) := by decide +kernel
theorem dX12_sign_64 : decode cX12_sign 64 = .ok (.iload_n 3, 1) := by decide +kernel
theorem dX12_sign_65 : decode cX12_sign 65 = .ok (.bipush 61, 2) := by decide +kernel
theorem dX12_sign_67 : decode cX12_sign 67 = .ok (.if_icmp .ne 67, 3) := by decide +kernel
theorem dX12_sign_134 : decode cX12_sign 134 = .ok (.iload_n 2, 1) := by decide +kernel
theorem dX12_sign_135 : decode cX12_sign 135 = .ok (.iload_n 3, 1) := by decide +kernel
theorem dX12_sign_136 : decode cX12_sign 136 = .ok (.if_icmp .ne 31, 3) := by decide +kernel
theorem dX12_sign_167 : decode cX12_sign 167 = .ok (.ldc_w 287, 3) := by decide +kernel
theorem dX12_sign_170 : decode cX12_sign 170 = .ok (.iload_n 2, 1) := by decide +kernel
theorem dX12_sign_171 : decode cX12_sign 171 = .ok (.invokevirtual 289, 3) := by decide +kernel
theorem dX12_sign_174 : decode cX12_sign 174 = .ok (.ifCond .lt 7, 3) := by decide +kernel
theorem dX12_sign_181 : decode cX12_sign 181 = .ok (.iconst 3, 1) := by decide +kernel
theorem dX12_sign_182 : decode cX12_sign 182 = .ok (.ireturn, 1) := by decide +kernel
theorem dX12_sign_177 : decode cX12_sign 177 = .ok (.iload_n 2, 1) := by decide +kernel
theorem dX12_sign_178 : decode cX12_sign 178 = .ok (.goto 4, 3) := by decide +kernel
theorem dX12_sign_139 : decode cX12_sign 139 = .ok (.iload_n 2, 1) := by decide +kernel
theorem dX12_sign_140 : decode cX12_sign 140 = .ok (.bipush 38, 2) := by decide +kernel
theorem dX12_sign_142 : decode cX12_sign 142 = .ok (.if_icmp .eq 9, 3) := by decide +kernel
theorem dX12_sign_151 : decode cX12_sign 151 = .ok (.iload_n 2, 1) := by decide +kernel
theorem dX12_sign_152 : decode cX12_sign 152 = .ok (.bipush 38, 2) := by decide +kernel
theorem dX12_sign_154 : decode cX12_sign 154 = .ok (.if_icmp .ne 9, 3) := by decide +kernel
theorem dX12_sign_163 : decode cX12_sign 163 = .ok (.sipush 261, 3) := by decide +kernel
theorem dX12_sign_166 : decode cX12_sign 166 = .ok (.ireturn, 1) := by decide +kernel
theorem dX12_sign_157 : decode cX12_sign 157 = .ok (.sipush 260, 3) := by decide +kernel
theorem dX12_sign_160 : decode cX12_sign 160 = .ok (.goto 6, 3) := by decide +kernel
theorem dX12_sign_145 : decode cX12_sign 145 = .ok (.iload_n 2, 1) := by decide +kernel
theorem dX12_sign_146 : decode cX12_sign 146 = .ok (.bipush 124, 2) := by decide +kernel
theorem dX12_sign_148 : decode cX12_sign 148 = .ok (.if_icmp .ne 19, 3) := by decide +kernel
theorem dX12_sign_70 : decode cX12_sign 70 = .ok (.iload_n 2, 1) := by decide +kernel
theorem dX12_sign_71 : decode cX12_sign 71 = .ok (.bipush 60, 2) := by decide +kernel
theorem dX12_sign_73 : decode cX12_sign 73 = .ok (.if_icmp .eq 21, 3) := by decide +kernel
theorem dX12_sign_94 : decode cX12_sign 94 = .ok (.iload_n 2, 1) := by decide +kernel
theorem dX12_sign_95 : decode cX12_sign 95 = .ok (.bipush 60, 2) := by decide +kernel
theorem dX12_sign_97 : decode cX12_sign 97 = .ok (.if_icmp .ne 9, 3) := by decide +kernel
theorem dX12_sign_106 : decode cX12_sign 106 = .ok (.iload_n 2, 1) := by decide +kernel
theorem dX12_sign_107 : decode cX12_sign 107 = .ok (.bipush 62, 2) := by decide +kernel
theorem dX12_sign_109 : decode cX12_sign 109 = .ok (.if_icmp .ne 9, 3) := by decide +kernel
theorem dX12_sign_118 : decode cX12_sign 118 = .ok (.iload_n 2, 1) := by decide +kernel
theorem dX12_sign_119 : decode cX12_sign 119 = .ok (.bipush 61, 2) := by decide +kernel
theorem dX12_sign_121 : decode cX12_sign 121 = .ok (.if_icmp .ne 9, 3) := by decide +kernel
theorem dX12_sign_130 : decode cX12_sign 130 = .ok (.sipush 259, 3) := by decide +kernel
theorem dX12_sign_133 : decode cX12_sign 133 = .ok (.ireturn, 1) := by decide +kernel
theorem dX12_sign_124 : decode cX12_sign 124 = .ok (.sipush 258, 3) := by decide +kernel
theorem dX12_sign_127 : decode cX12_sign 127 = .ok (.goto 6, 3) := by decide +kernel
theorem dX12_sign_112 : decode cX12_sign 112 = .ok (.sipush 257, 3) := by decide +kernel
theorem dX12_sign_115 : decode cX12_sign 115 = .ok (.goto 18, 3) := by decide +kernel
theorem dX12_sign_100 : decode cX12_sign 100 = .ok (.sipush 256, 3) := by decide +kernel
theorem dX12_sign_103 : decode cX12_sign 103 = .ok (.goto 30, 3) := by decide +kernel
theorem dX12_sign_76 : decode cX12_sign 76 = .ok (.iload_n 2, 1) := by decide +kernel
theorem dX12_sign_77 : decode cX12_sign 77 = .ok (.bipush 62, 2) := by decide +kernel
theorem dX12_sign_79 : decode cX12_sign 79 = .ok (.if_icmp .eq 15, 3) := by decide +kernel
theorem dX12_sign_82 : decode cX12_sign 82 = .ok (.iload_n 2, 1) := by decide +kernel
theorem dX12_sign_83 : decode cX12_sign 83 = .ok (.bipush 61, 2) := by decide +kernel
theorem dX12_sign_85 : decode cX12_sign 85 = .ok (.if_icmp .eq 9, 3) := by decide +kernel
theorem dX12_sign_88 : decode cX12_sign 88 = .ok (.iload_n 2, 1) := by decide +kernel
theorem dX12_sign_89 : decode cX12_sign 89 = .ok (.bipush 33, 2) := by decide +kernel
theorem dX12_sign_91 : decode cX12_sign 91 = .ok (.if_icmp .ne 43, 3) := by decide +kernel
theorem dX12_sign_54 : decode cX12_sign 54 = .ok (.iload_n 3, 1) := by decide +kernel
theorem dX12_sign_55 : decode cX12_sign 55 = .ok (.bipush 60, 2) := by decide +kernel
theorem dX12_sign_57 : decode cX12_sign 57 = .ok (.if_icmp .ne 7, 3) := by decide +kernel
theorem dX12_sign_60 : decode cX12_sign 60 = .ok (.sipush 262, 3) := by decide +kernel
theorem dX12_sign_63 : decode cX12_sign 63 = .ok (.ireturn, 1) := by decide +kernel
theorem dX12_sign_20 : decode cX12_sign 20 = .ok (.iload_n 3, 1) := by decide +kernel
theorem dX12_sign_21 : decode cX12_sign 21 = .ok (.bipush 62, 2) := by decide +kernel
theorem dX12_sign_23 : decode cX12_sign 23 = .ok (.if_icmp .ne 25, 3) := by decide +kernel
theorem dX12_sign_26 : decode cX12_sign 26 = .ok (.aload_n 0, 1) := by decide +kernel
theorem dX12_sign_27 : decode cX12_sign 27 = .ok (.iload_n 1, 1) := by decide +kernel
theorem dX12_sign_28 : decode cX12_sign 28 = .ok (.iconst 2, 1) := by decide +kernel
theorem dX12_sign_29 : decode cX12_sign 29 = .ok (.iadd, 1) := by decide +kernel
theorem dX12_sign_30 : decode cX12_sign 30 = .ok (.invokevirtual 283, 3) := by decide +kernel
theorem dX12_sign_33 : decode cX12_sign 33 = .ok (.bipush 62, 2) := by decide +kernel
theorem dX12_sign_35 : decode cX12_sign 35 = .ok (.if_icmp .ne 9, 3) := by decide +kernel
theorem dX12_sign_44 : decode cX12_sign 44 = .ok (.sipush 263, 3) := by decide +kernel
theorem dX12_sign_47 : decode cX12_sign 47 = .ok (.ireturn, 1) := by decide +kernel
theorem dX12_sign_38 : decode cX12_sign 38 = .ok (.sipush 264, 3) := by decide +kernel
theorem dX12_sign_41 : decode cX12_sign 41 = .ok (.goto 6, 3) := by decide +kernel
theorem hV_X12_ch : yX12_ch.cls = RX12 ∧ yX12_ch.cls ≠ "java/lang/invoke/MethodHandle" ∧ yX12_ch.cls ≠ "java/lang/invoke/VarHandle" ∧ (parseMethodDescriptor yX12_ch.desc).map (fun d => d.parameters.length) = some 1 := by decide +kernel
theorem hV_J0_indexOf_0f7a4 : yJ0_indexOf_0f7a4.cls = RJ0 ∧ yJ0_indexOf_0f7a4.cls ≠ "java/lang/invoke/MethodHandle" ∧ yJ0_indexOf_0f7a4.cls ≠ "java/lang/invoke/VarHandle" ∧ (parseMethodDescriptor yJ0_indexOf_0f7a4.desc).map (fun d => d.parameters.length) = some 1 := by decide +kernel
set_option maxHeartbeats 2000000 in
set_option maxRecDepth 100000 in
/-- sign(i) -/
theorem R_sign (l : Launch) (G : pT) (h0 : Nat) (a : Nat → Nat) (F : Nat → Int32) (B : Nat → Nat → Int32) (j : Nat) (sz : Nat) (hsz : sz ≤ 5000) (hj : j < sz) (htx : ∀ j : Nat, j < sz → tOk (B 1 j)) : PM l G pX0 yX12_sign cX12_sign 4 (some .int) ({ frames := 6, cells := 0, slots := 0, locals := 151 }) [.ref h0, .int (nI j)] (mW G h0 a (upd F 4 (nI sz)) B) (fun (v : Option Value) (u : Int32) => v = some (.int u) ∧ (u = 264 → j + 3 ≤ sz) ∧ (¬ u < 256 → j + 2 ≤ sz)) (fun u => (mW G h0 a (upd F 4 (nI sz)) B)) := by
  intro sz
  refine Met.ofW (cc := cX12_sign) (maxL := 4) (ret := (some .int)) (by decide) rfl ?_
  intro p e s m args below meth c s₁ B9 hml hv
  obtain ⟨rfl, hsz, hP, hD0, hE, hX⟩ := hv
  have hx := B9.exec
  have hb := B9.bytes
  have hr := B9.returns
  have hts := atoms_spec (ws := Cond.code yX12_sign cX12_sign 4 (some .int) :: pw) B9.pre
  have hq : ∀ w ∈ pw, w.before _ s = true := fun w h => hts w (List.mem_cons_of_mem _ h)
  have hown : s.vm.findClass RX12 = some m.cls := findClass_of_methodNamed B9.named
  have hlocks := B9.notSynchronized
  subst hsz
  have hD := hD0.self (sz := s.heap.size)
  have hA : ∀ q : Nat, s.heap.size ≤ q → va_A (mW G h0 a (upd F 4 (nI sz)) B) s.heap.size q := fun q h => Or.inr h
  have hP : va_P G.1 pCl (mW G h0 a (upd F 4 (nI sz)) B) s.heap := hP
  generalize va_A (mW G h0 a (upd F 4 (nI sz)) B) s.heap.size = A at hD hE hA ⊢
  have hS : va_S A s.heap s.heap [] := va_S.rf
  have hl := lv_entry ([.ref h0, .int (nI j)]) (n := 4) (Nat.le_of_ble_eq_true rfl)
  rw [lg_entry_eq]
  generalize (lg_sl ([.ref h0, .int (nI j)]) ++ List.replicate (4 - (lg_sl ([.ref h0, .int (nI j)])).length) Slot.unset).toArray = ls at hl ⊢
  have hl : lv_has ls 4 [(0, .ref h0), (1, .int (nI j))] := hl
  refine lv_aload_n hx hb dX12_sign_0 rfl (lv_at hl 0 rfl) ?_
  refine lv_iload_n hx hb dX12_sign_1 rfl (lv_at hl 1 rfl) ?_
  have hP : va_P G.1 pCl (mW G h0 a (upd (upd F 4 (nI sz)) 4 (nI sz)) B) _ := mW_to (F := F) (l1 := [(4, (nI sz))]) (l2 := [(4, (nI sz)), (4, (nI sz))]) (V := [(nI sz), (nI sz), (nI sz)]) rfl rfl rfl hP
  have hD : va_D A (mW G h0 a (upd (upd F 4 (nI sz)) 4 (nI sz)) B) := mW_D hD
  refine pc_V0 (G := G) (As := [.int (nI j)]) (rest := []) hx hb hml hown hq hE hX pX0_al hP hD hS hA hl.1 (R_ch l G h0 a (upd F 4 (nI sz)) B j sz (by omega) (by omega)) (gV pw_1561 pw_1562 pw_1563 pw_1523 pw_1518) hV_X12_ch 0 9 rfl rfl rfl rfl (Nat.le_of_ble_eq_true rfl) dX12_sign_2 ⟨Nat.le_of_ble_eq_true rfl, Nat.le_of_ble_eq_true rfl⟩ ⟨Nat.le_of_ble_eq_true rfl, Nat.le_of_ble_eq_true rfl⟩ (fun v3 u1 H locs hw2 hP hD hS => ?_)
  obtain ⟨r4, rfl⟩ : ∃ z, z = u1 := ⟨_, rfl⟩
  obtain ⟨hw2, h5⟩ := hw2
  have h5 : r4 = (-1) ∨ j < sz ∧ r4 = (B 1) j := h5
  obtain rfl : v3 = some (.int r4) := hw2
  have hP : va_P G.1 pCl (mW G h0 a (upd F 4 (nI sz)) B) _ := mW_to (F := F) (l1 := [(4, (nI sz)), (4, (nI sz))]) (l2 := [(4, (nI sz))]) (V := [(nI sz), (nI sz), (nI sz)]) rfl rfl rfl hP
  have hD : va_D A (mW G h0 a (upd F 4 (nI sz)) B) := mW_D hD
  refine W.widen (k := 0) (n := 0) (Nat.le_of_ble_eq_true rfl) (Nat.le_of_ble_eq_true rfl) ?_
  refine W.eq (g2 := F0 m 5 ls [.int r4]) rfl ?_
  refine lv_istore_n (lv' := [(2, .int r4), (0, .ref h0), (1, .int (nI j))]) hx hb dX12_sign_5 rfl hl (by decide) rfl (fun ls hl => ?_)
  refine lv_aload_n hx hb dX12_sign_6 rfl (lv_at hl 1 rfl) ?_
  refine lv_iload_n hx hb dX12_sign_7 rfl (lv_at hl 2 rfl) ?_
  refine lv_iconst (v := 1) hx hb dX12_sign_8 (by decide) ?_
  refine lv_iadd hx hb dX12_sign_9 ?_
  refine lv_topi (fun x6 e7 => ?_)
  obtain rfl : x6 = nI (j + 1) := e7.trans (nI_add (j) (1))
  have hP : va_P G.1 pCl (mW G h0 a (upd (upd F 4 (nI sz)) 4 (nI sz)) B) _ := mW_to (F := F) (l1 := [(4, (nI sz))]) (l2 := [(4, (nI sz)), (4, (nI sz))]) (V := [(nI sz), (nI sz), (nI sz)]) rfl rfl rfl hP
  have hD : va_D A (mW G h0 a (upd (upd F 4 (nI sz)) 4 (nI sz)) B) := mW_D hD
  refine pc_V0 (G := G) (As := [.int (nI (j + 1))]) (rest := []) hx hb hml hown hq hE hX pX0_al hP hD hS hA hl.1 (R_ch l G h0 a (upd F 4 (nI sz)) B (j + 1) sz (by omega) (by omega)) (gV pw_1561 pw_1562 pw_1563 pw_1523 pw_1518) hV_X12_ch 0 9 rfl rfl rfl rfl (Nat.le_of_ble_eq_true rfl) dX12_sign_10 ⟨Nat.le_of_ble_eq_true rfl, Nat.le_of_ble_eq_true rfl⟩ ⟨Nat.le_of_ble_eq_true rfl, Nat.le_of_ble_eq_true rfl⟩ (fun v10 u8 H locs hw9 hP hD hS => ?_)
  obtain ⟨r11, rfl⟩ : ∃ z, z = u8 := ⟨_, rfl⟩
  obtain ⟨hw9, h12⟩ := hw9
  have h12 : r11 = (-1) ∨ (j + 1) < sz ∧ r11 = (B 1) (j + 1) := h12
  obtain rfl : v10 = some (.int r11) := hw9
  have hP : va_P G.1 pCl (mW G h0 a (upd F 4 (nI sz)) B) _ := mW_to (F := F) (l1 := [(4, (nI sz)), (4, (nI sz))]) (l2 := [(4, (nI sz))]) (V := [(nI sz), (nI sz), (nI sz)]) rfl rfl rfl hP
  have hD : va_D A (mW G h0 a (upd F 4 (nI sz)) B) := mW_D hD
  refine W.widen (k := 0) (n := 0) (Nat.le_of_ble_eq_true rfl) (Nat.le_of_ble_eq_true rfl) ?_
  refine W.eq (g2 := F0 m 13 ls [.int r11]) rfl ?_
  refine lv_istore_n (lv' := [(3, .int r11), (2, .int r4), (0, .ref h0), (1, .int (nI j))]) hx hb dX12_sign_13 rfl hl (by decide) rfl (fun ls hl => ?_)
  refine lv_iload_n hx hb dX12_sign_14 rfl (lv_at hl 1 rfl) ?_
  refine lv_bipush (v := 62) hx hb dX12_sign_15 (by decide) ?_
  refine lv_icmp_ne (tgt := 48) hx hb dX12_sign_17 (by decide) (fun c13 => ?_) (fun c13 => ?_)
  · refine lv_iload_n hx hb dX12_sign_48 rfl (lv_at hl 1 rfl) ?_
    refine lv_bipush (v := 60) hx hb dX12_sign_49 (by decide) ?_
    refine lv_icmp_ne (tgt := 64) hx hb dX12_sign_51 (by decide) (fun c14 => ?_) (fun c14 => ?_)
    · refine lv_iload_n hx hb dX12_sign_64 rfl (lv_at hl 0 rfl) ?_
      refine lv_bipush (v := 61) hx hb dX12_sign_65 (by decide) ?_
      refine lv_icmp_ne (tgt := 134) hx hb dX12_sign_67 (by decide) (fun c15 => ?_) (fun c15 => ?_)
      · refine lv_iload_n hx hb dX12_sign_134 rfl (lv_at hl 1 rfl) ?_
        refine lv_iload_n hx hb dX12_sign_135 rfl (lv_at hl 0 rfl) ?_
        refine lv_icmp_ne (tgt := 167) hx hb dX12_sign_136 (by decide) (fun c16 => ?_) (fun c16 => ?_)
        · refine pn_ldcSW (q := G.2.2.1 16) hx hb hown hE.al dX12_sign_167 ?_
          refine lv_iload_n hx hb dX12_sign_170 rfl (lv_at hl 1 rfl) ?_
          refine pc_VN (G := G) (As := [.int r4]) (rest := []) hx hb hml hown hq hE hX pX0_al hP hS hA hl.1 (c_indexOf1 l G 16 r4 (by decide)) (gV pw_1564 pw_1565 pw_1566 pw_1214 pw_1560) hV_J0_indexOf_0f7a4 (vk_recv hE.2.1 (by decide) hS) rfl (Nat.le_of_ble_eq_true rfl) dX12_sign_171 ⟨Nat.le_of_ble_eq_true rfl, Nat.le_of_ble_eq_true rfl⟩ ⟨Nat.le_of_ble_eq_true rfl, Nat.le_of_ble_eq_true rfl⟩ (fun v19 u17 H locs hw18 hP hS => ?_)
          obtain ⟨x20, rfl⟩ := hw18
          refine W.widen (k := 0) (n := 0) (Nat.le_of_ble_eq_true rfl) (Nat.le_of_ble_eq_true rfl) ?_
          refine W.eq (g2 := F0 m 174 ls [.int x20]) rfl ?_
          refine lv_if_lt (tgt := 181) hx hb dX12_sign_174 (by decide) (fun c21 => ?_) (fun c21 => ?_)
          · refine lv_iconst (v := 3) hx hb dX12_sign_181 (by decide) ?_
            have hz22 : (3 : Int32) = 264 → j + 3 ≤ sz := (fun e8 => absurd e8 (by decide))
            have hz23 : ¬ (3 : Int32) < 256 → j + 2 ≤ sz := (fun h8 => absurd (by decide) h8)
            have hP : va_P G.1 pCl (mW G h0 a (upd F 4 (nI sz)) B) _ := hP
            have hD : va_D A (mW G h0 a (upd F 4 (nI sz)) B) := mW_D hD
            exact W.iret (v := 3) hx hb hr (fun t9 ht9 hW9 => ⟨⟨_, (3 : Int32), rfl, ⟨rfl, hz22, hz23⟩, by rw [ht9]; exact hP, hD⟩, hS.F ht9⟩) hS.2.2 dX12_sign_182
          · refine lv_iload_n hx hb dX12_sign_177 rfl (lv_at hl 1 rfl) ?_
            refine lv_goto (tgt := 182) hx hb dX12_sign_178 (by decide) ?_
            have hlt9 : r4 < 256 := chlt htx hj h5
            have hz24 : r4 = 264 → j + 3 ≤ sz := (fun e8 => absurd hlt9 (by rw [e8]; decide))
            have hz25 : ¬ r4 < 256 → j + 2 ≤ sz := (fun h8 => absurd hlt9 h8)
            have hP : va_P G.1 pCl (mW G h0 a (upd F 4 (nI sz)) B) _ := hP
            have hD : va_D A (mW G h0 a (upd F 4 (nI sz)) B) := mW_D hD
            exact W.iret (v := r4) hx hb hr (fun t9 ht9 hW9 => ⟨⟨_, r4, rfl, ⟨rfl, hz24, hz25⟩, by rw [ht9]; exact hP, hD⟩, hS.F ht9⟩) hS.2.2 dX12_sign_182
        · refine lv_iload_n hx hb dX12_sign_139 rfl (lv_at hl 1 rfl) ?_
          refine lv_bipush (v := 38) hx hb dX12_sign_140 (by decide) ?_
          refine lv_icmp_eq (tgt := 151) hx hb dX12_sign_142 (by decide) (fun c26 => ?_) (fun c26 => ?_)
          · refine lv_iload_n hx hb dX12_sign_151 rfl (lv_at hl 1 rfl) ?_
            refine lv_bipush (v := 38) hx hb dX12_sign_152 (by decide) ?_
            refine lv_icmp_ne (tgt := 163) hx hb dX12_sign_154 (by decide) (fun c27 => ?_) (fun c27 => ?_)
            · refine lv_sipush (v := 261) hx hb dX12_sign_163 (by decide) ?_
              have hz28 : (261 : Int32) = 264 → j + 3 ≤ sz := (fun e8 => absurd e8 (by decide))
              have hz29 : ¬ (261 : Int32) < 256 → j + 2 ≤ sz := (fun _ => (by have h7 := chin h12 (by rw [← c16, c26]; decide); omega))
              have hP : va_P G.1 pCl (mW G h0 a (upd F 4 (nI sz)) B) _ := hP
              have hD : va_D A (mW G h0 a (upd F 4 (nI sz)) B) := mW_D hD
              exact W.iret (v := 261) hx hb hr (fun t9 ht9 hW9 => ⟨⟨_, (261 : Int32), rfl, ⟨rfl, hz28, hz29⟩, by rw [ht9]; exact hP, hD⟩, hS.F ht9⟩) hS.2.2 dX12_sign_166
            · refine lv_sipush (v := 260) hx hb dX12_sign_157 (by decide) ?_
              refine lv_goto (tgt := 166) hx hb dX12_sign_160 (by decide) ?_
              have hz30 : (260 : Int32) = 264 → j + 3 ≤ sz := (fun e8 => absurd e8 (by decide))
              have hz31 : ¬ (260 : Int32) < 256 → j + 2 ≤ sz := (fun _ => (by have h7 := chin h12 (by rw [← c16, c26]; decide); omega))
              have hP : va_P G.1 pCl (mW G h0 a (upd F 4 (nI sz)) B) _ := hP
              have hD : va_D A (mW G h0 a (upd F 4 (nI sz)) B) := mW_D hD
              exact W.iret (v := 260) hx hb hr (fun t9 ht9 hW9 => ⟨⟨_, (260 : Int32), rfl, ⟨rfl, hz30, hz31⟩, by rw [ht9]; exact hP, hD⟩, hS.F ht9⟩) hS.2.2 dX12_sign_166
          · refine lv_iload_n hx hb dX12_sign_145 rfl (lv_at hl 1 rfl) ?_
            refine lv_bipush (v := 124) hx hb dX12_sign_146 (by decide) ?_
            refine lv_icmp_ne (tgt := 167) hx hb dX12_sign_148 (by decide) (fun c32 => ?_) (fun c32 => ?_)
            · refine pn_ldcSW (q := G.2.2.1 16) hx hb hown hE.al dX12_sign_167 ?_
              refine lv_iload_n hx hb dX12_sign_170 rfl (lv_at hl 1 rfl) ?_
              refine pc_VN (G := G) (As := [.int r4]) (rest := []) hx hb hml hown hq hE hX pX0_al hP hS hA hl.1 (c_indexOf1 l G 16 r4 (by decide)) (gV pw_1564 pw_1565 pw_1566 pw_1214 pw_1560) hV_J0_indexOf_0f7a4 (vk_recv hE.2.1 (by decide) hS) rfl (Nat.le_of_ble_eq_true rfl) dX12_sign_171 ⟨Nat.le_of_ble_eq_true rfl, Nat.le_of_ble_eq_true rfl⟩ ⟨Nat.le_of_ble_eq_true rfl, Nat.le_of_ble_eq_true rfl⟩ (fun v35 u33 H locs hw34 hP hS => ?_)
              obtain ⟨x36, rfl⟩ := hw34
              refine W.widen (k := 0) (n := 0) (Nat.le_of_ble_eq_true rfl) (Nat.le_of_ble_eq_true rfl) ?_
              refine W.eq (g2 := F0 m 174 ls [.int x36]) rfl ?_
              refine lv_if_lt (tgt := 181) hx hb dX12_sign_174 (by decide) (fun c37 => ?_) (fun c37 => ?_)
              · refine lv_iconst (v := 3) hx hb dX12_sign_181 (by decide) ?_
                have hz38 : (3 : Int32) = 264 → j + 3 ≤ sz := (fun e8 => absurd e8 (by decide))
                have hz39 : ¬ (3 : Int32) < 256 → j + 2 ≤ sz := (fun h8 => absurd (by decide) h8)
                have hP : va_P G.1 pCl (mW G h0 a (upd F 4 (nI sz)) B) _ := hP
                have hD : va_D A (mW G h0 a (upd F 4 (nI sz)) B) := mW_D hD
                exact W.iret (v := 3) hx hb hr (fun t9 ht9 hW9 => ⟨⟨_, (3 : Int32), rfl, ⟨rfl, hz38, hz39⟩, by rw [ht9]; exact hP, hD⟩, hS.F ht9⟩) hS.2.2 dX12_sign_182
              · refine lv_iload_n hx hb dX12_sign_177 rfl (lv_at hl 1 rfl) ?_
                refine lv_goto (tgt := 182) hx hb dX12_sign_178 (by decide) ?_
                have hlt9 : r4 < 256 := chlt htx hj h5
                have hz40 : r4 = 264 → j + 3 ≤ sz := (fun e8 => absurd hlt9 (by rw [e8]; decide))
                have hz41 : ¬ r4 < 256 → j + 2 ≤ sz := (fun h8 => absurd hlt9 h8)
                have hP : va_P G.1 pCl (mW G h0 a (upd F 4 (nI sz)) B) _ := hP
                have hD : va_D A (mW G h0 a (upd F 4 (nI sz)) B) := mW_D hD
                exact W.iret (v := r4) hx hb hr (fun t9 ht9 hW9 => ⟨⟨_, r4, rfl, ⟨rfl, hz40, hz41⟩, by rw [ht9]; exact hP, hD⟩, hS.F ht9⟩) hS.2.2 dX12_sign_182
            · refine lv_iload_n hx hb dX12_sign_151 rfl (lv_at hl 1 rfl) ?_
              refine lv_bipush (v := 38) hx hb dX12_sign_152 (by decide) ?_
              refine lv_icmp_ne (tgt := 163) hx hb dX12_sign_154 (by decide) (fun c42 => ?_) (fun c42 => ?_)
              · refine lv_sipush (v := 261) hx hb dX12_sign_163 (by decide) ?_
                have hz43 : (261 : Int32) = 264 → j + 3 ≤ sz := (fun e8 => absurd e8 (by decide))
                have hz44 : ¬ (261 : Int32) < 256 → j + 2 ≤ sz := (fun _ => (by have h7 := chin h12 (by rw [← c16, c32]; decide); omega))
                have hP : va_P G.1 pCl (mW G h0 a (upd F 4 (nI sz)) B) _ := hP
                have hD : va_D A (mW G h0 a (upd F 4 (nI sz)) B) := mW_D hD
                exact W.iret (v := 261) hx hb hr (fun t9 ht9 hW9 => ⟨⟨_, (261 : Int32), rfl, ⟨rfl, hz43, hz44⟩, by rw [ht9]; exact hP, hD⟩, hS.F ht9⟩) hS.2.2 dX12_sign_166
              · refine lv_sipush (v := 260) hx hb dX12_sign_157 (by decide) ?_
                refine lv_goto (tgt := 166) hx hb dX12_sign_160 (by decide) ?_
                have hz45 : (260 : Int32) = 264 → j + 3 ≤ sz := (fun e8 => absurd e8 (by decide))
                have hz46 : ¬ (260 : Int32) < 256 → j + 2 ≤ sz := (fun _ => (by have h7 := chin h12 (by rw [← c16, c32]; decide); omega))
                have hP : va_P G.1 pCl (mW G h0 a (upd F 4 (nI sz)) B) _ := hP
                have hD : va_D A (mW G h0 a (upd F 4 (nI sz)) B) := mW_D hD
                exact W.iret (v := 260) hx hb hr (fun t9 ht9 hW9 => ⟨⟨_, (260 : Int32), rfl, ⟨rfl, hz45, hz46⟩, by rw [ht9]; exact hP, hD⟩, hS.F ht9⟩) hS.2.2 dX12_sign_166
      · refine lv_iload_n hx hb dX12_sign_70 rfl (lv_at hl 1 rfl) ?_
        refine lv_bipush (v := 60) hx hb dX12_sign_71 (by decide) ?_
        refine lv_icmp_eq (tgt := 94) hx hb dX12_sign_73 (by decide) (fun c47 => ?_) (fun c47 => ?_)
        · refine lv_iload_n hx hb dX12_sign_94 rfl (lv_at hl 1 rfl) ?_
          refine lv_bipush (v := 60) hx hb dX12_sign_95 (by decide) ?_
          refine lv_icmp_ne (tgt := 106) hx hb dX12_sign_97 (by decide) (fun c48 => ?_) (fun c48 => ?_)
          · refine lv_iload_n hx hb dX12_sign_106 rfl (lv_at hl 1 rfl) ?_
            refine lv_bipush (v := 62) hx hb dX12_sign_107 (by decide) ?_
            refine lv_icmp_ne (tgt := 118) hx hb dX12_sign_109 (by decide) (fun c49 => ?_) (fun c49 => ?_)
            · refine lv_iload_n hx hb dX12_sign_118 rfl (lv_at hl 1 rfl) ?_
              refine lv_bipush (v := 61) hx hb dX12_sign_119 (by decide) ?_
              refine lv_icmp_ne (tgt := 130) hx hb dX12_sign_121 (by decide) (fun c50 => ?_) (fun c50 => ?_)
              · refine lv_sipush (v := 259) hx hb dX12_sign_130 (by decide) ?_
                have hz51 : (259 : Int32) = 264 → j + 3 ≤ sz := (fun e8 => absurd e8 (by decide))
                have hz52 : ¬ (259 : Int32) < 256 → j + 2 ≤ sz := (fun _ => (by have h7 := chin h12 (by rw [c15]; decide); omega))
                have hP : va_P G.1 pCl (mW G h0 a (upd F 4 (nI sz)) B) _ := hP
                have hD : va_D A (mW G h0 a (upd F 4 (nI sz)) B) := mW_D hD
                exact W.iret (v := 259) hx hb hr (fun t9 ht9 hW9 => ⟨⟨_, (259 : Int32), rfl, ⟨rfl, hz51, hz52⟩, by rw [ht9]; exact hP, hD⟩, hS.F ht9⟩) hS.2.2 dX12_sign_133
              · refine lv_sipush (v := 258) hx hb dX12_sign_124 (by decide) ?_
                refine lv_goto (tgt := 133) hx hb dX12_sign_127 (by decide) ?_
                have hz53 : (258 : Int32) = 264 → j + 3 ≤ sz := (fun e8 => absurd e8 (by decide))
                have hz54 : ¬ (258 : Int32) < 256 → j + 2 ≤ sz := (fun _ => (by have h7 := chin h12 (by rw [c15]; decide); omega))
                have hP : va_P G.1 pCl (mW G h0 a (upd F 4 (nI sz)) B) _ := hP
                have hD : va_D A (mW G h0 a (upd F 4 (nI sz)) B) := mW_D hD
                exact W.iret (v := 258) hx hb hr (fun t9 ht9 hW9 => ⟨⟨_, (258 : Int32), rfl, ⟨rfl, hz53, hz54⟩, by rw [ht9]; exact hP, hD⟩, hS.F ht9⟩) hS.2.2 dX12_sign_133
            · refine lv_sipush (v := 257) hx hb dX12_sign_112 (by decide) ?_
              refine lv_goto (tgt := 133) hx hb dX12_sign_115 (by decide) ?_
              have hz55 : (257 : Int32) = 264 → j + 3 ≤ sz := (fun e8 => absurd e8 (by decide))
              have hz56 : ¬ (257 : Int32) < 256 → j + 2 ≤ sz := (fun _ => (by have h7 := chin h12 (by rw [c15]; decide); omega))
              have hP : va_P G.1 pCl (mW G h0 a (upd F 4 (nI sz)) B) _ := hP
              have hD : va_D A (mW G h0 a (upd F 4 (nI sz)) B) := mW_D hD
              exact W.iret (v := 257) hx hb hr (fun t9 ht9 hW9 => ⟨⟨_, (257 : Int32), rfl, ⟨rfl, hz55, hz56⟩, by rw [ht9]; exact hP, hD⟩, hS.F ht9⟩) hS.2.2 dX12_sign_133
          · refine lv_sipush (v := 256) hx hb dX12_sign_100 (by decide) ?_
            refine lv_goto (tgt := 133) hx hb dX12_sign_103 (by decide) ?_
            have hz57 : (256 : Int32) = 264 → j + 3 ≤ sz := (fun e8 => absurd e8 (by decide))
            have hz58 : ¬ (256 : Int32) < 256 → j + 2 ≤ sz := (fun _ => (by have h7 := chin h12 (by rw [c15]; decide); omega))
            have hP : va_P G.1 pCl (mW G h0 a (upd F 4 (nI sz)) B) _ := hP
            have hD : va_D A (mW G h0 a (upd F 4 (nI sz)) B) := mW_D hD
            exact W.iret (v := 256) hx hb hr (fun t9 ht9 hW9 => ⟨⟨_, (256 : Int32), rfl, ⟨rfl, hz57, hz58⟩, by rw [ht9]; exact hP, hD⟩, hS.F ht9⟩) hS.2.2 dX12_sign_133
        · refine lv_iload_n hx hb dX12_sign_76 rfl (lv_at hl 1 rfl) ?_
          refine lv_bipush (v := 62) hx hb dX12_sign_77 (by decide) ?_
          refine lv_icmp_eq (tgt := 94) hx hb dX12_sign_79 (by decide) (fun c59 => ?_) (fun c59 => ?_)
          · refine lv_iload_n hx hb dX12_sign_94 rfl (lv_at hl 1 rfl) ?_
            refine lv_bipush (v := 60) hx hb dX12_sign_95 (by decide) ?_
            refine lv_icmp_ne (tgt := 106) hx hb dX12_sign_97 (by decide) (fun c60 => ?_) (fun c60 => ?_)
            · refine lv_iload_n hx hb dX12_sign_106 rfl (lv_at hl 1 rfl) ?_
              refine lv_bipush (v := 62) hx hb dX12_sign_107 (by decide) ?_
              refine lv_icmp_ne (tgt := 118) hx hb dX12_sign_109 (by decide) (fun c61 => ?_) (fun c61 => ?_)
              · refine lv_iload_n hx hb dX12_sign_118 rfl (lv_at hl 1 rfl) ?_
                refine lv_bipush (v := 61) hx hb dX12_sign_119 (by decide) ?_
                refine lv_icmp_ne (tgt := 130) hx hb dX12_sign_121 (by decide) (fun c62 => ?_) (fun c62 => ?_)
                · refine lv_sipush (v := 259) hx hb dX12_sign_130 (by decide) ?_
                  have hz63 : (259 : Int32) = 264 → j + 3 ≤ sz := (fun e8 => absurd e8 (by decide))
                  have hz64 : ¬ (259 : Int32) < 256 → j + 2 ≤ sz := (fun _ => (by have h7 := chin h12 (by rw [c15]; decide); omega))
                  have hP : va_P G.1 pCl (mW G h0 a (upd F 4 (nI sz)) B) _ := hP
                  have hD : va_D A (mW G h0 a (upd F 4 (nI sz)) B) := mW_D hD
                  exact W.iret (v := 259) hx hb hr (fun t9 ht9 hW9 => ⟨⟨_, (259 : Int32), rfl, ⟨rfl, hz63, hz64⟩, by rw [ht9]; exact hP, hD⟩, hS.F ht9⟩) hS.2.2 dX12_sign_133
                · refine lv_sipush (v := 258) hx hb dX12_sign_124 (by decide) ?_
                  refine lv_goto (tgt := 133) hx hb dX12_sign_127 (by decide) ?_
                  have hz65 : (258 : Int32) = 264 → j + 3 ≤ sz := (fun e8 => absurd e8 (by decide))
                  have hz66 : ¬ (258 : Int32) < 256 → j + 2 ≤ sz := (fun _ => (by have h7 := chin h12 (by rw [c15]; decide); omega))
                  have hP : va_P G.1 pCl (mW G h0 a (upd F 4 (nI sz)) B) _ := hP
                  have hD : va_D A (mW G h0 a (upd F 4 (nI sz)) B) := mW_D hD
                  exact W.iret (v := 258) hx hb hr (fun t9 ht9 hW9 => ⟨⟨_, (258 : Int32), rfl, ⟨rfl, hz65, hz66⟩, by rw [ht9]; exact hP, hD⟩, hS.F ht9⟩) hS.2.2 dX12_sign_133
              · refine lv_sipush (v := 257) hx hb dX12_sign_112 (by decide) ?_
                refine lv_goto (tgt := 133) hx hb dX12_sign_115 (by decide) ?_
                have hz67 : (257 : Int32) = 264 → j + 3 ≤ sz := (fun e8 => absurd e8 (by decide))
                have hz68 : ¬ (257 : Int32) < 256 → j + 2 ≤ sz := (fun _ => (by have h7 := chin h12 (by rw [c15]; decide); omega))
                have hP : va_P G.1 pCl (mW G h0 a (upd F 4 (nI sz)) B) _ := hP
                have hD : va_D A (mW G h0 a (upd F 4 (nI sz)) B) := mW_D hD
                exact W.iret (v := 257) hx hb hr (fun t9 ht9 hW9 => ⟨⟨_, (257 : Int32), rfl, ⟨rfl, hz67, hz68⟩, by rw [ht9]; exact hP, hD⟩, hS.F ht9⟩) hS.2.2 dX12_sign_133
            · refine lv_sipush (v := 256) hx hb dX12_sign_100 (by decide) ?_
              refine lv_goto (tgt := 133) hx hb dX12_sign_103 (by decide) ?_
              have hz69 : (256 : Int32) = 264 → j + 3 ≤ sz := (fun e8 => absurd e8 (by decide))
              have hz70 : ¬ (256 : Int32) < 256 → j + 2 ≤ sz := (fun _ => (by have h7 := chin h12 (by rw [c15]; decide); omega))
              have hP : va_P G.1 pCl (mW G h0 a (upd F 4 (nI sz)) B) _ := hP
              have hD : va_D A (mW G h0 a (upd F 4 (nI sz)) B) := mW_D hD
              exact W.iret (v := 256) hx hb hr (fun t9 ht9 hW9 => ⟨⟨_, (256 : Int32), rfl, ⟨rfl, hz69, hz70⟩, by rw [ht9]; exact hP, hD⟩, hS.F ht9⟩) hS.2.2 dX12_sign_133
          · refine lv_iload_n hx hb dX12_sign_82 rfl (lv_at hl 1 rfl) ?_
            refine lv_bipush (v := 61) hx hb dX12_sign_83 (by decide) ?_
            refine lv_icmp_eq (tgt := 94) hx hb dX12_sign_85 (by decide) (fun c71 => ?_) (fun c71 => ?_)
            · refine lv_iload_n hx hb dX12_sign_94 rfl (lv_at hl 1 rfl) ?_
              refine lv_bipush (v := 60) hx hb dX12_sign_95 (by decide) ?_
              refine lv_icmp_ne (tgt := 106) hx hb dX12_sign_97 (by decide) (fun c72 => ?_) (fun c72 => ?_)
              · refine lv_iload_n hx hb dX12_sign_106 rfl (lv_at hl 1 rfl) ?_
                refine lv_bipush (v := 62) hx hb dX12_sign_107 (by decide) ?_
                refine lv_icmp_ne (tgt := 118) hx hb dX12_sign_109 (by decide) (fun c73 => ?_) (fun c73 => ?_)
                · refine lv_iload_n hx hb dX12_sign_118 rfl (lv_at hl 1 rfl) ?_
                  refine lv_bipush (v := 61) hx hb dX12_sign_119 (by decide) ?_
                  refine lv_icmp_ne (tgt := 130) hx hb dX12_sign_121 (by decide) (fun c74 => ?_) (fun c74 => ?_)
                  · refine lv_sipush (v := 259) hx hb dX12_sign_130 (by decide) ?_
                    have hz75 : (259 : Int32) = 264 → j + 3 ≤ sz := (fun e8 => absurd e8 (by decide))
                    have hz76 : ¬ (259 : Int32) < 256 → j + 2 ≤ sz := (fun _ => (by have h7 := chin h12 (by rw [c15]; decide); omega))
                    have hP : va_P G.1 pCl (mW G h0 a (upd F 4 (nI sz)) B) _ := hP
                    have hD : va_D A (mW G h0 a (upd F 4 (nI sz)) B) := mW_D hD
                    exact W.iret (v := 259) hx hb hr (fun t9 ht9 hW9 => ⟨⟨_, (259 : Int32), rfl, ⟨rfl, hz75, hz76⟩, by rw [ht9]; exact hP, hD⟩, hS.F ht9⟩) hS.2.2 dX12_sign_133
                  · refine lv_sipush (v := 258) hx hb dX12_sign_124 (by decide) ?_
                    refine lv_goto (tgt := 133) hx hb dX12_sign_127 (by decide) ?_
                    have hz77 : (258 : Int32) = 264 → j + 3 ≤ sz := (fun e8 => absurd e8 (by decide))
                    have hz78 : ¬ (258 : Int32) < 256 → j + 2 ≤ sz := (fun _ => (by have h7 := chin h12 (by rw [c15]; decide); omega))
                    have hP : va_P G.1 pCl (mW G h0 a (upd F 4 (nI sz)) B) _ := hP
                    have hD : va_D A (mW G h0 a (upd F 4 (nI sz)) B) := mW_D hD
                    exact W.iret (v := 258) hx hb hr (fun t9 ht9 hW9 => ⟨⟨_, (258 : Int32), rfl, ⟨rfl, hz77, hz78⟩, by rw [ht9]; exact hP, hD⟩, hS.F ht9⟩) hS.2.2 dX12_sign_133
                · refine lv_sipush (v := 257) hx hb dX12_sign_112 (by decide) ?_
                  refine lv_goto (tgt := 133) hx hb dX12_sign_115 (by decide) ?_
                  have hz79 : (257 : Int32) = 264 → j + 3 ≤ sz := (fun e8 => absurd e8 (by decide))
                  have hz80 : ¬ (257 : Int32) < 256 → j + 2 ≤ sz := (fun _ => (by have h7 := chin h12 (by rw [c15]; decide); omega))
                  have hP : va_P G.1 pCl (mW G h0 a (upd F 4 (nI sz)) B) _ := hP
                  have hD : va_D A (mW G h0 a (upd F 4 (nI sz)) B) := mW_D hD
                  exact W.iret (v := 257) hx hb hr (fun t9 ht9 hW9 => ⟨⟨_, (257 : Int32), rfl, ⟨rfl, hz79, hz80⟩, by rw [ht9]; exact hP, hD⟩, hS.F ht9⟩) hS.2.2 dX12_sign_133
              · refine lv_sipush (v := 256) hx hb dX12_sign_100 (by decide) ?_
                refine lv_goto (tgt := 133) hx hb dX12_sign_103 (by decide) ?_
                have hz81 : (256 : Int32) = 264 → j + 3 ≤ sz := (fun e8 => absurd e8 (by decide))
                have hz82 : ¬ (256 : Int32) < 256 → j + 2 ≤ sz := (fun _ => (by have h7 := chin h12 (by rw [c15]; decide); omega))
                have hP : va_P G.1 pCl (mW G h0 a (upd F 4 (nI sz)) B) _ := hP
                have hD : va_D A (mW G h0 a (upd F 4 (nI sz)) B) := mW_D hD
                exact W.iret (v := 256) hx hb hr (fun t9 ht9 hW9 => ⟨⟨_, (256 : Int32), rfl, ⟨rfl, hz81, hz82⟩, by rw [ht9]; exact hP, hD⟩, hS.F ht9⟩) hS.2.2 dX12_sign_133
            · refine lv_iload_n hx hb dX12_sign_88 rfl (lv_at hl 1 rfl) ?_
              refine lv_bipush (v := 33) hx hb dX12_sign_89 (by decide) ?_
              refine lv_icmp_ne (tgt := 134) hx hb dX12_sign_91 (by decide) (fun c83 => ?_) (fun c83 => ?_)
              · refine lv_iload_n hx hb dX12_sign_134 rfl (lv_at hl 1 rfl) ?_
                refine lv_iload_n hx hb dX12_sign_135 rfl (lv_at hl 0 rfl) ?_
                refine lv_icmp_ne (tgt := 167) hx hb dX12_sign_136 (by decide) (fun c84 => ?_) (fun c84 => ?_)
                · refine pn_ldcSW (q := G.2.2.1 16) hx hb hown hE.al dX12_sign_167 ?_
                  refine lv_iload_n hx hb dX12_sign_170 rfl (lv_at hl 1 rfl) ?_
                  refine pc_VN (G := G) (As := [.int r4]) (rest := []) hx hb hml hown hq hE hX pX0_al hP hS hA hl.1 (c_indexOf1 l G 16 r4 (by decide)) (gV pw_1564 pw_1565 pw_1566 pw_1214 pw_1560) hV_J0_indexOf_0f7a4 (vk_recv hE.2.1 (by decide) hS) rfl (Nat.le_of_ble_eq_true rfl) dX12_sign_171 ⟨Nat.le_of_ble_eq_true rfl, Nat.le_of_ble_eq_true rfl⟩ ⟨Nat.le_of_ble_eq_true rfl, Nat.le_of_ble_eq_true rfl⟩ (fun v87 u85 H locs hw86 hP hS => ?_)
                  obtain ⟨x88, rfl⟩ := hw86
                  refine W.widen (k := 0) (n := 0) (Nat.le_of_ble_eq_true rfl) (Nat.le_of_ble_eq_true rfl) ?_
                  refine W.eq (g2 := F0 m 174 ls [.int x88]) rfl ?_
                  refine lv_if_lt (tgt := 181) hx hb dX12_sign_174 (by decide) (fun c89 => ?_) (fun c89 => ?_)
                  · refine lv_iconst (v := 3) hx hb dX12_sign_181 (by decide) ?_
                    have hz90 : (3 : Int32) = 264 → j + 3 ≤ sz := (fun e8 => absurd e8 (by decide))
                    have hz91 : ¬ (3 : Int32) < 256 → j + 2 ≤ sz := (fun h8 => absurd (by decide) h8)
                    have hP : va_P G.1 pCl (mW G h0 a (upd F 4 (nI sz)) B) _ := hP
                    have hD : va_D A (mW G h0 a (upd F 4 (nI sz)) B) := mW_D hD
                    exact W.iret (v := 3) hx hb hr (fun t9 ht9 hW9 => ⟨⟨_, (3 : Int32), rfl, ⟨rfl, hz90, hz91⟩, by rw [ht9]; exact hP, hD⟩, hS.F ht9⟩) hS.2.2 dX12_sign_182
                  · refine lv_iload_n hx hb dX12_sign_177 rfl (lv_at hl 1 rfl) ?_
                    refine lv_goto (tgt := 182) hx hb dX12_sign_178 (by decide) ?_
                    have hlt9 : r4 < 256 := chlt htx hj h5
                    have hz92 : r4 = 264 → j + 3 ≤ sz := (fun e8 => absurd hlt9 (by rw [e8]; decide))
                    have hz93 : ¬ r4 < 256 → j + 2 ≤ sz := (fun h8 => absurd hlt9 h8)
                    have hP : va_P G.1 pCl (mW G h0 a (upd F 4 (nI sz)) B) _ := hP
                    have hD : va_D A (mW G h0 a (upd F 4 (nI sz)) B) := mW_D hD
                    exact W.iret (v := r4) hx hb hr (fun t9 ht9 hW9 => ⟨⟨_, r4, rfl, ⟨rfl, hz92, hz93⟩, by rw [ht9]; exact hP, hD⟩, hS.F ht9⟩) hS.2.2 dX12_sign_182
                · refine lv_iload_n hx hb dX12_sign_139 rfl (lv_at hl 1 rfl) ?_
                  refine lv_bipush (v := 38) hx hb dX12_sign_140 (by decide) ?_
                  refine lv_icmp_eq (tgt := 151) hx hb dX12_sign_142 (by decide) (fun c94 => ?_) (fun c94 => ?_)
                  · refine lv_iload_n hx hb dX12_sign_151 rfl (lv_at hl 1 rfl) ?_
                    refine lv_bipush (v := 38) hx hb dX12_sign_152 (by decide) ?_
                    refine lv_icmp_ne (tgt := 163) hx hb dX12_sign_154 (by decide) (fun c95 => ?_) (fun c95 => ?_)
                    · refine lv_sipush (v := 261) hx hb dX12_sign_163 (by decide) ?_
                      have hz96 : (261 : Int32) = 264 → j + 3 ≤ sz := (fun e8 => absurd e8 (by decide))
                      have hz97 : ¬ (261 : Int32) < 256 → j + 2 ≤ sz := (fun _ => (by have h7 := chin h12 (by rw [← c84, c94]; decide); omega))
                      have hP : va_P G.1 pCl (mW G h0 a (upd F 4 (nI sz)) B) _ := hP
                      have hD : va_D A (mW G h0 a (upd F 4 (nI sz)) B) := mW_D hD
                      exact W.iret (v := 261) hx hb hr (fun t9 ht9 hW9 => ⟨⟨_, (261 : Int32), rfl, ⟨rfl, hz96, hz97⟩, by rw [ht9]; exact hP, hD⟩, hS.F ht9⟩) hS.2.2 dX12_sign_166
                    · refine lv_sipush (v := 260) hx hb dX12_sign_157 (by decide) ?_
                      refine lv_goto (tgt := 166) hx hb dX12_sign_160 (by decide) ?_
                      have hz98 : (260 : Int32) = 264 → j + 3 ≤ sz := (fun e8 => absurd e8 (by decide))
                      have hz99 : ¬ (260 : Int32) < 256 → j + 2 ≤ sz := (fun _ => (by have h7 := chin h12 (by rw [← c84, c94]; decide); omega))
                      have hP : va_P G.1 pCl (mW G h0 a (upd F 4 (nI sz)) B) _ := hP
                      have hD : va_D A (mW G h0 a (upd F 4 (nI sz)) B) := mW_D hD
                      exact W.iret (v := 260) hx hb hr (fun t9 ht9 hW9 => ⟨⟨_, (260 : Int32), rfl, ⟨rfl, hz98, hz99⟩, by rw [ht9]; exact hP, hD⟩, hS.F ht9⟩) hS.2.2 dX12_sign_166
                  · refine lv_iload_n hx hb dX12_sign_145 rfl (lv_at hl 1 rfl) ?_
                    refine lv_bipush (v := 124) hx hb dX12_sign_146 (by decide) ?_
                    refine lv_icmp_ne (tgt := 167) hx hb dX12_sign_148 (by decide) (fun c100 => ?_) (fun c100 => ?_)
                    · refine pn_ldcSW (q := G.2.2.1 16) hx hb hown hE.al dX12_sign_167 ?_
                      refine lv_iload_n hx hb dX12_sign_170 rfl (lv_at hl 1 rfl) ?_
                      refine pc_VN (G := G) (As := [.int r4]) (rest := []) hx hb hml hown hq hE hX pX0_al hP hS hA hl.1 (c_indexOf1 l G 16 r4 (by decide)) (gV pw_1564 pw_1565 pw_1566 pw_1214 pw_1560) hV_J0_indexOf_0f7a4 (vk_recv hE.2.1 (by decide) hS) rfl (Nat.le_of_ble_eq_true rfl) dX12_sign_171 ⟨Nat.le_of_ble_eq_true rfl, Nat.le_of_ble_eq_true rfl⟩ ⟨Nat.le_of_ble_eq_true rfl, Nat.le_of_ble_eq_true rfl⟩ (fun v103 u101 H locs hw102 hP hS => ?_)
                      obtain ⟨x104, rfl⟩ := hw102
                      refine W.widen (k := 0) (n := 0) (Nat.le_of_ble_eq_true rfl) (Nat.le_of_ble_eq_true rfl) ?_
                      refine W.eq (g2 := F0 m 174 ls [.int x104]) rfl ?_
                      refine lv_if_lt (tgt := 181) hx hb dX12_sign_174 (by decide) (fun c105 => ?_) (fun c105 => ?_)
                      · refine lv_iconst (v := 3) hx hb dX12_sign_181 (by decide) ?_
                        have hz106 : (3 : Int32) = 264 → j + 3 ≤ sz := (fun e8 => absurd e8 (by decide))
                        have hz107 : ¬ (3 : Int32) < 256 → j + 2 ≤ sz := (fun h8 => absurd (by decide) h8)
                        have hP : va_P G.1 pCl (mW G h0 a (upd F 4 (nI sz)) B) _ := hP
                        have hD : va_D A (mW G h0 a (upd F 4 (nI sz)) B) := mW_D hD
                        exact W.iret (v := 3) hx hb hr (fun t9 ht9 hW9 => ⟨⟨_, (3 : Int32), rfl, ⟨rfl, hz106, hz107⟩, by rw [ht9]; exact hP, hD⟩, hS.F ht9⟩) hS.2.2 dX12_sign_182
                      · refine lv_iload_n hx hb dX12_sign_177 rfl (lv_at hl 1 rfl) ?_
                        refine lv_goto (tgt := 182) hx hb dX12_sign_178 (by decide) ?_
                        have hlt9 : r4 < 256 := chlt htx hj h5
                        have hz108 : r4 = 264 → j + 3 ≤ sz := (fun e8 => absurd hlt9 (by rw [e8]; decide))
                        have hz109 : ¬ r4 < 256 → j + 2 ≤ sz := (fun h8 => absurd hlt9 h8)
                        have hP : va_P G.1 pCl (mW G h0 a (upd F 4 (nI sz)) B) _ := hP
                        have hD : va_D A (mW G h0 a (upd F 4 (nI sz)) B) := mW_D hD
                        exact W.iret (v := r4) hx hb hr (fun t9 ht9 hW9 => ⟨⟨_, r4, rfl, ⟨rfl, hz108, hz109⟩, by rw [ht9]; exact hP, hD⟩, hS.F ht9⟩) hS.2.2 dX12_sign_182
                    · refine lv_iload_n hx hb dX12_sign_151 rfl (lv_at hl 1 rfl) ?_
                      refine lv_bipush (v := 38) hx hb dX12_sign_152 (by decide) ?_
                      refine lv_icmp_ne (tgt := 163) hx hb dX12_sign_154 (by decide) (fun c110 => ?_) (fun c110 => ?_)
                      · refine lv_sipush (v := 261) hx hb dX12_sign_163 (by decide) ?_
                        have hz111 : (261 : Int32) = 264 → j + 3 ≤ sz := (fun e8 => absurd e8 (by decide))
                        have hz112 : ¬ (261 : Int32) < 256 → j + 2 ≤ sz := (fun _ => (by have h7 := chin h12 (by rw [← c84, c100]; decide); omega))
                        have hP : va_P G.1 pCl (mW G h0 a (upd F 4 (nI sz)) B) _ := hP
                        have hD : va_D A (mW G h0 a (upd F 4 (nI sz)) B) := mW_D hD
                        exact W.iret (v := 261) hx hb hr (fun t9 ht9 hW9 => ⟨⟨_, (261 : Int32), rfl, ⟨rfl, hz111, hz112⟩, by rw [ht9]; exact hP, hD⟩, hS.F ht9⟩) hS.2.2 dX12_sign_166
                      · refine lv_sipush (v := 260) hx hb dX12_sign_157 (by decide) ?_
                        refine lv_goto (tgt := 166) hx hb dX12_sign_160 (by decide) ?_
                        have hz113 : (260 : Int32) = 264 → j + 3 ≤ sz := (fun e8 => absurd e8 (by decide))
                        have hz114 : ¬ (260 : Int32) < 256 → j + 2 ≤ sz := (fun _ => (by have h7 := chin h12 (by rw [← c84, c100]; decide); omega))
                        have hP : va_P G.1 pCl (mW G h0 a (upd F 4 (nI sz)) B) _ := hP
                        have hD : va_D A (mW G h0 a (upd F 4 (nI sz)) B) := mW_D hD
                        exact W.iret (v := 260) hx hb hr (fun t9 ht9 hW9 => ⟨⟨_, (260 : Int32), rfl, ⟨rfl, hz113, hz114⟩, by rw [ht9]; exact hP, hD⟩, hS.F ht9⟩) hS.2.2 dX12_sign_166
              · refine lv_iload_n hx hb dX12_sign_94 rfl (lv_at hl 1 rfl) ?_
                refine lv_bipush (v := 60) hx hb dX12_sign_95 (by decide) ?_
                refine lv_icmp_ne (tgt := 106) hx hb dX12_sign_97 (by decide) (fun c115 => ?_) (fun c115 => ?_)
                · refine lv_iload_n hx hb dX12_sign_106 rfl (lv_at hl 1 rfl) ?_
                  refine lv_bipush (v := 62) hx hb dX12_sign_107 (by decide) ?_
                  refine lv_icmp_ne (tgt := 118) hx hb dX12_sign_109 (by decide) (fun c116 => ?_) (fun c116 => ?_)
                  · refine lv_iload_n hx hb dX12_sign_118 rfl (lv_at hl 1 rfl) ?_
                    refine lv_bipush (v := 61) hx hb dX12_sign_119 (by decide) ?_
                    refine lv_icmp_ne (tgt := 130) hx hb dX12_sign_121 (by decide) (fun c117 => ?_) (fun c117 => ?_)
                    · refine lv_sipush (v := 259) hx hb dX12_sign_130 (by decide) ?_
                      have hz118 : (259 : Int32) = 264 → j + 3 ≤ sz := (fun e8 => absurd e8 (by decide))
                      have hz119 : ¬ (259 : Int32) < 256 → j + 2 ≤ sz := (fun _ => (by have h7 := chin h12 (by rw [c15]; decide); omega))
                      have hP : va_P G.1 pCl (mW G h0 a (upd F 4 (nI sz)) B) _ := hP
                      have hD : va_D A (mW G h0 a (upd F 4 (nI sz)) B) := mW_D hD
                      exact W.iret (v := 259) hx hb hr (fun t9 ht9 hW9 => ⟨⟨_, (259 : Int32), rfl, ⟨rfl, hz118, hz119⟩, by rw [ht9]; exact hP, hD⟩, hS.F ht9⟩) hS.2.2 dX12_sign_133
                    · refine lv_sipush (v := 258) hx hb dX12_sign_124 (by decide) ?_
                      refine lv_goto (tgt := 133) hx hb dX12_sign_127 (by decide) ?_
                      have hz120 : (258 : Int32) = 264 → j + 3 ≤ sz := (fun e8 => absurd e8 (by decide))
                      have hz121 : ¬ (258 : Int32) < 256 → j + 2 ≤ sz := (fun _ => (by have h7 := chin h12 (by rw [c15]; decide); omega))
                      have hP : va_P G.1 pCl (mW G h0 a (upd F 4 (nI sz)) B) _ := hP
                      have hD : va_D A (mW G h0 a (upd F 4 (nI sz)) B) := mW_D hD
                      exact W.iret (v := 258) hx hb hr (fun t9 ht9 hW9 => ⟨⟨_, (258 : Int32), rfl, ⟨rfl, hz120, hz121⟩, by rw [ht9]; exact hP, hD⟩, hS.F ht9⟩) hS.2.2 dX12_sign_133
                  · refine lv_sipush (v := 257) hx hb dX12_sign_112 (by decide) ?_
                    refine lv_goto (tgt := 133) hx hb dX12_sign_115 (by decide) ?_
                    have hz122 : (257 : Int32) = 264 → j + 3 ≤ sz := (fun e8 => absurd e8 (by decide))
                    have hz123 : ¬ (257 : Int32) < 256 → j + 2 ≤ sz := (fun _ => (by have h7 := chin h12 (by rw [c15]; decide); omega))
                    have hP : va_P G.1 pCl (mW G h0 a (upd F 4 (nI sz)) B) _ := hP
                    have hD : va_D A (mW G h0 a (upd F 4 (nI sz)) B) := mW_D hD
                    exact W.iret (v := 257) hx hb hr (fun t9 ht9 hW9 => ⟨⟨_, (257 : Int32), rfl, ⟨rfl, hz122, hz123⟩, by rw [ht9]; exact hP, hD⟩, hS.F ht9⟩) hS.2.2 dX12_sign_133
                · refine lv_sipush (v := 256) hx hb dX12_sign_100 (by decide) ?_
                  refine lv_goto (tgt := 133) hx hb dX12_sign_103 (by decide) ?_
                  have hz124 : (256 : Int32) = 264 → j + 3 ≤ sz := (fun e8 => absurd e8 (by decide))
                  have hz125 : ¬ (256 : Int32) < 256 → j + 2 ≤ sz := (fun _ => (by have h7 := chin h12 (by rw [c15]; decide); omega))
                  have hP : va_P G.1 pCl (mW G h0 a (upd F 4 (nI sz)) B) _ := hP
                  have hD : va_D A (mW G h0 a (upd F 4 (nI sz)) B) := mW_D hD
                  exact W.iret (v := 256) hx hb hr (fun t9 ht9 hW9 => ⟨⟨_, (256 : Int32), rfl, ⟨rfl, hz124, hz125⟩, by rw [ht9]; exact hP, hD⟩, hS.F ht9⟩) hS.2.2 dX12_sign_133
    · refine lv_iload_n hx hb dX12_sign_54 rfl (lv_at hl 0 rfl) ?_
      refine lv_bipush (v := 60) hx hb dX12_sign_55 (by decide) ?_
      refine lv_icmp_ne (tgt := 64) hx hb dX12_sign_57 (by decide) (fun c126 => ?_) (fun c126 => ?_)
      · refine lv_iload_n hx hb dX12_sign_64 rfl (lv_at hl 0 rfl) ?_
        refine lv_bipush (v := 61) hx hb dX12_sign_65 (by decide) ?_
        refine lv_icmp_ne (tgt := 134) hx hb dX12_sign_67 (by decide) (fun c127 => ?_) (fun c127 => ?_)
        · refine lv_iload_n hx hb dX12_sign_134 rfl (lv_at hl 1 rfl) ?_
          refine lv_iload_n hx hb dX12_sign_135 rfl (lv_at hl 0 rfl) ?_
          refine lv_icmp_ne (tgt := 167) hx hb dX12_sign_136 (by decide) (fun c128 => ?_) (fun c128 => ?_)
          · refine pn_ldcSW (q := G.2.2.1 16) hx hb hown hE.al dX12_sign_167 ?_
            refine lv_iload_n hx hb dX12_sign_170 rfl (lv_at hl 1 rfl) ?_
            refine pc_VN (G := G) (As := [.int r4]) (rest := []) hx hb hml hown hq hE hX pX0_al hP hS hA hl.1 (c_indexOf1 l G 16 r4 (by decide)) (gV pw_1564 pw_1565 pw_1566 pw_1214 pw_1560) hV_J0_indexOf_0f7a4 (vk_recv hE.2.1 (by decide) hS) rfl (Nat.le_of_ble_eq_true rfl) dX12_sign_171 ⟨Nat.le_of_ble_eq_true rfl, Nat.le_of_ble_eq_true rfl⟩ ⟨Nat.le_of_ble_eq_true rfl, Nat.le_of_ble_eq_true rfl⟩ (fun v131 u129 H locs hw130 hP hS => ?_)
            obtain ⟨x132, rfl⟩ := hw130
            refine W.widen (k := 0) (n := 0) (Nat.le_of_ble_eq_true rfl) (Nat.le_of_ble_eq_true rfl) ?_
            refine W.eq (g2 := F0 m 174 ls [.int x132]) rfl ?_
            refine lv_if_lt (tgt := 181) hx hb dX12_sign_174 (by decide) (fun c133 => ?_) (fun c133 => ?_)
            · refine lv_iconst (v := 3) hx hb dX12_sign_181 (by decide) ?_
              have hz134 : (3 : Int32) = 264 → j + 3 ≤ sz := (fun e8 => absurd e8 (by decide))
              have hz135 : ¬ (3 : Int32) < 256 → j + 2 ≤ sz := (fun h8 => absurd (by decide) h8)
              have hP : va_P G.1 pCl (mW G h0 a (upd F 4 (nI sz)) B) _ := hP
              have hD : va_D A (mW G h0 a (upd F 4 (nI sz)) B) := mW_D hD
              exact W.iret (v := 3) hx hb hr (fun t9 ht9 hW9 => ⟨⟨_, (3 : Int32), rfl, ⟨rfl, hz134, hz135⟩, by rw [ht9]; exact hP, hD⟩, hS.F ht9⟩) hS.2.2 dX12_sign_182
            · refine lv_iload_n hx hb dX12_sign_177 rfl (lv_at hl 1 rfl) ?_
              refine lv_goto (tgt := 182) hx hb dX12_sign_178 (by decide) ?_
              have hlt9 : r4 < 256 := chlt htx hj h5
              have hz136 : r4 = 264 → j + 3 ≤ sz := (fun e8 => absurd hlt9 (by rw [e8]; decide))
              have hz137 : ¬ r4 < 256 → j + 2 ≤ sz := (fun h8 => absurd hlt9 h8)
              have hP : va_P G.1 pCl (mW G h0 a (upd F 4 (nI sz)) B) _ := hP
              have hD : va_D A (mW G h0 a (upd F 4 (nI sz)) B) := mW_D hD
              exact W.iret (v := r4) hx hb hr (fun t9 ht9 hW9 => ⟨⟨_, r4, rfl, ⟨rfl, hz136, hz137⟩, by rw [ht9]; exact hP, hD⟩, hS.F ht9⟩) hS.2.2 dX12_sign_182
          · refine lv_iload_n hx hb dX12_sign_139 rfl (lv_at hl 1 rfl) ?_
            refine lv_bipush (v := 38) hx hb dX12_sign_140 (by decide) ?_
            refine lv_icmp_eq (tgt := 151) hx hb dX12_sign_142 (by decide) (fun c138 => ?_) (fun c138 => ?_)
            · refine lv_iload_n hx hb dX12_sign_151 rfl (lv_at hl 1 rfl) ?_
              refine lv_bipush (v := 38) hx hb dX12_sign_152 (by decide) ?_
              refine lv_icmp_ne (tgt := 163) hx hb dX12_sign_154 (by decide) (fun c139 => ?_) (fun c139 => ?_)
              · refine lv_sipush (v := 261) hx hb dX12_sign_163 (by decide) ?_
                have hz140 : (261 : Int32) = 264 → j + 3 ≤ sz := (fun e8 => absurd e8 (by decide))
                have hz141 : ¬ (261 : Int32) < 256 → j + 2 ≤ sz := (fun _ => (by have h7 := chin h12 (by rw [← c128, c138]; decide); omega))
                have hP : va_P G.1 pCl (mW G h0 a (upd F 4 (nI sz)) B) _ := hP
                have hD : va_D A (mW G h0 a (upd F 4 (nI sz)) B) := mW_D hD
                exact W.iret (v := 261) hx hb hr (fun t9 ht9 hW9 => ⟨⟨_, (261 : Int32), rfl, ⟨rfl, hz140, hz141⟩, by rw [ht9]; exact hP, hD⟩, hS.F ht9⟩) hS.2.2 dX12_sign_166
              · refine lv_sipush (v := 260) hx hb dX12_sign_157 (by decide) ?_
                refine lv_goto (tgt := 166) hx hb dX12_sign_160 (by decide) ?_
                have hz142 : (260 : Int32) = 264 → j + 3 ≤ sz := (fun e8 => absurd e8 (by decide))
                have hz143 : ¬ (260 : Int32) < 256 → j + 2 ≤ sz := (fun _ => (by have h7 := chin h12 (by rw [← c128, c138]; decide); omega))
                have hP : va_P G.1 pCl (mW G h0 a (upd F 4 (nI sz)) B) _ := hP
                have hD : va_D A (mW G h0 a (upd F 4 (nI sz)) B) := mW_D hD
                exact W.iret (v := 260) hx hb hr (fun t9 ht9 hW9 => ⟨⟨_, (260 : Int32), rfl, ⟨rfl, hz142, hz143⟩, by rw [ht9]; exact hP, hD⟩, hS.F ht9⟩) hS.2.2 dX12_sign_166
            · refine lv_iload_n hx hb dX12_sign_145 rfl (lv_at hl 1 rfl) ?_
              refine lv_bipush (v := 124) hx hb dX12_sign_146 (by decide) ?_
              refine lv_icmp_ne (tgt := 167) hx hb dX12_sign_148 (by decide) (fun c144 => ?_) (fun c144 => ?_)
              · refine pn_ldcSW (q := G.2.2.1 16) hx hb hown hE.al dX12_sign_167 ?_
                refine lv_iload_n hx hb dX12_sign_170 rfl (lv_at hl 1 rfl) ?_
                refine pc_VN (G := G) (As := [.int r4]) (rest := []) hx hb hml hown hq hE hX pX0_al hP hS hA hl.1 (c_indexOf1 l G 16 r4 (by decide)) (gV pw_1564 pw_1565 pw_1566 pw_1214 pw_1560) hV_J0_indexOf_0f7a4 (vk_recv hE.2.1 (by decide) hS) rfl (Nat.le_of_ble_eq_true rfl) dX12_sign_171 ⟨Nat.le_of_ble_eq_true rfl, Nat.le_of_ble_eq_true rfl⟩ ⟨Nat.le_of_ble_eq_true rfl, Nat.le_of_ble_eq_true rfl⟩ (fun v147 u145 H locs hw146 hP hS => ?_)
                obtain ⟨x148, rfl⟩ := hw146
                refine W.widen (k := 0) (n := 0) (Nat.le_of_ble_eq_true rfl) (Nat.le_of_ble_eq_true rfl) ?_
                refine W.eq (g2 := F0 m 174 ls [.int x148]) rfl ?_
                refine lv_if_lt (tgt := 181) hx hb dX12_sign_174 (by decide) (fun c149 => ?_) (fun c149 => ?_)
                · refine lv_iconst (v := 3) hx hb dX12_sign_181 (by decide) ?_
                  have hz150 : (3 : Int32) = 264 → j + 3 ≤ sz := (fun e8 => absurd e8 (by decide))
                  have hz151 : ¬ (3 : Int32) < 256 → j + 2 ≤ sz := (fun h8 => absurd (by decide) h8)
                  have hP : va_P G.1 pCl (mW G h0 a (upd F 4 (nI sz)) B) _ := hP
                  have hD : va_D A (mW G h0 a (upd F 4 (nI sz)) B) := mW_D hD
                  exact W.iret (v := 3) hx hb hr (fun t9 ht9 hW9 => ⟨⟨_, (3 : Int32), rfl, ⟨rfl, hz150, hz151⟩, by rw [ht9]; exact hP, hD⟩, hS.F ht9⟩) hS.2.2 dX12_sign_182
                · refine lv_iload_n hx hb dX12_sign_177 rfl (lv_at hl 1 rfl) ?_
                  refine lv_goto (tgt := 182) hx hb dX12_sign_178 (by decide) ?_
                  have hlt9 : r4 < 256 := chlt htx hj h5
                  have hz152 : r4 = 264 → j + 3 ≤ sz := (fun e8 => absurd hlt9 (by rw [e8]; decide))
                  have hz153 : ¬ r4 < 256 → j + 2 ≤ sz := (fun h8 => absurd hlt9 h8)
                  have hP : va_P G.1 pCl (mW G h0 a (upd F 4 (nI sz)) B) _ := hP
                  have hD : va_D A (mW G h0 a (upd F 4 (nI sz)) B) := mW_D hD
                  exact W.iret (v := r4) hx hb hr (fun t9 ht9 hW9 => ⟨⟨_, r4, rfl, ⟨rfl, hz152, hz153⟩, by rw [ht9]; exact hP, hD⟩, hS.F ht9⟩) hS.2.2 dX12_sign_182
              · refine lv_iload_n hx hb dX12_sign_151 rfl (lv_at hl 1 rfl) ?_
                refine lv_bipush (v := 38) hx hb dX12_sign_152 (by decide) ?_
                refine lv_icmp_ne (tgt := 163) hx hb dX12_sign_154 (by decide) (fun c154 => ?_) (fun c154 => ?_)
                · refine lv_sipush (v := 261) hx hb dX12_sign_163 (by decide) ?_
                  have hz155 : (261 : Int32) = 264 → j + 3 ≤ sz := (fun e8 => absurd e8 (by decide))
                  have hz156 : ¬ (261 : Int32) < 256 → j + 2 ≤ sz := (fun _ => (by have h7 := chin h12 (by rw [← c128, c144]; decide); omega))
                  have hP : va_P G.1 pCl (mW G h0 a (upd F 4 (nI sz)) B) _ := hP
                  have hD : va_D A (mW G h0 a (upd F 4 (nI sz)) B) := mW_D hD
                  exact W.iret (v := 261) hx hb hr (fun t9 ht9 hW9 => ⟨⟨_, (261 : Int32), rfl, ⟨rfl, hz155, hz156⟩, by rw [ht9]; exact hP, hD⟩, hS.F ht9⟩) hS.2.2 dX12_sign_166
                · refine lv_sipush (v := 260) hx hb dX12_sign_157 (by decide) ?_
                  refine lv_goto (tgt := 166) hx hb dX12_sign_160 (by decide) ?_
                  have hz157 : (260 : Int32) = 264 → j + 3 ≤ sz := (fun e8 => absurd e8 (by decide))
                  have hz158 : ¬ (260 : Int32) < 256 → j + 2 ≤ sz := (fun _ => (by have h7 := chin h12 (by rw [← c128, c144]; decide); omega))
                  have hP : va_P G.1 pCl (mW G h0 a (upd F 4 (nI sz)) B) _ := hP
                  have hD : va_D A (mW G h0 a (upd F 4 (nI sz)) B) := mW_D hD
                  exact W.iret (v := 260) hx hb hr (fun t9 ht9 hW9 => ⟨⟨_, (260 : Int32), rfl, ⟨rfl, hz157, hz158⟩, by rw [ht9]; exact hP, hD⟩, hS.F ht9⟩) hS.2.2 dX12_sign_166
        · refine lv_iload_n hx hb dX12_sign_70 rfl (lv_at hl 1 rfl) ?_
          refine lv_bipush (v := 60) hx hb dX12_sign_71 (by decide) ?_
          refine lv_icmp_eq (tgt := 94) hx hb dX12_sign_73 (by decide) (fun c159 => ?_) (fun c159 => ?_)
          · refine lv_iload_n hx hb dX12_sign_94 rfl (lv_at hl 1 rfl) ?_
            refine lv_bipush (v := 60) hx hb dX12_sign_95 (by decide) ?_
            refine lv_icmp_ne (tgt := 106) hx hb dX12_sign_97 (by decide) (fun c160 => ?_) (fun c160 => ?_)
            · refine lv_iload_n hx hb dX12_sign_106 rfl (lv_at hl 1 rfl) ?_
              refine lv_bipush (v := 62) hx hb dX12_sign_107 (by decide) ?_
              refine lv_icmp_ne (tgt := 118) hx hb dX12_sign_109 (by decide) (fun c161 => ?_) (fun c161 => ?_)
              · refine lv_iload_n hx hb dX12_sign_118 rfl (lv_at hl 1 rfl) ?_
                refine lv_bipush (v := 61) hx hb dX12_sign_119 (by decide) ?_
                refine lv_icmp_ne (tgt := 130) hx hb dX12_sign_121 (by decide) (fun c162 => ?_) (fun c162 => ?_)
                · refine lv_sipush (v := 259) hx hb dX12_sign_130 (by decide) ?_
                  have hz163 : (259 : Int32) = 264 → j + 3 ≤ sz := (fun e8 => absurd e8 (by decide))
                  have hz164 : ¬ (259 : Int32) < 256 → j + 2 ≤ sz := (fun _ => (by have h7 := chin h12 (by rw [c127]; decide); omega))
                  have hP : va_P G.1 pCl (mW G h0 a (upd F 4 (nI sz)) B) _ := hP
                  have hD : va_D A (mW G h0 a (upd F 4 (nI sz)) B) := mW_D hD
                  exact W.iret (v := 259) hx hb hr (fun t9 ht9 hW9 => ⟨⟨_, (259 : Int32), rfl, ⟨rfl, hz163, hz164⟩, by rw [ht9]; exact hP, hD⟩, hS.F ht9⟩) hS.2.2 dX12_sign_133
                · refine lv_sipush (v := 258) hx hb dX12_sign_124 (by decide) ?_
                  refine lv_goto (tgt := 133) hx hb dX12_sign_127 (by decide) ?_
                  have hz165 : (258 : Int32) = 264 → j + 3 ≤ sz := (fun e8 => absurd e8 (by decide))
                  have hz166 : ¬ (258 : Int32) < 256 → j + 2 ≤ sz := (fun _ => (by have h7 := chin h12 (by rw [c127]; decide); omega))
                  have hP : va_P G.1 pCl (mW G h0 a (upd F 4 (nI sz)) B) _ := hP
                  have hD : va_D A (mW G h0 a (upd F 4 (nI sz)) B) := mW_D hD
                  exact W.iret (v := 258) hx hb hr (fun t9 ht9 hW9 => ⟨⟨_, (258 : Int32), rfl, ⟨rfl, hz165, hz166⟩, by rw [ht9]; exact hP, hD⟩, hS.F ht9⟩) hS.2.2 dX12_sign_133
              · refine lv_sipush (v := 257) hx hb dX12_sign_112 (by decide) ?_
                refine lv_goto (tgt := 133) hx hb dX12_sign_115 (by decide) ?_
                have hz167 : (257 : Int32) = 264 → j + 3 ≤ sz := (fun e8 => absurd e8 (by decide))
                have hz168 : ¬ (257 : Int32) < 256 → j + 2 ≤ sz := (fun _ => (by have h7 := chin h12 (by rw [c127]; decide); omega))
                have hP : va_P G.1 pCl (mW G h0 a (upd F 4 (nI sz)) B) _ := hP
                have hD : va_D A (mW G h0 a (upd F 4 (nI sz)) B) := mW_D hD
                exact W.iret (v := 257) hx hb hr (fun t9 ht9 hW9 => ⟨⟨_, (257 : Int32), rfl, ⟨rfl, hz167, hz168⟩, by rw [ht9]; exact hP, hD⟩, hS.F ht9⟩) hS.2.2 dX12_sign_133
            · refine lv_sipush (v := 256) hx hb dX12_sign_100 (by decide) ?_
              refine lv_goto (tgt := 133) hx hb dX12_sign_103 (by decide) ?_
              have hz169 : (256 : Int32) = 264 → j + 3 ≤ sz := (fun e8 => absurd e8 (by decide))
              have hz170 : ¬ (256 : Int32) < 256 → j + 2 ≤ sz := (fun _ => (by have h7 := chin h12 (by rw [c127]; decide); omega))
              have hP : va_P G.1 pCl (mW G h0 a (upd F 4 (nI sz)) B) _ := hP
              have hD : va_D A (mW G h0 a (upd F 4 (nI sz)) B) := mW_D hD
              exact W.iret (v := 256) hx hb hr (fun t9 ht9 hW9 => ⟨⟨_, (256 : Int32), rfl, ⟨rfl, hz169, hz170⟩, by rw [ht9]; exact hP, hD⟩, hS.F ht9⟩) hS.2.2 dX12_sign_133
          · refine lv_iload_n hx hb dX12_sign_76 rfl (lv_at hl 1 rfl) ?_
            refine lv_bipush (v := 62) hx hb dX12_sign_77 (by decide) ?_
            refine lv_icmp_eq (tgt := 94) hx hb dX12_sign_79 (by decide) (fun c171 => ?_) (fun c171 => ?_)
            · refine lv_iload_n hx hb dX12_sign_94 rfl (lv_at hl 1 rfl) ?_
              refine lv_bipush (v := 60) hx hb dX12_sign_95 (by decide) ?_
              refine lv_icmp_ne (tgt := 106) hx hb dX12_sign_97 (by decide) (fun c172 => ?_) (fun c172 => ?_)
              · refine lv_iload_n hx hb dX12_sign_106 rfl (lv_at hl 1 rfl) ?_
                refine lv_bipush (v := 62) hx hb dX12_sign_107 (by decide) ?_
                refine lv_icmp_ne (tgt := 118) hx hb dX12_sign_109 (by decide) (fun c173 => ?_) (fun c173 => ?_)
                · refine lv_iload_n hx hb dX12_sign_118 rfl (lv_at hl 1 rfl) ?_
                  refine lv_bipush (v := 61) hx hb dX12_sign_119 (by decide) ?_
                  refine lv_icmp_ne (tgt := 130) hx hb dX12_sign_121 (by decide) (fun c174 => ?_) (fun c174 => ?_)
                  · refine lv_sipush (v := 259) hx hb dX12_sign_130 (by decide) ?_
                    have hz175 : (259 : Int32) = 264 → j + 3 ≤ sz := (fun e8 => absurd e8 (by decide))
                    have hz176 : ¬ (259 : Int32) < 256 → j + 2 ≤ sz := (fun _ => (by have h7 := chin h12 (by rw [c127]; decide); omega))
                    have hP : va_P G.1 pCl (mW G h0 a (upd F 4 (nI sz)) B) _ := hP
                    have hD : va_D A (mW G h0 a (upd F 4 (nI sz)) B) := mW_D hD
                    exact W.iret (v := 259) hx hb hr (fun t9 ht9 hW9 => ⟨⟨_, (259 : Int32), rfl, ⟨rfl, hz175, hz176⟩, by rw [ht9]; exact hP, hD⟩, hS.F ht9⟩) hS.2.2 dX12_sign_133
                  · refine lv_sipush (v := 258) hx hb dX12_sign_124 (by decide) ?_
                    refine lv_goto (tgt := 133) hx hb dX12_sign_127 (by decide) ?_
                    have hz177 : (258 : Int32) = 264 → j + 3 ≤ sz := (fun e8 => absurd e8 (by decide))
                    have hz178 : ¬ (258 : Int32) < 256 → j + 2 ≤ sz := (fun _ => (by have h7 := chin h12 (by rw [c127]; decide); omega))
                    have hP : va_P G.1 pCl (mW G h0 a (upd F 4 (nI sz)) B) _ := hP
                    have hD : va_D A (mW G h0 a (upd F 4 (nI sz)) B) := mW_D hD
                    exact W.iret (v := 258) hx hb hr (fun t9 ht9 hW9 => ⟨⟨_, (258 : Int32), rfl, ⟨rfl, hz177, hz178⟩, by rw [ht9]; exact hP, hD⟩, hS.F ht9⟩) hS.2.2 dX12_sign_133
                · refine lv_sipush (v := 257) hx hb dX12_sign_112 (by decide) ?_
                  refine lv_goto (tgt := 133) hx hb dX12_sign_115 (by decide) ?_
                  have hz179 : (257 : Int32) = 264 → j + 3 ≤ sz := (fun e8 => absurd e8 (by decide))
                  have hz180 : ¬ (257 : Int32) < 256 → j + 2 ≤ sz := (fun _ => (by have h7 := chin h12 (by rw [c127]; decide); omega))
                  have hP : va_P G.1 pCl (mW G h0 a (upd F 4 (nI sz)) B) _ := hP
                  have hD : va_D A (mW G h0 a (upd F 4 (nI sz)) B) := mW_D hD
                  exact W.iret (v := 257) hx hb hr (fun t9 ht9 hW9 => ⟨⟨_, (257 : Int32), rfl, ⟨rfl, hz179, hz180⟩, by rw [ht9]; exact hP, hD⟩, hS.F ht9⟩) hS.2.2 dX12_sign_133
              · refine lv_sipush (v := 256) hx hb dX12_sign_100 (by decide) ?_
                refine lv_goto (tgt := 133) hx hb dX12_sign_103 (by decide) ?_
                have hz181 : (256 : Int32) = 264 → j + 3 ≤ sz := (fun e8 => absurd e8 (by decide))
                have hz182 : ¬ (256 : Int32) < 256 → j + 2 ≤ sz := (fun _ => (by have h7 := chin h12 (by rw [c127]; decide); omega))
                have hP : va_P G.1 pCl (mW G h0 a (upd F 4 (nI sz)) B) _ := hP
                have hD : va_D A (mW G h0 a (upd F 4 (nI sz)) B) := mW_D hD
                exact W.iret (v := 256) hx hb hr (fun t9 ht9 hW9 => ⟨⟨_, (256 : Int32), rfl, ⟨rfl, hz181, hz182⟩, by rw [ht9]; exact hP, hD⟩, hS.F ht9⟩) hS.2.2 dX12_sign_133
            · refine lv_iload_n hx hb dX12_sign_82 rfl (lv_at hl 1 rfl) ?_
              refine lv_bipush (v := 61) hx hb dX12_sign_83 (by decide) ?_
              refine lv_icmp_eq (tgt := 94) hx hb dX12_sign_85 (by decide) (fun c183 => ?_) (fun c183 => ?_)
              · refine lv_iload_n hx hb dX12_sign_94 rfl (lv_at hl 1 rfl) ?_
                refine lv_bipush (v := 60) hx hb dX12_sign_95 (by decide) ?_
                refine lv_icmp_ne (tgt := 106) hx hb dX12_sign_97 (by decide) (fun c184 => ?_) (fun c184 => ?_)
                · refine lv_iload_n hx hb dX12_sign_106 rfl (lv_at hl 1 rfl) ?_
                  refine lv_bipush (v := 62) hx hb dX12_sign_107 (by decide) ?_
                  refine lv_icmp_ne (tgt := 118) hx hb dX12_sign_109 (by decide) (fun c185 => ?_) (fun c185 => ?_)
                  · refine lv_iload_n hx hb dX12_sign_118 rfl (lv_at hl 1 rfl) ?_
                    refine lv_bipush (v := 61) hx hb dX12_sign_119 (by decide) ?_
                    refine lv_icmp_ne (tgt := 130) hx hb dX12_sign_121 (by decide) (fun c186 => ?_) (fun c186 => ?_)
                    · refine lv_sipush (v := 259) hx hb dX12_sign_130 (by decide) ?_
                      have hz187 : (259 : Int32) = 264 → j + 3 ≤ sz := (fun e8 => absurd e8 (by decide))
                      have hz188 : ¬ (259 : Int32) < 256 → j + 2 ≤ sz := (fun _ => (by have h7 := chin h12 (by rw [c127]; decide); omega))
                      have hP : va_P G.1 pCl (mW G h0 a (upd F 4 (nI sz)) B) _ := hP
                      have hD : va_D A (mW G h0 a (upd F 4 (nI sz)) B) := mW_D hD
                      exact W.iret (v := 259) hx hb hr (fun t9 ht9 hW9 => ⟨⟨_, (259 : Int32), rfl, ⟨rfl, hz187, hz188⟩, by rw [ht9]; exact hP, hD⟩, hS.F ht9⟩) hS.2.2 dX12_sign_133
                    · refine lv_sipush (v := 258) hx hb dX12_sign_124 (by decide) ?_
                      refine lv_goto (tgt := 133) hx hb dX12_sign_127 (by decide) ?_
                      have hz189 : (258 : Int32) = 264 → j + 3 ≤ sz := (fun e8 => absurd e8 (by decide))
                      have hz190 : ¬ (258 : Int32) < 256 → j + 2 ≤ sz := (fun _ => (by have h7 := chin h12 (by rw [c127]; decide); omega))
                      have hP : va_P G.1 pCl (mW G h0 a (upd F 4 (nI sz)) B) _ := hP
                      have hD : va_D A (mW G h0 a (upd F 4 (nI sz)) B) := mW_D hD
                      exact W.iret (v := 258) hx hb hr (fun t9 ht9 hW9 => ⟨⟨_, (258 : Int32), rfl, ⟨rfl, hz189, hz190⟩, by rw [ht9]; exact hP, hD⟩, hS.F ht9⟩) hS.2.2 dX12_sign_133
                  · refine lv_sipush (v := 257) hx hb dX12_sign_112 (by decide) ?_
                    refine lv_goto (tgt := 133) hx hb dX12_sign_115 (by decide) ?_
                    have hz191 : (257 : Int32) = 264 → j + 3 ≤ sz := (fun e8 => absurd e8 (by decide))
                    have hz192 : ¬ (257 : Int32) < 256 → j + 2 ≤ sz := (fun _ => (by have h7 := chin h12 (by rw [c127]; decide); omega))
                    have hP : va_P G.1 pCl (mW G h0 a (upd F 4 (nI sz)) B) _ := hP
                    have hD : va_D A (mW G h0 a (upd F 4 (nI sz)) B) := mW_D hD
                    exact W.iret (v := 257) hx hb hr (fun t9 ht9 hW9 => ⟨⟨_, (257 : Int32), rfl, ⟨rfl, hz191, hz192⟩, by rw [ht9]; exact hP, hD⟩, hS.F ht9⟩) hS.2.2 dX12_sign_133
                · refine lv_sipush (v := 256) hx hb dX12_sign_100 (by decide) ?_
                  refine lv_goto (tgt := 133) hx hb dX12_sign_103 (by decide) ?_
                  have hz193 : (256 : Int32) = 264 → j + 3 ≤ sz := (fun e8 => absurd e8 (by decide))
                  have hz194 : ¬ (256 : Int32) < 256 → j + 2 ≤ sz := (fun _ => (by have h7 := chin h12 (by rw [c127]; decide); omega))
                  have hP : va_P G.1 pCl (mW G h0 a (upd F 4 (nI sz)) B) _ := hP
                  have hD : va_D A (mW G h0 a (upd F 4 (nI sz)) B) := mW_D hD
                  exact W.iret (v := 256) hx hb hr (fun t9 ht9 hW9 => ⟨⟨_, (256 : Int32), rfl, ⟨rfl, hz193, hz194⟩, by rw [ht9]; exact hP, hD⟩, hS.F ht9⟩) hS.2.2 dX12_sign_133
              · refine lv_iload_n hx hb dX12_sign_88 rfl (lv_at hl 1 rfl) ?_
                refine lv_bipush (v := 33) hx hb dX12_sign_89 (by decide) ?_
                refine lv_icmp_ne (tgt := 134) hx hb dX12_sign_91 (by decide) (fun c195 => ?_) (fun c195 => ?_)
                · refine lv_iload_n hx hb dX12_sign_134 rfl (lv_at hl 1 rfl) ?_
                  refine lv_iload_n hx hb dX12_sign_135 rfl (lv_at hl 0 rfl) ?_
                  refine lv_icmp_ne (tgt := 167) hx hb dX12_sign_136 (by decide) (fun c196 => ?_) (fun c196 => ?_)
                  · refine pn_ldcSW (q := G.2.2.1 16) hx hb hown hE.al dX12_sign_167 ?_
                    refine lv_iload_n hx hb dX12_sign_170 rfl (lv_at hl 1 rfl) ?_
                    refine pc_VN (G := G) (As := [.int r4]) (rest := []) hx hb hml hown hq hE hX pX0_al hP hS hA hl.1 (c_indexOf1 l G 16 r4 (by decide)) (gV pw_1564 pw_1565 pw_1566 pw_1214 pw_1560) hV_J0_indexOf_0f7a4 (vk_recv hE.2.1 (by decide) hS) rfl (Nat.le_of_ble_eq_true rfl) dX12_sign_171 ⟨Nat.le_of_ble_eq_true rfl, Nat.le_of_ble_eq_true rfl⟩ ⟨Nat.le_of_ble_eq_true rfl, Nat.le_of_ble_eq_true rfl⟩ (fun v199 u197 H locs hw198 hP hS => ?_)
                    obtain ⟨x200, rfl⟩ := hw198
                    refine W.widen (k := 0) (n := 0) (Nat.le_of_ble_eq_true rfl) (Nat.le_of_ble_eq_true rfl) ?_
                    refine W.eq (g2 := F0 m 174 ls [.int x200]) rfl ?_
                    refine lv_if_lt (tgt := 181) hx hb dX12_sign_174 (by decide) (fun c201 => ?_) (fun c201 => ?_)
                    · refine lv_iconst (v := 3) hx hb dX12_sign_181 (by decide) ?_
                      have hz202 : (3 : Int32) = 264 → j + 3 ≤ sz := (fun e8 => absurd e8 (by decide))
                      have hz203 : ¬ (3 : Int32) < 256 → j + 2 ≤ sz := (fun h8 => absurd (by decide) h8)
                      have hP : va_P G.1 pCl (mW G h0 a (upd F 4 (nI sz)) B) _ := hP
                      have hD : va_D A (mW G h0 a (upd F 4 (nI sz)) B) := mW_D hD
                      exact W.iret (v := 3) hx hb hr (fun t9 ht9 hW9 => ⟨⟨_, (3 : Int32), rfl, ⟨rfl, hz202, hz203⟩, by rw [ht9]; exact hP, hD⟩, hS.F ht9⟩) hS.2.2 dX12_sign_182
                    · refine lv_iload_n hx hb dX12_sign_177 rfl (lv_at hl 1 rfl) ?_
                      refine lv_goto (tgt := 182) hx hb dX12_sign_178 (by decide) ?_
                      have hlt9 : r4 < 256 := chlt htx hj h5
                      have hz204 : r4 = 264 → j + 3 ≤ sz := (fun e8 => absurd hlt9 (by rw [e8]; decide))
                      have hz205 : ¬ r4 < 256 → j + 2 ≤ sz := (fun h8 => absurd hlt9 h8)
                      have hP : va_P G.1 pCl (mW G h0 a (upd F 4 (nI sz)) B) _ := hP
                      have hD : va_D A (mW G h0 a (upd F 4 (nI sz)) B) := mW_D hD
                      exact W.iret (v := r4) hx hb hr (fun t9 ht9 hW9 => ⟨⟨_, r4, rfl, ⟨rfl, hz204, hz205⟩, by rw [ht9]; exact hP, hD⟩, hS.F ht9⟩) hS.2.2 dX12_sign_182
                  · refine lv_iload_n hx hb dX12_sign_139 rfl (lv_at hl 1 rfl) ?_
                    refine lv_bipush (v := 38) hx hb dX12_sign_140 (by decide) ?_
                    refine lv_icmp_eq (tgt := 151) hx hb dX12_sign_142 (by decide) (fun c206 => ?_) (fun c206 => ?_)
                    · refine lv_iload_n hx hb dX12_sign_151 rfl (lv_at hl 1 rfl) ?_
                      refine lv_bipush (v := 38) hx hb dX12_sign_152 (by decide) ?_
                      refine lv_icmp_ne (tgt := 163) hx hb dX12_sign_154 (by decide) (fun c207 => ?_) (fun c207 => ?_)
                      · refine lv_sipush (v := 261) hx hb dX12_sign_163 (by decide) ?_
                        have hz208 : (261 : Int32) = 264 → j + 3 ≤ sz := (fun e8 => absurd e8 (by decide))
                        have hz209 : ¬ (261 : Int32) < 256 → j + 2 ≤ sz := (fun _ => (by have h7 := chin h12 (by rw [← c196, c206]; decide); omega))
                        have hP : va_P G.1 pCl (mW G h0 a (upd F 4 (nI sz)) B) _ := hP
                        have hD : va_D A (mW G h0 a (upd F 4 (nI sz)) B) := mW_D hD
                        exact W.iret (v := 261) hx hb hr (fun t9 ht9 hW9 => ⟨⟨_, (261 : Int32), rfl, ⟨rfl, hz208, hz209⟩, by rw [ht9]; exact hP, hD⟩, hS.F ht9⟩) hS.2.2 dX12_sign_166
                      · refine lv_sipush (v := 260) hx hb dX12_sign_157 (by decide) ?_
                        refine lv_goto (tgt := 166) hx hb dX12_sign_160 (by decide) ?_
                        have hz210 : (260 : Int32) = 264 → j + 3 ≤ sz := (fun e8 => absurd e8 (by decide))
                        have hz211 : ¬ (260 : Int32) < 256 → j + 2 ≤ sz := (fun _ => (by have h7 := chin h12 (by rw [← c196, c206]; decide); omega))
                        have hP : va_P G.1 pCl (mW G h0 a (upd F 4 (nI sz)) B) _ := hP
                        have hD : va_D A (mW G h0 a (upd F 4 (nI sz)) B) := mW_D hD
                        exact W.iret (v := 260) hx hb hr (fun t9 ht9 hW9 => ⟨⟨_, (260 : Int32), rfl, ⟨rfl, hz210, hz211⟩, by rw [ht9]; exact hP, hD⟩, hS.F ht9⟩) hS.2.2 dX12_sign_166
                    · refine lv_iload_n hx hb dX12_sign_145 rfl (lv_at hl 1 rfl) ?_
                      refine lv_bipush (v := 124) hx hb dX12_sign_146 (by decide) ?_
                      refine lv_icmp_ne (tgt := 167) hx hb dX12_sign_148 (by decide) (fun c212 => ?_) (fun c212 => ?_)
                      · refine pn_ldcSW (q := G.2.2.1 16) hx hb hown hE.al dX12_sign_167 ?_
                        refine lv_iload_n hx hb dX12_sign_170 rfl (lv_at hl 1 rfl) ?_
                        refine pc_VN (G := G) (As := [.int r4]) (rest := []) hx hb hml hown hq hE hX pX0_al hP hS hA hl.1 (c_indexOf1 l G 16 r4 (by decide)) (gV pw_1564 pw_1565 pw_1566 pw_1214 pw_1560) hV_J0_indexOf_0f7a4 (vk_recv hE.2.1 (by decide) hS) rfl (Nat.le_of_ble_eq_true rfl) dX12_sign_171 ⟨Nat.le_of_ble_eq_true rfl, Nat.le_of_ble_eq_true rfl⟩ ⟨Nat.le_of_ble_eq_true rfl, Nat.le_of_ble_eq_true rfl⟩ (fun v215 u213 H locs hw214 hP hS => ?_)
                        obtain ⟨x216, rfl⟩ := hw214
                        refine W.widen (k := 0) (n := 0) (Nat.le_of_ble_eq_true rfl) (Nat.le_of_ble_eq_true rfl) ?_
                        refine W.eq (g2 := F0 m 174 ls [.int x216]) rfl ?_
                        refine lv_if_lt (tgt := 181) hx hb dX12_sign_174 (by decide) (fun c217 => ?_) (fun c217 => ?_)
                        · refine lv_iconst (v := 3) hx hb dX12_sign_181 (by decide) ?_
                          have hz218 : (3 : Int32) = 264 → j + 3 ≤ sz := (fun e8 => absurd e8 (by decide))
                          have hz219 : ¬ (3 : Int32) < 256 → j + 2 ≤ sz := (fun h8 => absurd (by decide) h8)
                          have hP : va_P G.1 pCl (mW G h0 a (upd F 4 (nI sz)) B) _ := hP
                          have hD : va_D A (mW G h0 a (upd F 4 (nI sz)) B) := mW_D hD
                          exact W.iret (v := 3) hx hb hr (fun t9 ht9 hW9 => ⟨⟨_, (3 : Int32), rfl, ⟨rfl, hz218, hz219⟩, by rw [ht9]; exact hP, hD⟩, hS.F ht9⟩) hS.2.2 dX12_sign_182
                        · refine lv_iload_n hx hb dX12_sign_177 rfl (lv_at hl 1 rfl) ?_
                          refine lv_goto (tgt := 182) hx hb dX12_sign_178 (by decide) ?_
                          have hlt9 : r4 < 256 := chlt htx hj h5
                          have hz220 : r4 = 264 → j + 3 ≤ sz := (fun e8 => absurd hlt9 (by rw [e8]; decide))
                          have hz221 : ¬ r4 < 256 → j + 2 ≤ sz := (fun h8 => absurd hlt9 h8)
                          have hP : va_P G.1 pCl (mW G h0 a (upd F 4 (nI sz)) B) _ := hP
                          have hD : va_D A (mW G h0 a (upd F 4 (nI sz)) B) := mW_D hD
                          exact W.iret (v := r4) hx hb hr (fun t9 ht9 hW9 => ⟨⟨_, r4, rfl, ⟨rfl, hz220, hz221⟩, by rw [ht9]; exact hP, hD⟩, hS.F ht9⟩) hS.2.2 dX12_sign_182
                      · refine lv_iload_n hx hb dX12_sign_151 rfl (lv_at hl 1 rfl) ?_
                        refine lv_bipush (v := 38) hx hb dX12_sign_152 (by decide) ?_
                        refine lv_icmp_ne (tgt := 163) hx hb dX12_sign_154 (by decide) (fun c222 => ?_) (fun c222 => ?_)
                        · refine lv_sipush (v := 261) hx hb dX12_sign_163 (by decide) ?_
                          have hz223 : (261 : Int32) = 264 → j + 3 ≤ sz := (fun e8 => absurd e8 (by decide))
                          have hz224 : ¬ (261 : Int32) < 256 → j + 2 ≤ sz := (fun _ => (by have h7 := chin h12 (by rw [← c196, c212]; decide); omega))
                          have hP : va_P G.1 pCl (mW G h0 a (upd F 4 (nI sz)) B) _ := hP
                          have hD : va_D A (mW G h0 a (upd F 4 (nI sz)) B) := mW_D hD
                          exact W.iret (v := 261) hx hb hr (fun t9 ht9 hW9 => ⟨⟨_, (261 : Int32), rfl, ⟨rfl, hz223, hz224⟩, by rw [ht9]; exact hP, hD⟩, hS.F ht9⟩) hS.2.2 dX12_sign_166
                        · refine lv_sipush (v := 260) hx hb dX12_sign_157 (by decide) ?_
                          refine lv_goto (tgt := 166) hx hb dX12_sign_160 (by decide) ?_
                          have hz225 : (260 : Int32) = 264 → j + 3 ≤ sz := (fun e8 => absurd e8 (by decide))
                          have hz226 : ¬ (260 : Int32) < 256 → j + 2 ≤ sz := (fun _ => (by have h7 := chin h12 (by rw [← c196, c212]; decide); omega))
                          have hP : va_P G.1 pCl (mW G h0 a (upd F 4 (nI sz)) B) _ := hP
                          have hD : va_D A (mW G h0 a (upd F 4 (nI sz)) B) := mW_D hD
                          exact W.iret (v := 260) hx hb hr (fun t9 ht9 hW9 => ⟨⟨_, (260 : Int32), rfl, ⟨rfl, hz225, hz226⟩, by rw [ht9]; exact hP, hD⟩, hS.F ht9⟩) hS.2.2 dX12_sign_166
                · refine lv_iload_n hx hb dX12_sign_94 rfl (lv_at hl 1 rfl) ?_
                  refine lv_bipush (v := 60) hx hb dX12_sign_95 (by decide) ?_
                  refine lv_icmp_ne (tgt := 106) hx hb dX12_sign_97 (by decide) (fun c227 => ?_) (fun c227 => ?_)
                  · refine lv_iload_n hx hb dX12_sign_106 rfl (lv_at hl 1 rfl) ?_
                    refine lv_bipush (v := 62) hx hb dX12_sign_107 (by decide) ?_
                    refine lv_icmp_ne (tgt := 118) hx hb dX12_sign_109 (by decide) (fun c228 => ?_) (fun c228 => ?_)
                    · refine lv_iload_n hx hb dX12_sign_118 rfl (lv_at hl 1 rfl) ?_
                      refine lv_bipush (v := 61) hx hb dX12_sign_119 (by decide) ?_
                      refine lv_icmp_ne (tgt := 130) hx hb dX12_sign_121 (by decide) (fun c229 => ?_) (fun c229 => ?_)
                      · refine lv_sipush (v := 259) hx hb dX12_sign_130 (by decide) ?_
                        have hz230 : (259 : Int32) = 264 → j + 3 ≤ sz := (fun e8 => absurd e8 (by decide))
                        have hz231 : ¬ (259 : Int32) < 256 → j + 2 ≤ sz := (fun _ => (by have h7 := chin h12 (by rw [c127]; decide); omega))
                        have hP : va_P G.1 pCl (mW G h0 a (upd F 4 (nI sz)) B) _ := hP
                        have hD : va_D A (mW G h0 a (upd F 4 (nI sz)) B) := mW_D hD
                        exact W.iret (v := 259) hx hb hr (fun t9 ht9 hW9 => ⟨⟨_, (259 : Int32), rfl, ⟨rfl, hz230, hz231⟩, by rw [ht9]; exact hP, hD⟩, hS.F ht9⟩) hS.2.2 dX12_sign_133
                      · refine lv_sipush (v := 258) hx hb dX12_sign_124 (by decide) ?_
                        refine lv_goto (tgt := 133) hx hb dX12_sign_127 (by decide) ?_
                        have hz232 : (258 : Int32) = 264 → j + 3 ≤ sz := (fun e8 => absurd e8 (by decide))
                        have hz233 : ¬ (258 : Int32) < 256 → j + 2 ≤ sz := (fun _ => (by have h7 := chin h12 (by rw [c127]; decide); omega))
                        have hP : va_P G.1 pCl (mW G h0 a (upd F 4 (nI sz)) B) _ := hP
                        have hD : va_D A (mW G h0 a (upd F 4 (nI sz)) B) := mW_D hD
                        exact W.iret (v := 258) hx hb hr (fun t9 ht9 hW9 => ⟨⟨_, (258 : Int32), rfl, ⟨rfl, hz232, hz233⟩, by rw [ht9]; exact hP, hD⟩, hS.F ht9⟩) hS.2.2 dX12_sign_133
                    · refine lv_sipush (v := 257) hx hb dX12_sign_112 (by decide) ?_
                      refine lv_goto (tgt := 133) hx hb dX12_sign_115 (by decide) ?_
                      have hz234 : (257 : Int32) = 264 → j + 3 ≤ sz := (fun e8 => absurd e8 (by decide))
                      have hz235 : ¬ (257 : Int32) < 256 → j + 2 ≤ sz := (fun _ => (by have h7 := chin h12 (by rw [c127]; decide); omega))
                      have hP : va_P G.1 pCl (mW G h0 a (upd F 4 (nI sz)) B) _ := hP
                      have hD : va_D A (mW G h0 a (upd F 4 (nI sz)) B) := mW_D hD
                      exact W.iret (v := 257) hx hb hr (fun t9 ht9 hW9 => ⟨⟨_, (257 : Int32), rfl, ⟨rfl, hz234, hz235⟩, by rw [ht9]; exact hP, hD⟩, hS.F ht9⟩) hS.2.2 dX12_sign_133
                  · refine lv_sipush (v := 256) hx hb dX12_sign_100 (by decide) ?_
                    refine lv_goto (tgt := 133) hx hb dX12_sign_103 (by decide) ?_
                    have hz236 : (256 : Int32) = 264 → j + 3 ≤ sz := (fun e8 => absurd e8 (by decide))
                    have hz237 : ¬ (256 : Int32) < 256 → j + 2 ≤ sz := (fun _ => (by have h7 := chin h12 (by rw [c127]; decide); omega))
                    have hP : va_P G.1 pCl (mW G h0 a (upd F 4 (nI sz)) B) _ := hP
                    have hD : va_D A (mW G h0 a (upd F 4 (nI sz)) B) := mW_D hD
                    exact W.iret (v := 256) hx hb hr (fun t9 ht9 hW9 => ⟨⟨_, (256 : Int32), rfl, ⟨rfl, hz236, hz237⟩, by rw [ht9]; exact hP, hD⟩, hS.F ht9⟩) hS.2.2 dX12_sign_133
      · refine lv_sipush (v := 262) hx hb dX12_sign_60 (by decide) ?_
        have hz238 : (262 : Int32) = 264 → j + 3 ≤ sz := (fun e8 => absurd e8 (by decide))
        have hz239 : ¬ (262 : Int32) < 256 → j + 2 ≤ sz := (fun _ => (by have h7 := chin h12 (by rw [c126]; decide); omega))
        have hP : va_P G.1 pCl (mW G h0 a (upd F 4 (nI sz)) B) _ := hP
        have hD : va_D A (mW G h0 a (upd F 4 (nI sz)) B) := mW_D hD
        exact W.iret (v := 262) hx hb hr (fun t9 ht9 hW9 => ⟨⟨_, (262 : Int32), rfl, ⟨rfl, hz238, hz239⟩, by rw [ht9]; exact hP, hD⟩, hS.F ht9⟩) hS.2.2 dX12_sign_63
  · refine lv_iload_n hx hb dX12_sign_20 rfl (lv_at hl 0 rfl) ?_
    refine lv_bipush (v := 62) hx hb dX12_sign_21 (by decide) ?_
    refine lv_icmp_ne (tgt := 48) hx hb dX12_sign_23 (by decide) (fun c240 => ?_) (fun c240 => ?_)
    · refine lv_iload_n hx hb dX12_sign_48 rfl (lv_at hl 1 rfl) ?_
      refine lv_bipush (v := 60) hx hb dX12_sign_49 (by decide) ?_
      refine lv_icmp_ne (tgt := 64) hx hb dX12_sign_51 (by decide) (fun c241 => ?_) (fun c241 => ?_)
      · refine lv_iload_n hx hb dX12_sign_64 rfl (lv_at hl 0 rfl) ?_
        refine lv_bipush (v := 61) hx hb dX12_sign_65 (by decide) ?_
        refine lv_icmp_ne (tgt := 134) hx hb dX12_sign_67 (by decide) (fun c242 => ?_) (fun c242 => ?_)
        · refine lv_iload_n hx hb dX12_sign_134 rfl (lv_at hl 1 rfl) ?_
          refine lv_iload_n hx hb dX12_sign_135 rfl (lv_at hl 0 rfl) ?_
          refine lv_icmp_ne (tgt := 167) hx hb dX12_sign_136 (by decide) (fun c243 => ?_) (fun c243 => ?_)
          · refine pn_ldcSW (q := G.2.2.1 16) hx hb hown hE.al dX12_sign_167 ?_
            refine lv_iload_n hx hb dX12_sign_170 rfl (lv_at hl 1 rfl) ?_
            refine pc_VN (G := G) (As := [.int r4]) (rest := []) hx hb hml hown hq hE hX pX0_al hP hS hA hl.1 (c_indexOf1 l G 16 r4 (by decide)) (gV pw_1564 pw_1565 pw_1566 pw_1214 pw_1560) hV_J0_indexOf_0f7a4 (vk_recv hE.2.1 (by decide) hS) rfl (Nat.le_of_ble_eq_true rfl) dX12_sign_171 ⟨Nat.le_of_ble_eq_true rfl, Nat.le_of_ble_eq_true rfl⟩ ⟨Nat.le_of_ble_eq_true rfl, Nat.le_of_ble_eq_true rfl⟩ (fun v246 u244 H locs hw245 hP hS => ?_)
            obtain ⟨x247, rfl⟩ := hw245
            refine W.widen (k := 0) (n := 0) (Nat.le_of_ble_eq_true rfl) (Nat.le_of_ble_eq_true rfl) ?_
            refine W.eq (g2 := F0 m 174 ls [.int x247]) rfl ?_
            refine lv_if_lt (tgt := 181) hx hb dX12_sign_174 (by decide) (fun c248 => ?_) (fun c248 => ?_)
            · refine lv_iconst (v := 3) hx hb dX12_sign_181 (by decide) ?_
              have hz249 : (3 : Int32) = 264 → j + 3 ≤ sz := (fun e8 => absurd e8 (by decide))
              have hz250 : ¬ (3 : Int32) < 256 → j + 2 ≤ sz := (fun h8 => absurd (by decide) h8)
              have hP : va_P G.1 pCl (mW G h0 a (upd F 4 (nI sz)) B) _ := hP
              have hD : va_D A (mW G h0 a (upd F 4 (nI sz)) B) := mW_D hD
              exact W.iret (v := 3) hx hb hr (fun t9 ht9 hW9 => ⟨⟨_, (3 : Int32), rfl, ⟨rfl, hz249, hz250⟩, by rw [ht9]; exact hP, hD⟩, hS.F ht9⟩) hS.2.2 dX12_sign_182
            · refine lv_iload_n hx hb dX12_sign_177 rfl (lv_at hl 1 rfl) ?_
              refine lv_goto (tgt := 182) hx hb dX12_sign_178 (by decide) ?_
              have hlt9 : r4 < 256 := chlt htx hj h5
              have hz251 : r4 = 264 → j + 3 ≤ sz := (fun e8 => absurd hlt9 (by rw [e8]; decide))
              have hz252 : ¬ r4 < 256 → j + 2 ≤ sz := (fun h8 => absurd hlt9 h8)
              have hP : va_P G.1 pCl (mW G h0 a (upd F 4 (nI sz)) B) _ := hP
              have hD : va_D A (mW G h0 a (upd F 4 (nI sz)) B) := mW_D hD
              exact W.iret (v := r4) hx hb hr (fun t9 ht9 hW9 => ⟨⟨_, r4, rfl, ⟨rfl, hz251, hz252⟩, by rw [ht9]; exact hP, hD⟩, hS.F ht9⟩) hS.2.2 dX12_sign_182
          · refine lv_iload_n hx hb dX12_sign_139 rfl (lv_at hl 1 rfl) ?_
            refine lv_bipush (v := 38) hx hb dX12_sign_140 (by decide) ?_
            refine lv_icmp_eq (tgt := 151) hx hb dX12_sign_142 (by decide) (fun c253 => ?_) (fun c253 => ?_)
            · refine lv_iload_n hx hb dX12_sign_151 rfl (lv_at hl 1 rfl) ?_
              refine lv_bipush (v := 38) hx hb dX12_sign_152 (by decide) ?_
              refine lv_icmp_ne (tgt := 163) hx hb dX12_sign_154 (by decide) (fun c254 => ?_) (fun c254 => ?_)
              · refine lv_sipush (v := 261) hx hb dX12_sign_163 (by decide) ?_
                have hz255 : (261 : Int32) = 264 → j + 3 ≤ sz := (fun e8 => absurd e8 (by decide))
                have hz256 : ¬ (261 : Int32) < 256 → j + 2 ≤ sz := (fun _ => (by have h7 := chin h12 (by rw [← c243, c253]; decide); omega))
                have hP : va_P G.1 pCl (mW G h0 a (upd F 4 (nI sz)) B) _ := hP
                have hD : va_D A (mW G h0 a (upd F 4 (nI sz)) B) := mW_D hD
                exact W.iret (v := 261) hx hb hr (fun t9 ht9 hW9 => ⟨⟨_, (261 : Int32), rfl, ⟨rfl, hz255, hz256⟩, by rw [ht9]; exact hP, hD⟩, hS.F ht9⟩) hS.2.2 dX12_sign_166
              · refine lv_sipush (v := 260) hx hb dX12_sign_157 (by decide) ?_
                refine lv_goto (tgt := 166) hx hb dX12_sign_160 (by decide) ?_
                have hz257 : (260 : Int32) = 264 → j + 3 ≤ sz := (fun e8 => absurd e8 (by decide))
                have hz258 : ¬ (260 : Int32) < 256 → j + 2 ≤ sz := (fun _ => (by have h7 := chin h12 (by rw [← c243, c253]; decide); omega))
                have hP : va_P G.1 pCl (mW G h0 a (upd F 4 (nI sz)) B) _ := hP
                have hD : va_D A (mW G h0 a (upd F 4 (nI sz)) B) := mW_D hD
                exact W.iret (v := 260) hx hb hr (fun t9 ht9 hW9 => ⟨⟨_, (260 : Int32), rfl, ⟨rfl, hz257, hz258⟩, by rw [ht9]; exact hP, hD⟩, hS.F ht9⟩) hS.2.2 dX12_sign_166
            · refine lv_iload_n hx hb dX12_sign_145 rfl (lv_at hl 1 rfl) ?_
              refine lv_bipush (v := 124) hx hb dX12_sign_146 (by decide) ?_
              refine lv_icmp_ne (tgt := 167) hx hb dX12_sign_148 (by decide) (fun c259 => ?_) (fun c259 => ?_)
              · refine pn_ldcSW (q := G.2.2.1 16) hx hb hown hE.al dX12_sign_167 ?_
                refine lv_iload_n hx hb dX12_sign_170 rfl (lv_at hl 1 rfl) ?_
                refine pc_VN (G := G) (As := [.int r4]) (rest := []) hx hb hml hown hq hE hX pX0_al hP hS hA hl.1 (c_indexOf1 l G 16 r4 (by decide)) (gV pw_1564 pw_1565 pw_1566 pw_1214 pw_1560) hV_J0_indexOf_0f7a4 (vk_recv hE.2.1 (by decide) hS) rfl (Nat.le_of_ble_eq_true rfl) dX12_sign_171 ⟨Nat.le_of_ble_eq_true rfl, Nat.le_of_ble_eq_true rfl⟩ ⟨Nat.le_of_ble_eq_true rfl, Nat.le_of_ble_eq_true rfl⟩ (fun v262 u260 H locs hw261 hP hS => ?_)
                obtain ⟨x263, rfl⟩ := hw261
                refine W.widen (k := 0) (n := 0) (Nat.le_of_ble_eq_true rfl) (Nat.le_of_ble_eq_true rfl) ?_
                refine W.eq (g2 := F0 m 174 ls [.int x263]) rfl ?_
                refine lv_if_lt (tgt := 181) hx hb dX12_sign_174 (by decide) (fun c264 => ?_) (fun c264 => ?_)
                · refine lv_iconst (v := 3) hx hb dX12_sign_181 (by decide) ?_
                  have hz265 : (3 : Int32) = 264 → j + 3 ≤ sz := (fun e8 => absurd e8 (by decide))
                  have hz266 : ¬ (3 : Int32) < 256 → j + 2 ≤ sz := (fun h8 => absurd (by decide) h8)
                  have hP : va_P G.1 pCl (mW G h0 a (upd F 4 (nI sz)) B) _ := hP
                  have hD : va_D A (mW G h0 a (upd F 4 (nI sz)) B) := mW_D hD
                  exact W.iret (v := 3) hx hb hr (fun t9 ht9 hW9 => ⟨⟨_, (3 : Int32), rfl, ⟨rfl, hz265, hz266⟩, by rw [ht9]; exact hP, hD⟩, hS.F ht9⟩) hS.2.2 dX12_sign_182
                · refine lv_iload_n hx hb dX12_sign_177 rfl (lv_at hl 1 rfl) ?_
                  refine lv_goto (tgt := 182) hx hb dX12_sign_178 (by decide) ?_
                  have hlt9 : r4 < 256 := chlt htx hj h5
                  have hz267 : r4 = 264 → j + 3 ≤ sz := (fun e8 => absurd hlt9 (by rw [e8]; decide))
                  have hz268 : ¬ r4 < 256 → j + 2 ≤ sz := (fun h8 => absurd hlt9 h8)
                  have hP : va_P G.1 pCl (mW G h0 a (upd F 4 (nI sz)) B) _ := hP
                  have hD : va_D A (mW G h0 a (upd F 4 (nI sz)) B) := mW_D hD
                  exact W.iret (v := r4) hx hb hr (fun t9 ht9 hW9 => ⟨⟨_, r4, rfl, ⟨rfl, hz267, hz268⟩, by rw [ht9]; exact hP, hD⟩, hS.F ht9⟩) hS.2.2 dX12_sign_182
              · refine lv_iload_n hx hb dX12_sign_151 rfl (lv_at hl 1 rfl) ?_
                refine lv_bipush (v := 38) hx hb dX12_sign_152 (by decide) ?_
                refine lv_icmp_ne (tgt := 163) hx hb dX12_sign_154 (by decide) (fun c269 => ?_) (fun c269 => ?_)
                · refine lv_sipush (v := 261) hx hb dX12_sign_163 (by decide) ?_
                  have hz270 : (261 : Int32) = 264 → j + 3 ≤ sz := (fun e8 => absurd e8 (by decide))
                  have hz271 : ¬ (261 : Int32) < 256 → j + 2 ≤ sz := (fun _ => (by have h7 := chin h12 (by rw [← c243, c259]; decide); omega))
                  have hP : va_P G.1 pCl (mW G h0 a (upd F 4 (nI sz)) B) _ := hP
                  have hD : va_D A (mW G h0 a (upd F 4 (nI sz)) B) := mW_D hD
                  exact W.iret (v := 261) hx hb hr (fun t9 ht9 hW9 => ⟨⟨_, (261 : Int32), rfl, ⟨rfl, hz270, hz271⟩, by rw [ht9]; exact hP, hD⟩, hS.F ht9⟩) hS.2.2 dX12_sign_166
                · refine lv_sipush (v := 260) hx hb dX12_sign_157 (by decide) ?_
                  refine lv_goto (tgt := 166) hx hb dX12_sign_160 (by decide) ?_
                  have hz272 : (260 : Int32) = 264 → j + 3 ≤ sz := (fun e8 => absurd e8 (by decide))
                  have hz273 : ¬ (260 : Int32) < 256 → j + 2 ≤ sz := (fun _ => (by have h7 := chin h12 (by rw [← c243, c259]; decide); omega))
                  have hP : va_P G.1 pCl (mW G h0 a (upd F 4 (nI sz)) B) _ := hP
                  have hD : va_D A (mW G h0 a (upd F 4 (nI sz)) B) := mW_D hD
                  exact W.iret (v := 260) hx hb hr (fun t9 ht9 hW9 => ⟨⟨_, (260 : Int32), rfl, ⟨rfl, hz272, hz273⟩, by rw [ht9]; exact hP, hD⟩, hS.F ht9⟩) hS.2.2 dX12_sign_166
        · refine lv_iload_n hx hb dX12_sign_70 rfl (lv_at hl 1 rfl) ?_
          refine lv_bipush (v := 60) hx hb dX12_sign_71 (by decide) ?_
          refine lv_icmp_eq (tgt := 94) hx hb dX12_sign_73 (by decide) (fun c274 => ?_) (fun c274 => ?_)
          · refine lv_iload_n hx hb dX12_sign_94 rfl (lv_at hl 1 rfl) ?_
            refine lv_bipush (v := 60) hx hb dX12_sign_95 (by decide) ?_
            refine lv_icmp_ne (tgt := 106) hx hb dX12_sign_97 (by decide) (fun c275 => ?_) (fun c275 => ?_)
            · refine lv_iload_n hx hb dX12_sign_106 rfl (lv_at hl 1 rfl) ?_
              refine lv_bipush (v := 62) hx hb dX12_sign_107 (by decide) ?_
              refine lv_icmp_ne (tgt := 118) hx hb dX12_sign_109 (by decide) (fun c276 => ?_) (fun c276 => ?_)
              · refine lv_iload_n hx hb dX12_sign_118 rfl (lv_at hl 1 rfl) ?_
                refine lv_bipush (v := 61) hx hb dX12_sign_119 (by decide) ?_
                refine lv_icmp_ne (tgt := 130) hx hb dX12_sign_121 (by decide) (fun c277 => ?_) (fun c277 => ?_)
                · refine lv_sipush (v := 259) hx hb dX12_sign_130 (by decide) ?_
                  have hz278 : (259 : Int32) = 264 → j + 3 ≤ sz := (fun e8 => absurd e8 (by decide))
                  have hz279 : ¬ (259 : Int32) < 256 → j + 2 ≤ sz := (fun _ => (by have h7 := chin h12 (by rw [c242]; decide); omega))
                  have hP : va_P G.1 pCl (mW G h0 a (upd F 4 (nI sz)) B) _ := hP
                  have hD : va_D A (mW G h0 a (upd F 4 (nI sz)) B) := mW_D hD
                  exact W.iret (v := 259) hx hb hr (fun t9 ht9 hW9 => ⟨⟨_, (259 : Int32), rfl, ⟨rfl, hz278, hz279⟩, by rw [ht9]; exact hP, hD⟩, hS.F ht9⟩) hS.2.2 dX12_sign_133
                · refine lv_sipush (v := 258) hx hb dX12_sign_124 (by decide) ?_
                  refine lv_goto (tgt := 133) hx hb dX12_sign_127 (by decide) ?_
                  have hz280 : (258 : Int32) = 264 → j + 3 ≤ sz := (fun e8 => absurd e8 (by decide))
                  have hz281 : ¬ (258 : Int32) < 256 → j + 2 ≤ sz := (fun _ => (by have h7 := chin h12 (by rw [c242]; decide); omega))
                  have hP : va_P G.1 pCl (mW G h0 a (upd F 4 (nI sz)) B) _ := hP
                  have hD : va_D A (mW G h0 a (upd F 4 (nI sz)) B) := mW_D hD
                  exact W.iret (v := 258) hx hb hr (fun t9 ht9 hW9 => ⟨⟨_, (258 : Int32), rfl, ⟨rfl, hz280, hz281⟩, by rw [ht9]; exact hP, hD⟩, hS.F ht9⟩) hS.2.2 dX12_sign_133
              · refine lv_sipush (v := 257) hx hb dX12_sign_112 (by decide) ?_
                refine lv_goto (tgt := 133) hx hb dX12_sign_115 (by decide) ?_
                have hz282 : (257 : Int32) = 264 → j + 3 ≤ sz := (fun e8 => absurd e8 (by decide))
                have hz283 : ¬ (257 : Int32) < 256 → j + 2 ≤ sz := (fun _ => (by have h7 := chin h12 (by rw [c242]; decide); omega))
                have hP : va_P G.1 pCl (mW G h0 a (upd F 4 (nI sz)) B) _ := hP
                have hD : va_D A (mW G h0 a (upd F 4 (nI sz)) B) := mW_D hD
                exact W.iret (v := 257) hx hb hr (fun t9 ht9 hW9 => ⟨⟨_, (257 : Int32), rfl, ⟨rfl, hz282, hz283⟩, by rw [ht9]; exact hP, hD⟩, hS.F ht9⟩) hS.2.2 dX12_sign_133
            · refine lv_sipush (v := 256) hx hb dX12_sign_100 (by decide) ?_
              refine lv_goto (tgt := 133) hx hb dX12_sign_103 (by decide) ?_
              have hz284 : (256 : Int32) = 264 → j + 3 ≤ sz := (fun e8 => absurd e8 (by decide))
              have hz285 : ¬ (256 : Int32) < 256 → j + 2 ≤ sz := (fun _ => (by have h7 := chin h12 (by rw [c242]; decide); omega))
              have hP : va_P G.1 pCl (mW G h0 a (upd F 4 (nI sz)) B) _ := hP
              have hD : va_D A (mW G h0 a (upd F 4 (nI sz)) B) := mW_D hD
              exact W.iret (v := 256) hx hb hr (fun t9 ht9 hW9 => ⟨⟨_, (256 : Int32), rfl, ⟨rfl, hz284, hz285⟩, by rw [ht9]; exact hP, hD⟩, hS.F ht9⟩) hS.2.2 dX12_sign_133
          · refine lv_iload_n hx hb dX12_sign_76 rfl (lv_at hl 1 rfl) ?_
            refine lv_bipush (v := 62) hx hb dX12_sign_77 (by decide) ?_
            refine lv_icmp_eq (tgt := 94) hx hb dX12_sign_79 (by decide) (fun c286 => ?_) (fun c286 => ?_)
            · refine lv_iload_n hx hb dX12_sign_94 rfl (lv_at hl 1 rfl) ?_
              refine lv_bipush (v := 60) hx hb dX12_sign_95 (by decide) ?_
              refine lv_icmp_ne (tgt := 106) hx hb dX12_sign_97 (by decide) (fun c287 => ?_) (fun c287 => ?_)
              · refine lv_iload_n hx hb dX12_sign_106 rfl (lv_at hl 1 rfl) ?_
                refine lv_bipush (v := 62) hx hb dX12_sign_107 (by decide) ?_
                refine lv_icmp_ne (tgt := 118) hx hb dX12_sign_109 (by decide) (fun c288 => ?_) (fun c288 => ?_)
                · refine lv_iload_n hx hb dX12_sign_118 rfl (lv_at hl 1 rfl) ?_
                  refine lv_bipush (v := 61) hx hb dX12_sign_119 (by decide) ?_
                  refine lv_icmp_ne (tgt := 130) hx hb dX12_sign_121 (by decide) (fun c289 => ?_) (fun c289 => ?_)
                  · refine lv_sipush (v := 259) hx hb dX12_sign_130 (by decide) ?_
                    have hz290 : (259 : Int32) = 264 → j + 3 ≤ sz := (fun e8 => absurd e8 (by decide))
                    have hz291 : ¬ (259 : Int32) < 256 → j + 2 ≤ sz := (fun _ => (by have h7 := chin h12 (by rw [c242]; decide); omega))
                    have hP : va_P G.1 pCl (mW G h0 a (upd F 4 (nI sz)) B) _ := hP
                    have hD : va_D A (mW G h0 a (upd F 4 (nI sz)) B) := mW_D hD
                    exact W.iret (v := 259) hx hb hr (fun t9 ht9 hW9 => ⟨⟨_, (259 : Int32), rfl, ⟨rfl, hz290, hz291⟩, by rw [ht9]; exact hP, hD⟩, hS.F ht9⟩) hS.2.2 dX12_sign_133
                  · refine lv_sipush (v := 258) hx hb dX12_sign_124 (by decide) ?_
                    refine lv_goto (tgt := 133) hx hb dX12_sign_127 (by decide) ?_
                    have hz292 : (258 : Int32) = 264 → j + 3 ≤ sz := (fun e8 => absurd e8 (by decide))
                    have hz293 : ¬ (258 : Int32) < 256 → j + 2 ≤ sz := (fun _ => (by have h7 := chin h12 (by rw [c242]; decide); omega))
                    have hP : va_P G.1 pCl (mW G h0 a (upd F 4 (nI sz)) B) _ := hP
                    have hD : va_D A (mW G h0 a (upd F 4 (nI sz)) B) := mW_D hD
                    exact W.iret (v := 258) hx hb hr (fun t9 ht9 hW9 => ⟨⟨_, (258 : Int32), rfl, ⟨rfl, hz292, hz293⟩, by rw [ht9]; exact hP, hD⟩, hS.F ht9⟩) hS.2.2 dX12_sign_133
                · refine lv_sipush (v := 257) hx hb dX12_sign_112 (by decide) ?_
                  refine lv_goto (tgt := 133) hx hb dX12_sign_115 (by decide) ?_
                  have hz294 : (257 : Int32) = 264 → j + 3 ≤ sz := (fun e8 => absurd e8 (by decide))
                  have hz295 : ¬ (257 : Int32) < 256 → j + 2 ≤ sz := (fun _ => (by have h7 := chin h12 (by rw [c242]; decide); omega))
                  have hP : va_P G.1 pCl (mW G h0 a (upd F 4 (nI sz)) B) _ := hP
                  have hD : va_D A (mW G h0 a (upd F 4 (nI sz)) B) := mW_D hD
                  exact W.iret (v := 257) hx hb hr (fun t9 ht9 hW9 => ⟨⟨_, (257 : Int32), rfl, ⟨rfl, hz294, hz295⟩, by rw [ht9]; exact hP, hD⟩, hS.F ht9⟩) hS.2.2 dX12_sign_133
              · refine lv_sipush (v := 256) hx hb dX12_sign_100 (by decide) ?_
                refine lv_goto (tgt := 133) hx hb dX12_sign_103 (by decide) ?_
                have hz296 : (256 : Int32) = 264 → j + 3 ≤ sz := (fun e8 => absurd e8 (by decide))
                have hz297 : ¬ (256 : Int32) < 256 → j + 2 ≤ sz := (fun _ => (by have h7 := chin h12 (by rw [c242]; decide); omega))
                have hP : va_P G.1 pCl (mW G h0 a (upd F 4 (nI sz)) B) _ := hP
                have hD : va_D A (mW G h0 a (upd F 4 (nI sz)) B) := mW_D hD
                exact W.iret (v := 256) hx hb hr (fun t9 ht9 hW9 => ⟨⟨_, (256 : Int32), rfl, ⟨rfl, hz296, hz297⟩, by rw [ht9]; exact hP, hD⟩, hS.F ht9⟩) hS.2.2 dX12_sign_133
            · refine lv_iload_n hx hb dX12_sign_82 rfl (lv_at hl 1 rfl) ?_
              refine lv_bipush (v := 61) hx hb dX12_sign_83 (by decide) ?_
              refine lv_icmp_eq (tgt := 94) hx hb dX12_sign_85 (by decide) (fun c298 => ?_) (fun c298 => ?_)
              · refine lv_iload_n hx hb dX12_sign_94 rfl (lv_at hl 1 rfl) ?_
                refine lv_bipush (v := 60) hx hb dX12_sign_95 (by decide) ?_
                refine lv_icmp_ne (tgt := 106) hx hb dX12_sign_97 (by decide) (fun c299 => ?_) (fun c299 => ?_)
                · refine lv_iload_n hx hb dX12_sign_106 rfl (lv_at hl 1 rfl) ?_
                  refine lv_bipush (v := 62) hx hb dX12_sign_107 (by decide) ?_
                  refine lv_icmp_ne (tgt := 118) hx hb dX12_sign_109 (by decide) (fun c300 => ?_) (fun c300 => ?_)
                  · refine lv_iload_n hx hb dX12_sign_118 rfl (lv_at hl 1 rfl) ?_
                    refine lv_bipush (v := 61) hx hb dX12_sign_119 (by decide) ?_
                    refine lv_icmp_ne (tgt := 130) hx hb dX12_sign_121 (by decide) (fun c301 => ?_) (fun c301 => ?_)
                    · refine lv_sipush (v := 259) hx hb dX12_sign_130 (by decide) ?_
                      have hz302 : (259 : Int32) = 264 → j + 3 ≤ sz := (fun e8 => absurd e8 (by decide))
                      have hz303 : ¬ (259 : Int32) < 256 → j + 2 ≤ sz := (fun _ => (by have h7 := chin h12 (by rw [c242]; decide); omega))
                      have hP : va_P G.1 pCl (mW G h0 a (upd F 4 (nI sz)) B) _ := hP
                      have hD : va_D A (mW G h0 a (upd F 4 (nI sz)) B) := mW_D hD
                      exact W.iret (v := 259) hx hb hr (fun t9 ht9 hW9 => ⟨⟨_, (259 : Int32), rfl, ⟨rfl, hz302, hz303⟩, by rw [ht9]; exact hP, hD⟩, hS.F ht9⟩) hS.2.2 dX12_sign_133
                    · refine lv_sipush (v := 258) hx hb dX12_sign_124 (by decide) ?_
                      refine lv_goto (tgt := 133) hx hb dX12_sign_127 (by decide) ?_
                      have hz304 : (258 : Int32) = 264 → j + 3 ≤ sz := (fun e8 => absurd e8 (by decide))
                      have hz305 : ¬ (258 : Int32) < 256 → j + 2 ≤ sz := (fun _ => (by have h7 := chin h12 (by rw [c242]; decide); omega))
                      have hP : va_P G.1 pCl (mW G h0 a (upd F 4 (nI sz)) B) _ := hP
                      have hD : va_D A (mW G h0 a (upd F 4 (nI sz)) B) := mW_D hD
                      exact W.iret (v := 258) hx hb hr (fun t9 ht9 hW9 => ⟨⟨_, (258 : Int32), rfl, ⟨rfl, hz304, hz305⟩, by rw [ht9]; exact hP, hD⟩, hS.F ht9⟩) hS.2.2 dX12_sign_133
                  · refine lv_sipush (v := 257) hx hb dX12_sign_112 (by decide) ?_
                    refine lv_goto (tgt := 133) hx hb dX12_sign_115 (by decide) ?_
                    have hz306 : (257 : Int32) = 264 → j + 3 ≤ sz := (fun e8 => absurd e8 (by decide))
                    have hz307 : ¬ (257 : Int32) < 256 → j + 2 ≤ sz := (fun _ => (by have h7 := chin h12 (by rw [c242]; decide); omega))
                    have hP : va_P G.1 pCl (mW G h0 a (upd F 4 (nI sz)) B) _ := hP
                    have hD : va_D A (mW G h0 a (upd F 4 (nI sz)) B) := mW_D hD
                    exact W.iret (v := 257) hx hb hr (fun t9 ht9 hW9 => ⟨⟨_, (257 : Int32), rfl, ⟨rfl, hz306, hz307⟩, by rw [ht9]; exact hP, hD⟩, hS.F ht9⟩) hS.2.2 dX12_sign_133
                · refine lv_sipush (v := 256) hx hb dX12_sign_100 (by decide) ?_
                  refine lv_goto (tgt := 133) hx hb dX12_sign_103 (by decide) ?_
                  have hz308 : (256 : Int32) = 264 → j + 3 ≤ sz := (fun e8 => absurd e8 (by decide))
                  have hz309 : ¬ (256 : Int32) < 256 → j + 2 ≤ sz := (fun _ => (by have h7 := chin h12 (by rw [c242]; decide); omega))
                  have hP : va_P G.1 pCl (mW G h0 a (upd F 4 (nI sz)) B) _ := hP
                  have hD : va_D A (mW G h0 a (upd F 4 (nI sz)) B) := mW_D hD
                  exact W.iret (v := 256) hx hb hr (fun t9 ht9 hW9 => ⟨⟨_, (256 : Int32), rfl, ⟨rfl, hz308, hz309⟩, by rw [ht9]; exact hP, hD⟩, hS.F ht9⟩) hS.2.2 dX12_sign_133
              · refine lv_iload_n hx hb dX12_sign_88 rfl (lv_at hl 1 rfl) ?_
                refine lv_bipush (v := 33) hx hb dX12_sign_89 (by decide) ?_
                refine lv_icmp_ne (tgt := 134) hx hb dX12_sign_91 (by decide) (fun c310 => ?_) (fun c310 => ?_)
                · refine lv_iload_n hx hb dX12_sign_134 rfl (lv_at hl 1 rfl) ?_
                  refine lv_iload_n hx hb dX12_sign_135 rfl (lv_at hl 0 rfl) ?_
                  refine lv_icmp_ne (tgt := 167) hx hb dX12_sign_136 (by decide) (fun c311 => ?_) (fun c311 => ?_)
                  · refine pn_ldcSW (q := G.2.2.1 16) hx hb hown hE.al dX12_sign_167 ?_
                    refine lv_iload_n hx hb dX12_sign_170 rfl (lv_at hl 1 rfl) ?_
                    refine pc_VN (G := G) (As := [.int r4]) (rest := []) hx hb hml hown hq hE hX pX0_al hP hS hA hl.1 (c_indexOf1 l G 16 r4 (by decide)) (gV pw_1564 pw_1565 pw_1566 pw_1214 pw_1560) hV_J0_indexOf_0f7a4 (vk_recv hE.2.1 (by decide) hS) rfl (Nat.le_of_ble_eq_true rfl) dX12_sign_171 ⟨Nat.le_of_ble_eq_true rfl, Nat.le_of_ble_eq_true rfl⟩ ⟨Nat.le_of_ble_eq_true rfl, Nat.le_of_ble_eq_true rfl⟩ (fun v314 u312 H locs hw313 hP hS => ?_)
                    obtain ⟨x315, rfl⟩ := hw313
                    refine W.widen (k := 0) (n := 0) (Nat.le_of_ble_eq_true rfl) (Nat.le_of_ble_eq_true rfl) ?_
                    refine W.eq (g2 := F0 m 174 ls [.int x315]) rfl ?_
                    refine lv_if_lt (tgt := 181) hx hb dX12_sign_174 (by decide) (fun c316 => ?_) (fun c316 => ?_)
                    · refine lv_iconst (v := 3) hx hb dX12_sign_181 (by decide) ?_
                      have hz317 : (3 : Int32) = 264 → j + 3 ≤ sz := (fun e8 => absurd e8 (by decide))
                      have hz318 : ¬ (3 : Int32) < 256 → j + 2 ≤ sz := (fun h8 => absurd (by decide) h8)
                      have hP : va_P G.1 pCl (mW G h0 a (upd F 4 (nI sz)) B) _ := hP
                      have hD : va_D A (mW G h0 a (upd F 4 (nI sz)) B) := mW_D hD
                      exact W.iret (v := 3) hx hb hr (fun t9 ht9 hW9 => ⟨⟨_, (3 : Int32), rfl, ⟨rfl, hz317, hz318⟩, by rw [ht9]; exact hP, hD⟩, hS.F ht9⟩) hS.2.2 dX12_sign_182
                    · refine lv_iload_n hx hb dX12_sign_177 rfl (lv_at hl 1 rfl) ?_
                      refine lv_goto (tgt := 182) hx hb dX12_sign_178 (by decide) ?_
                      have hlt9 : r4 < 256 := chlt htx hj h5
                      have hz319 : r4 = 264 → j + 3 ≤ sz := (fun e8 => absurd hlt9 (by rw [e8]; decide))
                      have hz320 : ¬ r4 < 256 → j + 2 ≤ sz := (fun h8 => absurd hlt9 h8)
                      have hP : va_P G.1 pCl (mW G h0 a (upd F 4 (nI sz)) B) _ := hP
                      have hD : va_D A (mW G h0 a (upd F 4 (nI sz)) B) := mW_D hD
                      exact W.iret (v := r4) hx hb hr (fun t9 ht9 hW9 => ⟨⟨_, r4, rfl, ⟨rfl, hz319, hz320⟩, by rw [ht9]; exact hP, hD⟩, hS.F ht9⟩) hS.2.2 dX12_sign_182
                  · refine lv_iload_n hx hb dX12_sign_139 rfl (lv_at hl 1 rfl) ?_
                    refine lv_bipush (v := 38) hx hb dX12_sign_140 (by decide) ?_
                    refine lv_icmp_eq (tgt := 151) hx hb dX12_sign_142 (by decide) (fun c321 => ?_) (fun c321 => ?_)
                    · refine lv_iload_n hx hb dX12_sign_151 rfl (lv_at hl 1 rfl) ?_
                      refine lv_bipush (v := 38) hx hb dX12_sign_152 (by decide) ?_
                      refine lv_icmp_ne (tgt := 163) hx hb dX12_sign_154 (by decide) (fun c322 => ?_) (fun c322 => ?_)
                      · refine lv_sipush (v := 261) hx hb dX12_sign_163 (by decide) ?_
                        have hz323 : (261 : Int32) = 264 → j + 3 ≤ sz := (fun e8 => absurd e8 (by decide))
                        have hz324 : ¬ (261 : Int32) < 256 → j + 2 ≤ sz := (fun _ => (by have h7 := chin h12 (by rw [← c311, c321]; decide); omega))
                        have hP : va_P G.1 pCl (mW G h0 a (upd F 4 (nI sz)) B) _ := hP
                        have hD : va_D A (mW G h0 a (upd F 4 (nI sz)) B) := mW_D hD
                        exact W.iret (v := 261) hx hb hr (fun t9 ht9 hW9 => ⟨⟨_, (261 : Int32), rfl, ⟨rfl, hz323, hz324⟩, by rw [ht9]; exact hP, hD⟩, hS.F ht9⟩) hS.2.2 dX12_sign_166
                      · refine lv_sipush (v := 260) hx hb dX12_sign_157 (by decide) ?_
                        refine lv_goto (tgt := 166) hx hb dX12_sign_160 (by decide) ?_
                        have hz325 : (260 : Int32) = 264 → j + 3 ≤ sz := (fun e8 => absurd e8 (by decide))
                        have hz326 : ¬ (260 : Int32) < 256 → j + 2 ≤ sz := (fun _ => (by have h7 := chin h12 (by rw [← c311, c321]; decide); omega))
                        have hP : va_P G.1 pCl (mW G h0 a (upd F 4 (nI sz)) B) _ := hP
                        have hD : va_D A (mW G h0 a (upd F 4 (nI sz)) B) := mW_D hD
                        exact W.iret (v := 260) hx hb hr (fun t9 ht9 hW9 => ⟨⟨_, (260 : Int32), rfl, ⟨rfl, hz325, hz326⟩, by rw [ht9]; exact hP, hD⟩, hS.F ht9⟩) hS.2.2 dX12_sign_166
                    · refine lv_iload_n hx hb dX12_sign_145 rfl (lv_at hl 1 rfl) ?_
                      refine lv_bipush (v := 124) hx hb dX12_sign_146 (by decide) ?_
                      refine lv_icmp_ne (tgt := 167) hx hb dX12_sign_148 (by decide) (fun c327 => ?_) (fun c327 => ?_)
                      · refine pn_ldcSW (q := G.2.2.1 16) hx hb hown hE.al dX12_sign_167 ?_
                        refine lv_iload_n hx hb dX12_sign_170 rfl (lv_at hl 1 rfl) ?_
                        refine pc_VN (G := G) (As := [.int r4]) (rest := []) hx hb hml hown hq hE hX pX0_al hP hS hA hl.1 (c_indexOf1 l G 16 r4 (by decide)) (gV pw_1564 pw_1565 pw_1566 pw_1214 pw_1560) hV_J0_indexOf_0f7a4 (vk_recv hE.2.1 (by decide) hS) rfl (Nat.le_of_ble_eq_true rfl) dX12_sign_171 ⟨Nat.le_of_ble_eq_true rfl, Nat.le_of_ble_eq_true rfl⟩ ⟨Nat.le_of_ble_eq_true rfl, Nat.le_of_ble_eq_true rfl⟩ (fun v330 u328 H locs hw329 hP hS => ?_)
                        obtain ⟨x331, rfl⟩ := hw329
                        refine W.widen (k := 0) (n := 0) (Nat.le_of_ble_eq_true rfl) (Nat.le_of_ble_eq_true rfl) ?_
                        refine W.eq (g2 := F0 m 174 ls [.int x331]) rfl ?_
                        refine lv_if_lt (tgt := 181) hx hb dX12_sign_174 (by decide) (fun c332 => ?_) (fun c332 => ?_)
                        · refine lv_iconst (v := 3) hx hb dX12_sign_181 (by decide) ?_
                          have hz333 : (3 : Int32) = 264 → j + 3 ≤ sz := (fun e8 => absurd e8 (by decide))
                          have hz334 : ¬ (3 : Int32) < 256 → j + 2 ≤ sz := (fun h8 => absurd (by decide) h8)
                          have hP : va_P G.1 pCl (mW G h0 a (upd F 4 (nI sz)) B) _ := hP
                          have hD : va_D A (mW G h0 a (upd F 4 (nI sz)) B) := mW_D hD
                          exact W.iret (v := 3) hx hb hr (fun t9 ht9 hW9 => ⟨⟨_, (3 : Int32), rfl, ⟨rfl, hz333, hz334⟩, by rw [ht9]; exact hP, hD⟩, hS.F ht9⟩) hS.2.2 dX12_sign_182
                        · refine lv_iload_n hx hb dX12_sign_177 rfl (lv_at hl 1 rfl) ?_
                          refine lv_goto (tgt := 182) hx hb dX12_sign_178 (by decide) ?_
                          have hlt9 : r4 < 256 := chlt htx hj h5
                          have hz335 : r4 = 264 → j + 3 ≤ sz := (fun e8 => absurd hlt9 (by rw [e8]; decide))
                          have hz336 : ¬ r4 < 256 → j + 2 ≤ sz := (fun h8 => absurd hlt9 h8)
                          have hP : va_P G.1 pCl (mW G h0 a (upd F 4 (nI sz)) B) _ := hP
                          have hD : va_D A (mW G h0 a (upd F 4 (nI sz)) B) := mW_D hD
                          exact W.iret (v := r4) hx hb hr (fun t9 ht9 hW9 => ⟨⟨_, r4, rfl, ⟨rfl, hz335, hz336⟩, by rw [ht9]; exact hP, hD⟩, hS.F ht9⟩) hS.2.2 dX12_sign_182
                      · refine lv_iload_n hx hb dX12_sign_151 rfl (lv_at hl 1 rfl) ?_
                        refine lv_bipush (v := 38) hx hb dX12_sign_152 (by decide) ?_
                        refine lv_icmp_ne (tgt := 163) hx hb dX12_sign_154 (by decide) (fun c337 => ?_) (fun c337 => ?_)
                        · refine lv_sipush (v := 261) hx hb dX12_sign_163 (by decide) ?_
                          have hz338 : (261 : Int32) = 264 → j + 3 ≤ sz := (fun e8 => absurd e8 (by decide))
                          have hz339 : ¬ (261 : Int32) < 256 → j + 2 ≤ sz := (fun _ => (by have h7 := chin h12 (by rw [← c311, c327]; decide); omega))
                          have hP : va_P G.1 pCl (mW G h0 a (upd F 4 (nI sz)) B) _ := hP
                          have hD : va_D A (mW G h0 a (upd F 4 (nI sz)) B) := mW_D hD
                          exact W.iret (v := 261) hx hb hr (fun t9 ht9 hW9 => ⟨⟨_, (261 : Int32), rfl, ⟨rfl, hz338, hz339⟩, by rw [ht9]; exact hP, hD⟩, hS.F ht9⟩) hS.2.2 dX12_sign_166
                        · refine lv_sipush (v := 260) hx hb dX12_sign_157 (by decide) ?_
                          refine lv_goto (tgt := 166) hx hb dX12_sign_160 (by decide) ?_
                          have hz340 : (260 : Int32) = 264 → j + 3 ≤ sz := (fun e8 => absurd e8 (by decide))
                          have hz341 : ¬ (260 : Int32) < 256 → j + 2 ≤ sz := (fun _ => (by have h7 := chin h12 (by rw [← c311, c327]; decide); omega))
                          have hP : va_P G.1 pCl (mW G h0 a (upd F 4 (nI sz)) B) _ := hP
                          have hD : va_D A (mW G h0 a (upd F 4 (nI sz)) B) := mW_D hD
                          exact W.iret (v := 260) hx hb hr (fun t9 ht9 hW9 => ⟨⟨_, (260 : Int32), rfl, ⟨rfl, hz340, hz341⟩, by rw [ht9]; exact hP, hD⟩, hS.F ht9⟩) hS.2.2 dX12_sign_166
                · refine lv_iload_n hx hb dX12_sign_94 rfl (lv_at hl 1 rfl) ?_
                  refine lv_bipush (v := 60) hx hb dX12_sign_95 (by decide) ?_
                  refine lv_icmp_ne (tgt := 106) hx hb dX12_sign_97 (by decide) (fun c342 => ?_) (fun c342 => ?_)
                  · refine lv_iload_n hx hb dX12_sign_106 rfl (lv_at hl 1 rfl) ?_
                    refine lv_bipush (v := 62) hx hb dX12_sign_107 (by decide) ?_
                    refine lv_icmp_ne (tgt := 118) hx hb dX12_sign_109 (by decide) (fun c343 => ?_) (fun c343 => ?_)
                    · refine lv_iload_n hx hb dX12_sign_118 rfl (lv_at hl 1 rfl) ?_
                      refine lv_bipush (v := 61) hx hb dX12_sign_119 (by decide) ?_
                      refine lv_icmp_ne (tgt := 130) hx hb dX12_sign_121 (by decide) (fun c344 => ?_) (fun c344 => ?_)
                      · refine lv_sipush (v := 259) hx hb dX12_sign_130 (by decide) ?_
                        have hz345 : (259 : Int32) = 264 → j + 3 ≤ sz := (fun e8 => absurd e8 (by decide))
                        have hz346 : ¬ (259 : Int32) < 256 → j + 2 ≤ sz := (fun _ => (by have h7 := chin h12 (by rw [c242]; decide); omega))
                        have hP : va_P G.1 pCl (mW G h0 a (upd F 4 (nI sz)) B) _ := hP
                        have hD : va_D A (mW G h0 a (upd F 4 (nI sz)) B) := mW_D hD
                        exact W.iret (v := 259) hx hb hr (fun t9 ht9 hW9 => ⟨⟨_, (259 : Int32), rfl, ⟨rfl, hz345, hz346⟩, by rw [ht9]; exact hP, hD⟩, hS.F ht9⟩) hS.2.2 dX12_sign_133
                      · refine lv_sipush (v := 258) hx hb dX12_sign_124 (by decide) ?_
                        refine lv_goto (tgt := 133) hx hb dX12_sign_127 (by decide) ?_
                        have hz347 : (258 : Int32) = 264 → j + 3 ≤ sz := (fun e8 => absurd e8 (by decide))
                        have hz348 : ¬ (258 : Int32) < 256 → j + 2 ≤ sz := (fun _ => (by have h7 := chin h12 (by rw [c242]; decide); omega))
                        have hP : va_P G.1 pCl (mW G h0 a (upd F 4 (nI sz)) B) _ := hP
                        have hD : va_D A (mW G h0 a (upd F 4 (nI sz)) B) := mW_D hD
                        exact W.iret (v := 258) hx hb hr (fun t9 ht9 hW9 => ⟨⟨_, (258 : Int32), rfl, ⟨rfl, hz347, hz348⟩, by rw [ht9]; exact hP, hD⟩, hS.F ht9⟩) hS.2.2 dX12_sign_133
                    · refine lv_sipush (v := 257) hx hb dX12_sign_112 (by decide) ?_
                      refine lv_goto (tgt := 133) hx hb dX12_sign_115 (by decide) ?_
                      have hz349 : (257 : Int32) = 264 → j + 3 ≤ sz := (fun e8 => absurd e8 (by decide))
                      have hz350 : ¬ (257 : Int32) < 256 → j + 2 ≤ sz := (fun _ => (by have h7 := chin h12 (by rw [c242]; decide); omega))
                      have hP : va_P G.1 pCl (mW G h0 a (upd F 4 (nI sz)) B) _ := hP
                      have hD : va_D A (mW G h0 a (upd F 4 (nI sz)) B) := mW_D hD
                      exact W.iret (v := 257) hx hb hr (fun t9 ht9 hW9 => ⟨⟨_, (257 : Int32), rfl, ⟨rfl, hz349, hz350⟩, by rw [ht9]; exact hP, hD⟩, hS.F ht9⟩) hS.2.2 dX12_sign_133
                  · refine lv_sipush (v := 256) hx hb dX12_sign_100 (by decide) ?_
                    refine lv_goto (tgt := 133) hx hb dX12_sign_103 (by decide) ?_
                    have hz351 : (256 : Int32) = 264 → j + 3 ≤ sz := (fun e8 => absurd e8 (by decide))
                    have hz352 : ¬ (256 : Int32) < 256 → j + 2 ≤ sz := (fun _ => (by have h7 := chin h12 (by rw [c242]; decide); omega))
                    have hP : va_P G.1 pCl (mW G h0 a (upd F 4 (nI sz)) B) _ := hP
                    have hD : va_D A (mW G h0 a (upd F 4 (nI sz)) B) := mW_D hD
                    exact W.iret (v := 256) hx hb hr (fun t9 ht9 hW9 => ⟨⟨_, (256 : Int32), rfl, ⟨rfl, hz351, hz352⟩, by rw [ht9]; exact hP, hD⟩, hS.F ht9⟩) hS.2.2 dX12_sign_133
      · refine lv_iload_n hx hb dX12_sign_54 rfl (lv_at hl 0 rfl) ?_
        refine lv_bipush (v := 60) hx hb dX12_sign_55 (by decide) ?_
        refine lv_icmp_ne (tgt := 64) hx hb dX12_sign_57 (by decide) (fun c353 => ?_) (fun c353 => ?_)
        · refine lv_iload_n hx hb dX12_sign_64 rfl (lv_at hl 0 rfl) ?_
          refine lv_bipush (v := 61) hx hb dX12_sign_65 (by decide) ?_
          refine lv_icmp_ne (tgt := 134) hx hb dX12_sign_67 (by decide) (fun c354 => ?_) (fun c354 => ?_)
          · refine lv_iload_n hx hb dX12_sign_134 rfl (lv_at hl 1 rfl) ?_
            refine lv_iload_n hx hb dX12_sign_135 rfl (lv_at hl 0 rfl) ?_
            refine lv_icmp_ne (tgt := 167) hx hb dX12_sign_136 (by decide) (fun c355 => ?_) (fun c355 => ?_)
            · refine pn_ldcSW (q := G.2.2.1 16) hx hb hown hE.al dX12_sign_167 ?_
              refine lv_iload_n hx hb dX12_sign_170 rfl (lv_at hl 1 rfl) ?_
              refine pc_VN (G := G) (As := [.int r4]) (rest := []) hx hb hml hown hq hE hX pX0_al hP hS hA hl.1 (c_indexOf1 l G 16 r4 (by decide)) (gV pw_1564 pw_1565 pw_1566 pw_1214 pw_1560) hV_J0_indexOf_0f7a4 (vk_recv hE.2.1 (by decide) hS) rfl (Nat.le_of_ble_eq_true rfl) dX12_sign_171 ⟨Nat.le_of_ble_eq_true rfl, Nat.le_of_ble_eq_true rfl⟩ ⟨Nat.le_of_ble_eq_true rfl, Nat.le_of_ble_eq_true rfl⟩ (fun v358 u356 H locs hw357 hP hS => ?_)
              obtain ⟨x359, rfl⟩ := hw357
              refine W.widen (k := 0) (n := 0) (Nat.le_of_ble_eq_true rfl) (Nat.le_of_ble_eq_true rfl) ?_
              refine W.eq (g2 := F0 m 174 ls [.int x359]) rfl ?_
              refine lv_if_lt (tgt := 181) hx hb dX12_sign_174 (by decide) (fun c360 => ?_) (fun c360 => ?_)
              · refine lv_iconst (v := 3) hx hb dX12_sign_181 (by decide) ?_
                have hz361 : (3 : Int32) = 264 → j + 3 ≤ sz := (fun e8 => absurd e8 (by decide))
                have hz362 : ¬ (3 : Int32) < 256 → j + 2 ≤ sz := (fun h8 => absurd (by decide) h8)
                have hP : va_P G.1 pCl (mW G h0 a (upd F 4 (nI sz)) B) _ := hP
                have hD : va_D A (mW G h0 a (upd F 4 (nI sz)) B) := mW_D hD
                exact W.iret (v := 3) hx hb hr (fun t9 ht9 hW9 => ⟨⟨_, (3 : Int32), rfl, ⟨rfl, hz361, hz362⟩, by rw [ht9]; exact hP, hD⟩, hS.F ht9⟩) hS.2.2 dX12_sign_182
              · refine lv_iload_n hx hb dX12_sign_177 rfl (lv_at hl 1 rfl) ?_
                refine lv_goto (tgt := 182) hx hb dX12_sign_178 (by decide) ?_
                have hlt9 : r4 < 256 := chlt htx hj h5
                have hz363 : r4 = 264 → j + 3 ≤ sz := (fun e8 => absurd hlt9 (by rw [e8]; decide))
                have hz364 : ¬ r4 < 256 → j + 2 ≤ sz := (fun h8 => absurd hlt9 h8)
                have hP : va_P G.1 pCl (mW G h0 a (upd F 4 (nI sz)) B) _ := hP
                have hD : va_D A (mW G h0 a (upd F 4 (nI sz)) B) := mW_D hD
                exact W.iret (v := r4) hx hb hr (fun t9 ht9 hW9 => ⟨⟨_, r4, rfl, ⟨rfl, hz363, hz364⟩, by rw [ht9]; exact hP, hD⟩, hS.F ht9⟩) hS.2.2 dX12_sign_182
            · refine lv_iload_n hx hb dX12_sign_139 rfl (lv_at hl 1 rfl) ?_
              refine lv_bipush (v := 38) hx hb dX12_sign_140 (by decide) ?_
              refine lv_icmp_eq (tgt := 151) hx hb dX12_sign_142 (by decide) (fun c365 => ?_) (fun c365 => ?_)
              · refine lv_iload_n hx hb dX12_sign_151 rfl (lv_at hl 1 rfl) ?_
                refine lv_bipush (v := 38) hx hb dX12_sign_152 (by decide) ?_
                refine lv_icmp_ne (tgt := 163) hx hb dX12_sign_154 (by decide) (fun c366 => ?_) (fun c366 => ?_)
                · refine lv_sipush (v := 261) hx hb dX12_sign_163 (by decide) ?_
                  have hz367 : (261 : Int32) = 264 → j + 3 ≤ sz := (fun e8 => absurd e8 (by decide))
                  have hz368 : ¬ (261 : Int32) < 256 → j + 2 ≤ sz := (fun _ => (by have h7 := chin h12 (by rw [← c355, c365]; decide); omega))
                  have hP : va_P G.1 pCl (mW G h0 a (upd F 4 (nI sz)) B) _ := hP
                  have hD : va_D A (mW G h0 a (upd F 4 (nI sz)) B) := mW_D hD
                  exact W.iret (v := 261) hx hb hr (fun t9 ht9 hW9 => ⟨⟨_, (261 : Int32), rfl, ⟨rfl, hz367, hz368⟩, by rw [ht9]; exact hP, hD⟩, hS.F ht9⟩) hS.2.2 dX12_sign_166
                · refine lv_sipush (v := 260) hx hb dX12_sign_157 (by decide) ?_
                  refine lv_goto (tgt := 166) hx hb dX12_sign_160 (by decide) ?_
                  have hz369 : (260 : Int32) = 264 → j + 3 ≤ sz := (fun e8 => absurd e8 (by decide))
                  have hz370 : ¬ (260 : Int32) < 256 → j + 2 ≤ sz := (fun _ => (by have h7 := chin h12 (by rw [← c355, c365]; decide); omega))
                  have hP : va_P G.1 pCl (mW G h0 a (upd F 4 (nI sz)) B) _ := hP
                  have hD : va_D A (mW G h0 a (upd F 4 (nI sz)) B) := mW_D hD
                  exact W.iret (v := 260) hx hb hr (fun t9 ht9 hW9 => ⟨⟨_, (260 : Int32), rfl, ⟨rfl, hz369, hz370⟩, by rw [ht9]; exact hP, hD⟩, hS.F ht9⟩) hS.2.2 dX12_sign_166
              · refine lv_iload_n hx hb dX12_sign_145 rfl (lv_at hl 1 rfl) ?_
                refine lv_bipush (v := 124) hx hb dX12_sign_146 (by decide) ?_
                refine lv_icmp_ne (tgt := 167) hx hb dX12_sign_148 (by decide) (fun c371 => ?_) (fun c371 => ?_)
                · refine pn_ldcSW (q := G.2.2.1 16) hx hb hown hE.al dX12_sign_167 ?_
                  refine lv_iload_n hx hb dX12_sign_170 rfl (lv_at hl 1 rfl) ?_
                  refine pc_VN (G := G) (As := [.int r4]) (rest := []) hx hb hml hown hq hE hX pX0_al hP hS hA hl.1 (c_indexOf1 l G 16 r4 (by decide)) (gV pw_1564 pw_1565 pw_1566 pw_1214 pw_1560) hV_J0_indexOf_0f7a4 (vk_recv hE.2.1 (by decide) hS) rfl (Nat.le_of_ble_eq_true rfl) dX12_sign_171 ⟨Nat.le_of_ble_eq_true rfl, Nat.le_of_ble_eq_true rfl⟩ ⟨Nat.le_of_ble_eq_true rfl, Nat.le_of_ble_eq_true rfl⟩ (fun v374 u372 H locs hw373 hP hS => ?_)
                  obtain ⟨x375, rfl⟩ := hw373
                  refine W.widen (k := 0) (n := 0) (Nat.le_of_ble_eq_true rfl) (Nat.le_of_ble_eq_true rfl) ?_
                  refine W.eq (g2 := F0 m 174 ls [.int x375]) rfl ?_
                  refine lv_if_lt (tgt := 181) hx hb dX12_sign_174 (by decide) (fun c376 => ?_) (fun c376 => ?_)
                  · refine lv_iconst (v := 3) hx hb dX12_sign_181 (by decide) ?_
                    have hz377 : (3 : Int32) = 264 → j + 3 ≤ sz := (fun e8 => absurd e8 (by decide))
                    have hz378 : ¬ (3 : Int32) < 256 → j + 2 ≤ sz := (fun h8 => absurd (by decide) h8)
                    have hP : va_P G.1 pCl (mW G h0 a (upd F 4 (nI sz)) B) _ := hP
                    have hD : va_D A (mW G h0 a (upd F 4 (nI sz)) B) := mW_D hD
                    exact W.iret (v := 3) hx hb hr (fun t9 ht9 hW9 => ⟨⟨_, (3 : Int32), rfl, ⟨rfl, hz377, hz378⟩, by rw [ht9]; exact hP, hD⟩, hS.F ht9⟩) hS.2.2 dX12_sign_182
                  · refine lv_iload_n hx hb dX12_sign_177 rfl (lv_at hl 1 rfl) ?_
                    refine lv_goto (tgt := 182) hx hb dX12_sign_178 (by decide) ?_
                    have hlt9 : r4 < 256 := chlt htx hj h5
                    have hz379 : r4 = 264 → j + 3 ≤ sz := (fun e8 => absurd hlt9 (by rw [e8]; decide))
                    have hz380 : ¬ r4 < 256 → j + 2 ≤ sz := (fun h8 => absurd hlt9 h8)
                    have hP : va_P G.1 pCl (mW G h0 a (upd F 4 (nI sz)) B) _ := hP
                    have hD : va_D A (mW G h0 a (upd F 4 (nI sz)) B) := mW_D hD
                    exact W.iret (v := r4) hx hb hr (fun t9 ht9 hW9 => ⟨⟨_, r4, rfl, ⟨rfl, hz379, hz380⟩, by rw [ht9]; exact hP, hD⟩, hS.F ht9⟩) hS.2.2 dX12_sign_182
                · refine lv_iload_n hx hb dX12_sign_151 rfl (lv_at hl 1 rfl) ?_
                  refine lv_bipush (v := 38) hx hb dX12_sign_152 (by decide) ?_
                  refine lv_icmp_ne (tgt := 163) hx hb dX12_sign_154 (by decide) (fun c381 => ?_) (fun c381 => ?_)
                  · refine lv_sipush (v := 261) hx hb dX12_sign_163 (by decide) ?_
                    have hz382 : (261 : Int32) = 264 → j + 3 ≤ sz := (fun e8 => absurd e8 (by decide))
                    have hz383 : ¬ (261 : Int32) < 256 → j + 2 ≤ sz := (fun _ => (by have h7 := chin h12 (by rw [← c355, c371]; decide); omega))
                    have hP : va_P G.1 pCl (mW G h0 a (upd F 4 (nI sz)) B) _ := hP
                    have hD : va_D A (mW G h0 a (upd F 4 (nI sz)) B) := mW_D hD
                    exact W.iret (v := 261) hx hb hr (fun t9 ht9 hW9 => ⟨⟨_, (261 : Int32), rfl, ⟨rfl, hz382, hz383⟩, by rw [ht9]; exact hP, hD⟩, hS.F ht9⟩) hS.2.2 dX12_sign_166
                  · refine lv_sipush (v := 260) hx hb dX12_sign_157 (by decide) ?_
                    refine lv_goto (tgt := 166) hx hb dX12_sign_160 (by decide) ?_
                    have hz384 : (260 : Int32) = 264 → j + 3 ≤ sz := (fun e8 => absurd e8 (by decide))
                    have hz385 : ¬ (260 : Int32) < 256 → j + 2 ≤ sz := (fun _ => (by have h7 := chin h12 (by rw [← c355, c371]; decide); omega))
                    have hP : va_P G.1 pCl (mW G h0 a (upd F 4 (nI sz)) B) _ := hP
                    have hD : va_D A (mW G h0 a (upd F 4 (nI sz)) B) := mW_D hD
                    exact W.iret (v := 260) hx hb hr (fun t9 ht9 hW9 => ⟨⟨_, (260 : Int32), rfl, ⟨rfl, hz384, hz385⟩, by rw [ht9]; exact hP, hD⟩, hS.F ht9⟩) hS.2.2 dX12_sign_166
          · refine lv_iload_n hx hb dX12_sign_70 rfl (lv_at hl 1 rfl) ?_
            refine lv_bipush (v := 60) hx hb dX12_sign_71 (by decide) ?_
            refine lv_icmp_eq (tgt := 94) hx hb dX12_sign_73 (by decide) (fun c386 => ?_) (fun c386 => ?_)
            · refine lv_iload_n hx hb dX12_sign_94 rfl (lv_at hl 1 rfl) ?_
              refine lv_bipush (v := 60) hx hb dX12_sign_95 (by decide) ?_
              refine lv_icmp_ne (tgt := 106) hx hb dX12_sign_97 (by decide) (fun c387 => ?_) (fun c387 => ?_)
              · refine lv_iload_n hx hb dX12_sign_106 rfl (lv_at hl 1 rfl) ?_
                refine lv_bipush (v := 62) hx hb dX12_sign_107 (by decide) ?_
                refine lv_icmp_ne (tgt := 118) hx hb dX12_sign_109 (by decide) (fun c388 => ?_) (fun c388 => ?_)
                · refine lv_iload_n hx hb dX12_sign_118 rfl (lv_at hl 1 rfl) ?_
                  refine lv_bipush (v := 61) hx hb dX12_sign_119 (by decide) ?_
                  refine lv_icmp_ne (tgt := 130) hx hb dX12_sign_121 (by decide) (fun c389 => ?_) (fun c389 => ?_)
                  · refine lv_sipush (v := 259) hx hb dX12_sign_130 (by decide) ?_
                    have hz390 : (259 : Int32) = 264 → j + 3 ≤ sz := (fun e8 => absurd e8 (by decide))
                    have hz391 : ¬ (259 : Int32) < 256 → j + 2 ≤ sz := (fun _ => (by have h7 := chin h12 (by rw [c354]; decide); omega))
                    have hP : va_P G.1 pCl (mW G h0 a (upd F 4 (nI sz)) B) _ := hP
                    have hD : va_D A (mW G h0 a (upd F 4 (nI sz)) B) := mW_D hD
                    exact W.iret (v := 259) hx hb hr (fun t9 ht9 hW9 => ⟨⟨_, (259 : Int32), rfl, ⟨rfl, hz390, hz391⟩, by rw [ht9]; exact hP, hD⟩, hS.F ht9⟩) hS.2.2 dX12_sign_133
                  · refine lv_sipush (v := 258) hx hb dX12_sign_124 (by decide) ?_
                    refine lv_goto (tgt := 133) hx hb dX12_sign_127 (by decide) ?_
                    have hz392 : (258 : Int32) = 264 → j + 3 ≤ sz := (fun e8 => absurd e8 (by decide))
                    have hz393 : ¬ (258 : Int32) < 256 → j + 2 ≤ sz := (fun _ => (by have h7 := chin h12 (by rw [c354]; decide); omega))
                    have hP : va_P G.1 pCl (mW G h0 a (upd F 4 (nI sz)) B) _ := hP
                    have hD : va_D A (mW G h0 a (upd F 4 (nI sz)) B) := mW_D hD
                    exact W.iret (v := 258) hx hb hr (fun t9 ht9 hW9 => ⟨⟨_, (258 : Int32), rfl, ⟨rfl, hz392, hz393⟩, by rw [ht9]; exact hP, hD⟩, hS.F ht9⟩) hS.2.2 dX12_sign_133
                · refine lv_sipush (v := 257) hx hb dX12_sign_112 (by decide) ?_
                  refine lv_goto (tgt := 133) hx hb dX12_sign_115 (by decide) ?_
                  have hz394 : (257 : Int32) = 264 → j + 3 ≤ sz := (fun e8 => absurd e8 (by decide))
                  have hz395 : ¬ (257 : Int32) < 256 → j + 2 ≤ sz := (fun _ => (by have h7 := chin h12 (by rw [c354]; decide); omega))
                  have hP : va_P G.1 pCl (mW G h0 a (upd F 4 (nI sz)) B) _ := hP
                  have hD : va_D A (mW G h0 a (upd F 4 (nI sz)) B) := mW_D hD
                  exact W.iret (v := 257) hx hb hr (fun t9 ht9 hW9 => ⟨⟨_, (257 : Int32), rfl, ⟨rfl, hz394, hz395⟩, by rw [ht9]; exact hP, hD⟩, hS.F ht9⟩) hS.2.2 dX12_sign_133
              · refine lv_sipush (v := 256) hx hb dX12_sign_100 (by decide) ?_
                refine lv_goto (tgt := 133) hx hb dX12_sign_103 (by decide) ?_
                have hz396 : (256 : Int32) = 264 → j + 3 ≤ sz := (fun e8 => absurd e8 (by decide))
                have hz397 : ¬ (256 : Int32) < 256 → j + 2 ≤ sz := (fun _ => (by have h7 := chin h12 (by rw [c354]; decide); omega))
                have hP : va_P G.1 pCl (mW G h0 a (upd F 4 (nI sz)) B) _ := hP
                have hD : va_D A (mW G h0 a (upd F 4 (nI sz)) B) := mW_D hD
                exact W.iret (v := 256) hx hb hr (fun t9 ht9 hW9 => ⟨⟨_, (256 : Int32), rfl, ⟨rfl, hz396, hz397⟩, by rw [ht9]; exact hP, hD⟩, hS.F ht9⟩) hS.2.2 dX12_sign_133
            · refine lv_iload_n hx hb dX12_sign_76 rfl (lv_at hl 1 rfl) ?_
              refine lv_bipush (v := 62) hx hb dX12_sign_77 (by decide) ?_
              refine lv_icmp_eq (tgt := 94) hx hb dX12_sign_79 (by decide) (fun c398 => ?_) (fun c398 => ?_)
              · refine lv_iload_n hx hb dX12_sign_94 rfl (lv_at hl 1 rfl) ?_
                refine lv_bipush (v := 60) hx hb dX12_sign_95 (by decide) ?_
                refine lv_icmp_ne (tgt := 106) hx hb dX12_sign_97 (by decide) (fun c399 => ?_) (fun c399 => ?_)
                · refine lv_iload_n hx hb dX12_sign_106 rfl (lv_at hl 1 rfl) ?_
                  refine lv_bipush (v := 62) hx hb dX12_sign_107 (by decide) ?_
                  refine lv_icmp_ne (tgt := 118) hx hb dX12_sign_109 (by decide) (fun c400 => ?_) (fun c400 => ?_)
                  · refine lv_iload_n hx hb dX12_sign_118 rfl (lv_at hl 1 rfl) ?_
                    refine lv_bipush (v := 61) hx hb dX12_sign_119 (by decide) ?_
                    refine lv_icmp_ne (tgt := 130) hx hb dX12_sign_121 (by decide) (fun c401 => ?_) (fun c401 => ?_)
                    · refine lv_sipush (v := 259) hx hb dX12_sign_130 (by decide) ?_
                      have hz402 : (259 : Int32) = 264 → j + 3 ≤ sz := (fun e8 => absurd e8 (by decide))
                      have hz403 : ¬ (259 : Int32) < 256 → j + 2 ≤ sz := (fun _ => (by have h7 := chin h12 (by rw [c354]; decide); omega))
                      have hP : va_P G.1 pCl (mW G h0 a (upd F 4 (nI sz)) B) _ := hP
                      have hD : va_D A (mW G h0 a (upd F 4 (nI sz)) B) := mW_D hD
                      exact W.iret (v := 259) hx hb hr (fun t9 ht9 hW9 => ⟨⟨_, (259 : Int32), rfl, ⟨rfl, hz402, hz403⟩, by rw [ht9]; exact hP, hD⟩, hS.F ht9⟩) hS.2.2 dX12_sign_133
                    · refine lv_sipush (v := 258) hx hb dX12_sign_124 (by decide) ?_
                      refine lv_goto (tgt := 133) hx hb dX12_sign_127 (by decide) ?_
                      have hz404 : (258 : Int32) = 264 → j + 3 ≤ sz := (fun e8 => absurd e8 (by decide))
                      have hz405 : ¬ (258 : Int32) < 256 → j + 2 ≤ sz := (fun _ => (by have h7 := chin h12 (by rw [c354]; decide); omega))
                      have hP : va_P G.1 pCl (mW G h0 a (upd F 4 (nI sz)) B) _ := hP
                      have hD : va_D A (mW G h0 a (upd F 4 (nI sz)) B) := mW_D hD
                      exact W.iret (v := 258) hx hb hr (fun t9 ht9 hW9 => ⟨⟨_, (258 : Int32), rfl, ⟨rfl, hz404, hz405⟩, by rw [ht9]; exact hP, hD⟩, hS.F ht9⟩) hS.2.2 dX12_sign_133
                  · refine lv_sipush (v := 257) hx hb dX12_sign_112 (by decide) ?_
                    refine lv_goto (tgt := 133) hx hb dX12_sign_115 (by decide) ?_
                    have hz406 : (257 : Int32) = 264 → j + 3 ≤ sz := (fun e8 => absurd e8 (by decide))
                    have hz407 : ¬ (257 : Int32) < 256 → j + 2 ≤ sz := (fun _ => (by have h7 := chin h12 (by rw [c354]; decide); omega))
                    have hP : va_P G.1 pCl (mW G h0 a (upd F 4 (nI sz)) B) _ := hP
                    have hD : va_D A (mW G h0 a (upd F 4 (nI sz)) B) := mW_D hD
                    exact W.iret (v := 257) hx hb hr (fun t9 ht9 hW9 => ⟨⟨_, (257 : Int32), rfl, ⟨rfl, hz406, hz407⟩, by rw [ht9]; exact hP, hD⟩, hS.F ht9⟩) hS.2.2 dX12_sign_133
                · refine lv_sipush (v := 256) hx hb dX12_sign_100 (by decide) ?_
                  refine lv_goto (tgt := 133) hx hb dX12_sign_103 (by decide) ?_
                  have hz408 : (256 : Int32) = 264 → j + 3 ≤ sz := (fun e8 => absurd e8 (by decide))
                  have hz409 : ¬ (256 : Int32) < 256 → j + 2 ≤ sz := (fun _ => (by have h7 := chin h12 (by rw [c354]; decide); omega))
                  have hP : va_P G.1 pCl (mW G h0 a (upd F 4 (nI sz)) B) _ := hP
                  have hD : va_D A (mW G h0 a (upd F 4 (nI sz)) B) := mW_D hD
                  exact W.iret (v := 256) hx hb hr (fun t9 ht9 hW9 => ⟨⟨_, (256 : Int32), rfl, ⟨rfl, hz408, hz409⟩, by rw [ht9]; exact hP, hD⟩, hS.F ht9⟩) hS.2.2 dX12_sign_133
              · refine lv_iload_n hx hb dX12_sign_82 rfl (lv_at hl 1 rfl) ?_
                refine lv_bipush (v := 61) hx hb dX12_sign_83 (by decide) ?_
                refine lv_icmp_eq (tgt := 94) hx hb dX12_sign_85 (by decide) (fun c410 => ?_) (fun c410 => ?_)
                · refine lv_iload_n hx hb dX12_sign_94 rfl (lv_at hl 1 rfl) ?_
                  refine lv_bipush (v := 60) hx hb dX12_sign_95 (by decide) ?_
                  refine lv_icmp_ne (tgt := 106) hx hb dX12_sign_97 (by decide) (fun c411 => ?_) (fun c411 => ?_)
                  · refine lv_iload_n hx hb dX12_sign_106 rfl (lv_at hl 1 rfl) ?_
                    refine lv_bipush (v := 62) hx hb dX12_sign_107 (by decide) ?_
                    refine lv_icmp_ne (tgt := 118) hx hb dX12_sign_109 (by decide) (fun c412 => ?_) (fun c412 => ?_)
                    · refine lv_iload_n hx hb dX12_sign_118 rfl (lv_at hl 1 rfl) ?_
                      refine lv_bipush (v := 61) hx hb dX12_sign_119 (by decide) ?_
                      refine lv_icmp_ne (tgt := 130) hx hb dX12_sign_121 (by decide) (fun c413 => ?_) (fun c413 => ?_)
                      · refine lv_sipush (v := 259) hx hb dX12_sign_130 (by decide) ?_
                        have hz414 : (259 : Int32) = 264 → j + 3 ≤ sz := (fun e8 => absurd e8 (by decide))
                        have hz415 : ¬ (259 : Int32) < 256 → j + 2 ≤ sz := (fun _ => (by have h7 := chin h12 (by rw [c354]; decide); omega))
                        have hP : va_P G.1 pCl (mW G h0 a (upd F 4 (nI sz)) B) _ := hP
                        have hD : va_D A (mW G h0 a (upd F 4 (nI sz)) B) := mW_D hD
                        exact W.iret (v := 259) hx hb hr (fun t9 ht9 hW9 => ⟨⟨_, (259 : Int32), rfl, ⟨rfl, hz414, hz415⟩, by rw [ht9]; exact hP, hD⟩, hS.F ht9⟩) hS.2.2 dX12_sign_133
                      · refine lv_sipush (v := 258) hx hb dX12_sign_124 (by decide) ?_
                        refine lv_goto (tgt := 133) hx hb dX12_sign_127 (by decide) ?_
                        have hz416 : (258 : Int32) = 264 → j + 3 ≤ sz := (fun e8 => absurd e8 (by decide))
                        have hz417 : ¬ (258 : Int32) < 256 → j + 2 ≤ sz := (fun _ => (by have h7 := chin h12 (by rw [c354]; decide); omega))
                        have hP : va_P G.1 pCl (mW G h0 a (upd F 4 (nI sz)) B) _ := hP
                        have hD : va_D A (mW G h0 a (upd F 4 (nI sz)) B) := mW_D hD
                        exact W.iret (v := 258) hx hb hr (fun t9 ht9 hW9 => ⟨⟨_, (258 : Int32), rfl, ⟨rfl, hz416, hz417⟩, by rw [ht9]; exact hP, hD⟩, hS.F ht9⟩) hS.2.2 dX12_sign_133
                    · refine lv_sipush (v := 257) hx hb dX12_sign_112 (by decide) ?_
                      refine lv_goto (tgt := 133) hx hb dX12_sign_115 (by decide) ?_
                      have hz418 : (257 : Int32) = 264 → j + 3 ≤ sz := (fun e8 => absurd e8 (by decide))
                      have hz419 : ¬ (257 : Int32) < 256 → j + 2 ≤ sz := (fun _ => (by have h7 := chin h12 (by rw [c354]; decide); omega))
                      have hP : va_P G.1 pCl (mW G h0 a (upd F 4 (nI sz)) B) _ := hP
                      have hD : va_D A (mW G h0 a (upd F 4 (nI sz)) B) := mW_D hD
                      exact W.iret (v := 257) hx hb hr (fun t9 ht9 hW9 => ⟨⟨_, (257 : Int32), rfl, ⟨rfl, hz418, hz419⟩, by rw [ht9]; exact hP, hD⟩, hS.F ht9⟩) hS.2.2 dX12_sign_133
                  · refine lv_sipush (v := 256) hx hb dX12_sign_100 (by decide) ?_
                    refine lv_goto (tgt := 133) hx hb dX12_sign_103 (by decide) ?_
                    have hz420 : (256 : Int32) = 264 → j + 3 ≤ sz := (fun e8 => absurd e8 (by decide))
                    have hz421 : ¬ (256 : Int32) < 256 → j + 2 ≤ sz := (fun _ => (by have h7 := chin h12 (by rw [c354]; decide); omega))
                    have hP : va_P G.1 pCl (mW G h0 a (upd F 4 (nI sz)) B) _ := hP
                    have hD : va_D A (mW G h0 a (upd F 4 (nI sz)) B) := mW_D hD
                    exact W.iret (v := 256) hx hb hr (fun t9 ht9 hW9 => ⟨⟨_, (256 : Int32), rfl, ⟨rfl, hz420, hz421⟩, by rw [ht9]; exact hP, hD⟩, hS.F ht9⟩) hS.2.2 dX12_sign_133
                · refine lv_iload_n hx hb dX12_sign_88 rfl (lv_at hl 1 rfl) ?_
                  refine lv_bipush (v := 33) hx hb dX12_sign_89 (by decide) ?_
                  refine lv_icmp_ne (tgt := 134) hx hb dX12_sign_91 (by decide) (fun c422 => ?_) (fun c422 => ?_)
                  · refine lv_iload_n hx hb dX12_sign_134 rfl (lv_at hl 1 rfl) ?_
                    refine lv_iload_n hx hb dX12_sign_135 rfl (lv_at hl 0 rfl) ?_
                    refine lv_icmp_ne (tgt := 167) hx hb dX12_sign_136 (by decide) (fun c423 => ?_) (fun c423 => ?_)
                    · refine pn_ldcSW (q := G.2.2.1 16) hx hb hown hE.al dX12_sign_167 ?_
                      refine lv_iload_n hx hb dX12_sign_170 rfl (lv_at hl 1 rfl) ?_
                      refine pc_VN (G := G) (As := [.int r4]) (rest := []) hx hb hml hown hq hE hX pX0_al hP hS hA hl.1 (c_indexOf1 l G 16 r4 (by decide)) (gV pw_1564 pw_1565 pw_1566 pw_1214 pw_1560) hV_J0_indexOf_0f7a4 (vk_recv hE.2.1 (by decide) hS) rfl (Nat.le_of_ble_eq_true rfl) dX12_sign_171 ⟨Nat.le_of_ble_eq_true rfl, Nat.le_of_ble_eq_true rfl⟩ ⟨Nat.le_of_ble_eq_true rfl, Nat.le_of_ble_eq_true rfl⟩ (fun v426 u424 H locs hw425 hP hS => ?_)
                      obtain ⟨x427, rfl⟩ := hw425
                      refine W.widen (k := 0) (n := 0) (Nat.le_of_ble_eq_true rfl) (Nat.le_of_ble_eq_true rfl) ?_
                      refine W.eq (g2 := F0 m 174 ls [.int x427]) rfl ?_
                      refine lv_if_lt (tgt := 181) hx hb dX12_sign_174 (by decide) (fun c428 => ?_) (fun c428 => ?_)
                      · refine lv_iconst (v := 3) hx hb dX12_sign_181 (by decide) ?_
                        have hz429 : (3 : Int32) = 264 → j + 3 ≤ sz := (fun e8 => absurd e8 (by decide))
                        have hz430 : ¬ (3 : Int32) < 256 → j + 2 ≤ sz := (fun h8 => absurd (by decide) h8)
                        have hP : va_P G.1 pCl (mW G h0 a (upd F 4 (nI sz)) B) _ := hP
                        have hD : va_D A (mW G h0 a (upd F 4 (nI sz)) B) := mW_D hD
                        exact W.iret (v := 3) hx hb hr (fun t9 ht9 hW9 => ⟨⟨_, (3 : Int32), rfl, ⟨rfl, hz429, hz430⟩, by rw [ht9]; exact hP, hD⟩, hS.F ht9⟩) hS.2.2 dX12_sign_182
                      · refine lv_iload_n hx hb dX12_sign_177 rfl (lv_at hl 1 rfl) ?_
                        refine lv_goto (tgt := 182) hx hb dX12_sign_178 (by decide) ?_
                        have hlt9 : r4 < 256 := chlt htx hj h5
                        have hz431 : r4 = 264 → j + 3 ≤ sz := (fun e8 => absurd hlt9 (by rw [e8]; decide))
                        have hz432 : ¬ r4 < 256 → j + 2 ≤ sz := (fun h8 => absurd hlt9 h8)
                        have hP : va_P G.1 pCl (mW G h0 a (upd F 4 (nI sz)) B) _ := hP
                        have hD : va_D A (mW G h0 a (upd F 4 (nI sz)) B) := mW_D hD
                        exact W.iret (v := r4) hx hb hr (fun t9 ht9 hW9 => ⟨⟨_, r4, rfl, ⟨rfl, hz431, hz432⟩, by rw [ht9]; exact hP, hD⟩, hS.F ht9⟩) hS.2.2 dX12_sign_182
                    · refine lv_iload_n hx hb dX12_sign_139 rfl (lv_at hl 1 rfl) ?_
                      refine lv_bipush (v := 38) hx hb dX12_sign_140 (by decide) ?_
                      refine lv_icmp_eq (tgt := 151) hx hb dX12_sign_142 (by decide) (fun c433 => ?_) (fun c433 => ?_)
                      · refine lv_iload_n hx hb dX12_sign_151 rfl (lv_at hl 1 rfl) ?_
                        refine lv_bipush (v := 38) hx hb dX12_sign_152 (by decide) ?_
                        refine lv_icmp_ne (tgt := 163) hx hb dX12_sign_154 (by decide) (fun c434 => ?_) (fun c434 => ?_)
                        · refine lv_sipush (v := 261) hx hb dX12_sign_163 (by decide) ?_
                          have hz435 : (261 : Int32) = 264 → j + 3 ≤ sz := (fun e8 => absurd e8 (by decide))
                          have hz436 : ¬ (261 : Int32) < 256 → j + 2 ≤ sz := (fun _ => (by have h7 := chin h12 (by rw [← c423, c433]; decide); omega))
                          have hP : va_P G.1 pCl (mW G h0 a (upd F 4 (nI sz)) B) _ := hP
                          have hD : va_D A (mW G h0 a (upd F 4 (nI sz)) B) := mW_D hD
                          exact W.iret (v := 261) hx hb hr (fun t9 ht9 hW9 => ⟨⟨_, (261 : Int32), rfl, ⟨rfl, hz435, hz436⟩, by rw [ht9]; exact hP, hD⟩, hS.F ht9⟩) hS.2.2 dX12_sign_166
                        · refine lv_sipush (v := 260) hx hb dX12_sign_157 (by decide) ?_
                          refine lv_goto (tgt := 166) hx hb dX12_sign_160 (by decide) ?_
                          have hz437 : (260 : Int32) = 264 → j + 3 ≤ sz := (fun e8 => absurd e8 (by decide))
                          have hz438 : ¬ (260 : Int32) < 256 → j + 2 ≤ sz := (fun _ => (by have h7 := chin h12 (by rw [← c423, c433]; decide); omega))
                          have hP : va_P G.1 pCl (mW G h0 a (upd F 4 (nI sz)) B) _ := hP
                          have hD : va_D A (mW G h0 a (upd F 4 (nI sz)) B) := mW_D hD
                          exact W.iret (v := 260) hx hb hr (fun t9 ht9 hW9 => ⟨⟨_, (260 : Int32), rfl, ⟨rfl, hz437, hz438⟩, by rw [ht9]; exact hP, hD⟩, hS.F ht9⟩) hS.2.2 dX12_sign_166
                      · refine lv_iload_n hx hb dX12_sign_145 rfl (lv_at hl 1 rfl) ?_
                        refine lv_bipush (v := 124) hx hb dX12_sign_146 (by decide) ?_
                        refine lv_icmp_ne (tgt := 167) hx hb dX12_sign_148 (by decide) (fun c439 => ?_) (fun c439 => ?_)
                        · refine pn_ldcSW (q := G.2.2.1 16) hx hb hown hE.al dX12_sign_167 ?_
                          refine lv_iload_n hx hb dX12_sign_170 rfl (lv_at hl 1 rfl) ?_
                          refine pc_VN (G := G) (As := [.int r4]) (rest := []) hx hb hml hown hq hE hX pX0_al hP hS hA hl.1 (c_indexOf1 l G 16 r4 (by decide)) (gV pw_1564 pw_1565 pw_1566 pw_1214 pw_1560) hV_J0_indexOf_0f7a4 (vk_recv hE.2.1 (by decide) hS) rfl (Nat.le_of_ble_eq_true rfl) dX12_sign_171 ⟨Nat.le_of_ble_eq_true rfl, Nat.le_of_ble_eq_true rfl⟩ ⟨Nat.le_of_ble_eq_true rfl, Nat.le_of_ble_eq_true rfl⟩ (fun v442 u440 H locs hw441 hP hS => ?_)
                          obtain ⟨x443, rfl⟩ := hw441
                          refine W.widen (k := 0) (n := 0) (Nat.le_of_ble_eq_true rfl) (Nat.le_of_ble_eq_true rfl) ?_
                          refine W.eq (g2 := F0 m 174 ls [.int x443]) rfl ?_
                          refine lv_if_lt (tgt := 181) hx hb dX12_sign_174 (by decide) (fun c444 => ?_) (fun c444 => ?_)
                          · refine lv_iconst (v := 3) hx hb dX12_sign_181 (by decide) ?_
                            have hz445 : (3 : Int32) = 264 → j + 3 ≤ sz := (fun e8 => absurd e8 (by decide))
                            have hz446 : ¬ (3 : Int32) < 256 → j + 2 ≤ sz := (fun h8 => absurd (by decide) h8)
                            have hP : va_P G.1 pCl (mW G h0 a (upd F 4 (nI sz)) B) _ := hP
                            have hD : va_D A (mW G h0 a (upd F 4 (nI sz)) B) := mW_D hD
                            exact W.iret (v := 3) hx hb hr (fun t9 ht9 hW9 => ⟨⟨_, (3 : Int32), rfl, ⟨rfl, hz445, hz446⟩, by rw [ht9]; exact hP, hD⟩, hS.F ht9⟩) hS.2.2 dX12_sign_182
                          · refine lv_iload_n hx hb dX12_sign_177 rfl (lv_at hl 1 rfl) ?_
                            refine lv_goto (tgt := 182) hx hb dX12_sign_178 (by decide) ?_
                            have hlt9 : r4 < 256 := chlt htx hj h5
                            have hz447 : r4 = 264 → j + 3 ≤ sz := (fun e8 => absurd hlt9 (by rw [e8]; decide))
                            have hz448 : ¬ r4 < 256 → j + 2 ≤ sz := (fun h8 => absurd hlt9 h8)
                            have hP : va_P G.1 pCl (mW G h0 a (upd F 4 (nI sz)) B) _ := hP
                            have hD : va_D A (mW G h0 a (upd F 4 (nI sz)) B) := mW_D hD
                            exact W.iret (v := r4) hx hb hr (fun t9 ht9 hW9 => ⟨⟨_, r4, rfl, ⟨rfl, hz447, hz448⟩, by rw [ht9]; exact hP, hD⟩, hS.F ht9⟩) hS.2.2 dX12_sign_182
                        · refine lv_iload_n hx hb dX12_sign_151 rfl (lv_at hl 1 rfl) ?_
                          refine lv_bipush (v := 38) hx hb dX12_sign_152 (by decide) ?_
                          refine lv_icmp_ne (tgt := 163) hx hb dX12_sign_154 (by decide) (fun c449 => ?_) (fun c449 => ?_)
                          · refine lv_sipush (v := 261) hx hb dX12_sign_163 (by decide) ?_
                            have hz450 : (261 : Int32) = 264 → j + 3 ≤ sz := (fun e8 => absurd e8 (by decide))
                            have hz451 : ¬ (261 : Int32) < 256 → j + 2 ≤ sz := (fun _ => (by have h7 := chin h12 (by rw [← c423, c439]; decide); omega))
                            have hP : va_P G.1 pCl (mW G h0 a (upd F 4 (nI sz)) B) _ := hP
                            have hD : va_D A (mW G h0 a (upd F 4 (nI sz)) B) := mW_D hD
                            exact W.iret (v := 261) hx hb hr (fun t9 ht9 hW9 => ⟨⟨_, (261 : Int32), rfl, ⟨rfl, hz450, hz451⟩, by rw [ht9]; exact hP, hD⟩, hS.F ht9⟩) hS.2.2 dX12_sign_166
                          · refine lv_sipush (v := 260) hx hb dX12_sign_157 (by decide) ?_
                            refine lv_goto (tgt := 166) hx hb dX12_sign_160 (by decide) ?_
                            have hz452 : (260 : Int32) = 264 → j + 3 ≤ sz := (fun e8 => absurd e8 (by decide))
                            have hz453 : ¬ (260 : Int32) < 256 → j + 2 ≤ sz := (fun _ => (by have h7 := chin h12 (by rw [← c423, c439]; decide); omega))
                            have hP : va_P G.1 pCl (mW G h0 a (upd F 4 (nI sz)) B) _ := hP
                            have hD : va_D A (mW G h0 a (upd F 4 (nI sz)) B) := mW_D hD
                            exact W.iret (v := 260) hx hb hr (fun t9 ht9 hW9 => ⟨⟨_, (260 : Int32), rfl, ⟨rfl, hz452, hz453⟩, by rw [ht9]; exact hP, hD⟩, hS.F ht9⟩) hS.2.2 dX12_sign_166
                  · refine lv_iload_n hx hb dX12_sign_94 rfl (lv_at hl 1 rfl) ?_
                    refine lv_bipush (v := 60) hx hb dX12_sign_95 (by decide) ?_
                    refine lv_icmp_ne (tgt := 106) hx hb dX12_sign_97 (by decide) (fun c454 => ?_) (fun c454 => ?_)
                    · refine lv_iload_n hx hb dX12_sign_106 rfl (lv_at hl 1 rfl) ?_
                      refine lv_bipush (v := 62) hx hb dX12_sign_107 (by decide) ?_
                      refine lv_icmp_ne (tgt := 118) hx hb dX12_sign_109 (by decide) (fun c455 => ?_) (fun c455 => ?_)
                      · refine lv_iload_n hx hb dX12_sign_118 rfl (lv_at hl 1 rfl) ?_
                        refine lv_bipush (v := 61) hx hb dX12_sign_119 (by decide) ?_
                        refine lv_icmp_ne (tgt := 130) hx hb dX12_sign_121 (by decide) (fun c456 => ?_) (fun c456 => ?_)
                        · refine lv_sipush (v := 259) hx hb dX12_sign_130 (by decide) ?_
                          have hz457 : (259 : Int32) = 264 → j + 3 ≤ sz := (fun e8 => absurd e8 (by decide))
                          have hz458 : ¬ (259 : Int32) < 256 → j + 2 ≤ sz := (fun _ => (by have h7 := chin h12 (by rw [c354]; decide); omega))
                          have hP : va_P G.1 pCl (mW G h0 a (upd F 4 (nI sz)) B) _ := hP
                          have hD : va_D A (mW G h0 a (upd F 4 (nI sz)) B) := mW_D hD
                          exact W.iret (v := 259) hx hb hr (fun t9 ht9 hW9 => ⟨⟨_, (259 : Int32), rfl, ⟨rfl, hz457, hz458⟩, by rw [ht9]; exact hP, hD⟩, hS.F ht9⟩) hS.2.2 dX12_sign_133
                        · refine lv_sipush (v := 258) hx hb dX12_sign_124 (by decide) ?_
                          refine lv_goto (tgt := 133) hx hb dX12_sign_127 (by decide) ?_
                          have hz459 : (258 : Int32) = 264 → j + 3 ≤ sz := (fun e8 => absurd e8 (by decide))
                          have hz460 : ¬ (258 : Int32) < 256 → j + 2 ≤ sz := (fun _ => (by have h7 := chin h12 (by rw [c354]; decide); omega))
                          have hP : va_P G.1 pCl (mW G h0 a (upd F 4 (nI sz)) B) _ := hP
                          have hD : va_D A (mW G h0 a (upd F 4 (nI sz)) B) := mW_D hD
                          exact W.iret (v := 258) hx hb hr (fun t9 ht9 hW9 => ⟨⟨_, (258 : Int32), rfl, ⟨rfl, hz459, hz460⟩, by rw [ht9]; exact hP, hD⟩, hS.F ht9⟩) hS.2.2 dX12_sign_133
                      · refine lv_sipush (v := 257) hx hb dX12_sign_112 (by decide) ?_
                        refine lv_goto (tgt := 133) hx hb dX12_sign_115 (by decide) ?_
                        have hz461 : (257 : Int32) = 264 → j + 3 ≤ sz := (fun e8 => absurd e8 (by decide))
                        have hz462 : ¬ (257 : Int32) < 256 → j + 2 ≤ sz := (fun _ => (by have h7 := chin h12 (by rw [c354]; decide); omega))
                        have hP : va_P G.1 pCl (mW G h0 a (upd F 4 (nI sz)) B) _ := hP
                        have hD : va_D A (mW G h0 a (upd F 4 (nI sz)) B) := mW_D hD
                        exact W.iret (v := 257) hx hb hr (fun t9 ht9 hW9 => ⟨⟨_, (257 : Int32), rfl, ⟨rfl, hz461, hz462⟩, by rw [ht9]; exact hP, hD⟩, hS.F ht9⟩) hS.2.2 dX12_sign_133
                    · refine lv_sipush (v := 256) hx hb dX12_sign_100 (by decide) ?_
                      refine lv_goto (tgt := 133) hx hb dX12_sign_103 (by decide) ?_
                      have hz463 : (256 : Int32) = 264 → j + 3 ≤ sz := (fun e8 => absurd e8 (by decide))
                      have hz464 : ¬ (256 : Int32) < 256 → j + 2 ≤ sz := (fun _ => (by have h7 := chin h12 (by rw [c354]; decide); omega))
                      have hP : va_P G.1 pCl (mW G h0 a (upd F 4 (nI sz)) B) _ := hP
                      have hD : va_D A (mW G h0 a (upd F 4 (nI sz)) B) := mW_D hD
                      exact W.iret (v := 256) hx hb hr (fun t9 ht9 hW9 => ⟨⟨_, (256 : Int32), rfl, ⟨rfl, hz463, hz464⟩, by rw [ht9]; exact hP, hD⟩, hS.F ht9⟩) hS.2.2 dX12_sign_133
        · refine lv_sipush (v := 262) hx hb dX12_sign_60 (by decide) ?_
          have hz465 : (262 : Int32) = 264 → j + 3 ≤ sz := (fun e8 => absurd e8 (by decide))
          have hz466 : ¬ (262 : Int32) < 256 → j + 2 ≤ sz := (fun _ => (by have h7 := chin h12 (by rw [c353]; decide); omega))
          have hP : va_P G.1 pCl (mW G h0 a (upd F 4 (nI sz)) B) _ := hP
          have hD : va_D A (mW G h0 a (upd F 4 (nI sz)) B) := mW_D hD
          exact W.iret (v := 262) hx hb hr (fun t9 ht9 hW9 => ⟨⟨_, (262 : Int32), rfl, ⟨rfl, hz465, hz466⟩, by rw [ht9]; exact hP, hD⟩, hS.F ht9⟩) hS.2.2 dX12_sign_63
    · refine lv_aload_n hx hb dX12_sign_26 rfl (lv_at hl 2 rfl) ?_
      refine lv_iload_n hx hb dX12_sign_27 rfl (lv_at hl 3 rfl) ?_
      refine lv_iconst (v := 2) hx hb dX12_sign_28 (by decide) ?_
      refine lv_iadd hx hb dX12_sign_29 ?_
      refine lv_topi (fun x467 e468 => ?_)
      obtain rfl : x467 = nI (j + 2) := e468.trans (nI_add (j) (2))
      have hP : va_P G.1 pCl (mW G h0 a (upd (upd F 4 (nI sz)) 4 (nI sz)) B) _ := mW_to (F := F) (l1 := [(4, (nI sz))]) (l2 := [(4, (nI sz)), (4, (nI sz))]) (V := [(nI sz), (nI sz), (nI sz)]) rfl rfl rfl hP
      have hD : va_D A (mW G h0 a (upd (upd F 4 (nI sz)) 4 (nI sz)) B) := mW_D hD
      refine pc_V0 (G := G) (As := [.int (nI (j + 2))]) (rest := []) hx hb hml hown hq hE hX pX0_al hP hD hS hA hl.1 (R_ch l G h0 a (upd F 4 (nI sz)) B (j + 2) sz (by omega) (by omega)) (gV pw_1561 pw_1562 pw_1563 pw_1523 pw_1518) hV_X12_ch 0 9 rfl rfl rfl rfl (Nat.le_of_ble_eq_true rfl) dX12_sign_30 ⟨Nat.le_of_ble_eq_true rfl, Nat.le_of_ble_eq_true rfl⟩ ⟨Nat.le_of_ble_eq_true rfl, Nat.le_of_ble_eq_true rfl⟩ (fun v471 u469 H locs hw470 hP hD hS => ?_)
      obtain ⟨r472, rfl⟩ : ∃ z, z = u469 := ⟨_, rfl⟩
      obtain ⟨hw470, h473⟩ := hw470
      have h473 : r472 = (-1) ∨ (j + 2) < sz ∧ r472 = (B 1) (j + 2) := h473
      obtain rfl : v471 = some (.int r472) := hw470
      have hP : va_P G.1 pCl (mW G h0 a (upd F 4 (nI sz)) B) _ := mW_to (F := F) (l1 := [(4, (nI sz)), (4, (nI sz))]) (l2 := [(4, (nI sz))]) (V := [(nI sz), (nI sz), (nI sz)]) rfl rfl rfl hP
      have hD : va_D A (mW G h0 a (upd F 4 (nI sz)) B) := mW_D hD
      refine W.widen (k := 0) (n := 0) (Nat.le_of_ble_eq_true rfl) (Nat.le_of_ble_eq_true rfl) ?_
      refine W.eq (g2 := F0 m 33 ls [.int r472]) rfl ?_
      refine lv_bipush (v := 62) hx hb dX12_sign_33 (by decide) ?_
      refine lv_icmp_ne (tgt := 44) hx hb dX12_sign_35 (by decide) (fun c474 => ?_) (fun c474 => ?_)
      · refine lv_sipush (v := 263) hx hb dX12_sign_44 (by decide) ?_
        have hz475 : (263 : Int32) = 264 → j + 3 ≤ sz := (fun e8 => absurd e8 (by decide))
        have hz476 : ¬ (263 : Int32) < 256 → j + 2 ≤ sz := (fun _ => (by have h7 := chin h12 (by rw [c240]; decide); omega))
        have hP : va_P G.1 pCl (mW G h0 a (upd F 4 (nI sz)) B) _ := hP
        have hD : va_D A (mW G h0 a (upd F 4 (nI sz)) B) := mW_D hD
        exact W.iret (v := 263) hx hb hr (fun t9 ht9 hW9 => ⟨⟨_, (263 : Int32), rfl, ⟨rfl, hz475, hz476⟩, by rw [ht9]; exact hP, hD⟩, hS.F ht9⟩) hS.2.2 dX12_sign_47
      · refine lv_sipush (v := 264) hx hb dX12_sign_38 (by decide) ?_
        refine lv_goto (tgt := 47) hx hb dX12_sign_41 (by decide) ?_
        have hz477 : (264 : Int32) = 264 → j + 3 ≤ sz := (fun _ => (by have h7 := chin h473 (by rw [c474]; decide); omega))
        have hz478 : ¬ (264 : Int32) < 256 → j + 2 ≤ sz := (fun _ => by have := (by have h7 := chin h473 (by rw [c474]; decide); omega); omega)
        have hP : va_P G.1 pCl (mW G h0 a (upd F 4 (nI sz)) B) _ := hP
        have hD : va_D A (mW G h0 a (upd F 4 (nI sz)) B) := mW_D hD
        exact W.iret (v := 264) hx hb hr (fun t9 ht9 hW9 => ⟨⟨_, (264 : Int32), rfl, ⟨rfl, hz477, hz478⟩, by rw [ht9]; exact hP, hD⟩, hS.F ht9⟩) hS.2.2 dX12_sign_47
theorem dX12_built_0 : decode cX12_built 0 = .ok (.aload_n 0, 1) := by decide +kernel
theorem dX12_built_1 : decode cX12_built 1 = .ok (.getfield 28, 3) := by decide +kernel
theorem dX12_built_4 : decode cX12_built 4 = .ok (.aload_n 0, 1) := by decide +kernel
theorem dX12_built_5 : decode cX12_built 5 = .ok (.getfield 277, 3) := by decide +kernel
theorem dX12_built_8 : decode cX12_built 8 = .ok (.aload_n 0, 1) := by decide +kernel
theorem dX12_built_9 : decode cX12_built 9 = .ok (.getfield 280, 3) := by decide +kernel
theorem dX12_built_12 : decode cX12_built 12 = .ok (.iastore, 1) := by decide +kernel
theorem dX12_built_13 : decode cX12_built 13 = .ok (.aload_n 0, 1) := by decide +kernel
theorem dX12_built_14 : decode cX12_built 14 = .ok (.getfield 31, 3) := by decide +kernel
theorem dX12_built_17 : decode cX12_built 17 = .ok (.aload_n 0, 1) := by decide +kernel
theorem dX12_built_18 : decode cX12_built 18 = .ok (.getfield 277, 3) := by decide +kernel
theorem dX12_built_21 : decode cX12_built 21 = .ok (.aload_n 1, 1) := by decide +kernel
theorem dX12_built_22 : decode cX12_built 22 = .ok (.invokevirtual 267, 3) := by decide +kernel
theorem dX12_built_25 : decode cX12_built 25 = .ok (.iastore, 1) := by decide +kernel
theorem dX12_built_26 : decode cX12_built 26 = .ok (.iconst 0, 1) := by decide +kernel
theorem dX12_built_27 : decode cX12_built 27 = .ok (.istore_n 2, 1) := by decide +kernel
theorem dX12_built_28 : decode cX12_built 28 = .ok (.iload_n 2, 1) := by decide +kernel
theorem dX12_built_29 : decode cX12_built 29 = .ok (.aload_n 1, 1) := by decide +kernel
theorem dX12_built_30 : decode cX12_built 30 = .ok (.invokevirtual 267, 3) := by decide +kernel
theorem dX12_built_33 : decode cX12_built 33 = .ok (.if_icmp .ge 34, 3) := by decide +kernel
theorem dX12_built_67 : decode cX12_built 67 = .ok (.aload_n 0, 1) := by decide +kernel
theorem dX12_built_68 : decode cX12_built 68 = .ok (.dup, 1) := by decide +kernel
theorem dX12_built_69 : decode cX12_built 69 = .ok (.getfield 277, 3) := by decide +kernel
theorem dX12_built_72 : decode cX12_built 72 = .ok (.iconst 1, 1) := by decide +kernel
theorem dX12_built_73 : decode cX12_built 73 = .ok (.iadd, 1) := by decide +kernel
theorem dX12_built_74 : decode cX12_built 74 = .ok (.putfield 277, 3) := by decide +kernel
theorem dX12_built_77 : decode cX12_built 77 = .ok (.return_, 1) := by decide +kernel
theorem dX12_built_36 : decode cX12_built 36 = .ok (.aload_n 0, 1) := by decide +kernel
theorem dX12_built_37 : decode cX12_built 37 = .ok (.getfield 34, 3) := by decide +kernel
theorem dX12_built_40 : decode cX12_built 40 = .ok (.aload_n 0, 1) := by decide +kernel
theorem dX12_built_41 : decode cX12_built 41 = .ok (.getfield 280, 3) := by decide +kernel
theorem dX12_built_44 : decode cX12_built 44 = .ok (.aload_n 1, 1) := by decide +kernel
theorem dX12_built_45 : decode cX12_built 45 = .ok (.iload_n 2, 1) := by decide +kernel
theorem dX12_built_46 : decode cX12_built 46 = .ok (.invokevirtual 273, 3) := by decide +kernel
theorem dX12_built_49 : decode cX12_built 49 = .ok (.i2b, 1) := by decide +kernel
theorem dX12_built_50 : decode cX12_built 50 = .ok (.bastore, 1) := by decide +kernel
theorem dX12_built_51 : decode cX12_built 51 = .ok (.aload_n 0, 1) := by decide +kernel
theorem dX12_built_52 : decode cX12_built 52 = .ok (.dup, 1) := by decide +kernel
theorem dX12_built_53 : decode cX12_built 53 = .ok (.getfield 280, 3) := by decide +kernel
theorem dX12_built_56 : decode cX12_built 56 = .ok (.iconst 1, 1) := by decide +kernel
theorem dX12_built_57 : decode cX12_built 57 = .ok (.iadd, 1) := by decide +kernel
theorem dX12_built_58 : decode cX12_built 58 = .ok (.putfield 280, 3) := by decide +kernel
theorem dX12_built_61 : decode cX12_built 61 = .ok (.iinc 2 1, 3) := by decide +kernel
theorem dX12_built_64 : decode cX12_built 64 = .ok (.goto (-36), 3) := by decide +kernel
set_option maxHeartbeats 2000000 in
set_option maxRecDepth 100000 in
/-- built(w) -/
theorem R_built (l : Launch) (G : pT) (h0 : Nat) (a : Nat → Nat) (F : Nat → Int32) (B : Nat → Nat → Int32) (i : Nat) (tb : Nat) (nm : Nat) (us : Nat) (f10 : Nat → Int32) (f11 : Nat → Int32) (f12 : Nat → Int32) (hi : i < 19) (ht : sLen.getD i 0 = tb) (hnm : nm ≤ 100) (hus : us + tb ≤ 1000) (hR : rNm nm us f10 f11) : PM l G pX0 yX12_built cX12_built 3 none ({ frames := 6, cells := 0, slots := 0, locals := 145 }) [.ref h0, .ref (G.2.2.1 i)] (mW G h0 a (upd (upd F 13 (nI us)) 14 (nI nm)) (updA (updA (updA B 6 f10) 7 f11) 8 f12)) (fun (v : Option Value) (u : (Nat → Int32)) => v = none) (fun u => (mW G h0 a (upd (upd F 13 (nI (us + tb))) 14 (nI (nm + 1))) (updA (updA (updA B 6 (upd f10 nm (nI us))) 7 (upd f11 nm (nI tb))) 8 u))) := by
  intro sz
  refine Met.ofW (cc := cX12_built) (maxL := 3) (ret := none) (by decide) rfl ?_
  intro p e s m args below meth c s₁ B9 hml hv
  obtain ⟨rfl, hsz, hP, hD0, hE, hX⟩ := hv
  have hx := B9.exec
  have hb := B9.bytes
  have hr := B9.returns
  have hts := atoms_spec (ws := Cond.code yX12_built cX12_built 3 none :: pw) B9.pre
  have hq : ∀ w ∈ pw, w.before _ s = true := fun w h => hts w (List.mem_cons_of_mem _ h)
  have hown : s.vm.findClass RX12 = some m.cls := findClass_of_methodNamed B9.named
  have hlocks := B9.notSynchronized
  subst hsz
  have hD := hD0.self (sz := s.heap.size)
  have hA : ∀ q : Nat, s.heap.size ≤ q → va_A (mW G h0 a (upd (upd F 13 (nI us)) 14 (nI nm)) (updA (updA (updA B 6 f10) 7 f11) 8 f12)) s.heap.size q := fun q h => Or.inr h
  have hP : va_P G.1 pCl (mW G h0 a (upd (upd F 13 (nI us)) 14 (nI nm)) (updA (updA (updA B 6 f10) 7 f11) 8 f12)) s.heap := hP
  generalize va_A (mW G h0 a (upd (upd F 13 (nI us)) 14 (nI nm)) (updA (updA (updA B 6 f10) 7 f11) 8 f12)) s.heap.size = A at hD hE hA ⊢
  have hS : va_S A s.heap s.heap [] := va_S.rf
  have hl := lv_entry ([.ref h0, .ref (G.2.2.1 i)]) (n := 3) (Nat.le_of_ble_eq_true rfl)
  rw [lg_entry_eq]
  generalize (lg_sl ([.ref h0, .ref (G.2.2.1 i)]) ++ List.replicate (3 - (lg_sl ([.ref h0, .ref (G.2.2.1 i)])).length) Slot.unset).toArray = ls at hl ⊢
  have hl : lv_has ls 3 [(0, .ref h0), (1, .ref (G.2.2.1 i))] := hl
  refine lv_aload_n hx hb dX12_built_0 rfl (lv_at hl 0 rfl) ?_
  refine r_get (v := .ref (a 6)) hx hb hown hq hE hP 10 28 tFX12_10 (by decide) pw_1436 rfl dX12_built_1 ?_
  refine lv_aload_n hx hb dX12_built_4 rfl (lv_at hl 0 rfl) ?_
  refine r_get (v := .int (nI nm)) hx hb hown hq hE hP 14 277 tFX12_14 (by decide) pw_1529 rfl dX12_built_5 ?_
  refine lv_aload_n hx hb dX12_built_8 rfl (lv_at hl 0 rfl) ?_
  refine r_get (v := .int (nI us)) hx hb hown hq hE hP 13 280 tFX12_13 (by decide) pw_1530 rfl dX12_built_9 ?_
  refine r_sti (f := f10) (j := nm) hx hb hE hP hD hS 6 (ma_6 G a _) rfl (mas_6 G a _) (by omega) (by decide) dX12_built_12 (fun H locs hP hD hS => ?_)
  refine lv_aload_n hx hb dX12_built_13 rfl (lv_at hl 0 rfl) ?_
  refine r_get (v := .ref (a 7)) hx hb hown hq hE hP 11 31 tFX12_11 (by decide) pw_1437 rfl dX12_built_14 ?_
  refine lv_aload_n hx hb dX12_built_17 rfl (lv_at hl 0 rfl) ?_
  refine r_get (v := .int (nI nm)) hx hb hown hq hE hP 14 277 tFX12_14 (by decide) pw_1529 rfl dX12_built_18 ?_
  refine lv_aload_n hx hb dX12_built_21 rfl (lv_at hl 1 rfl) ?_
  refine pc_VN (G := G) (As := []) (rest := [.int (nI nm), .ref (a 7)]) hx hb hml hown hq hE hX pX0_al hP hS hA hl.1 (c_length l G i hi) (gV pw_1525 pw_1236 pw_1237 pw_1214 pw_1209) hV_J0_length_8abf5 (vk_recv hE.2.1 hi hS) rfl (Nat.le_of_ble_eq_true rfl) dX12_built_22 ⟨Nat.le_of_ble_eq_true rfl, Nat.le_of_ble_eq_true rfl⟩ ⟨Nat.le_of_ble_eq_true rfl, Nat.le_of_ble_eq_true rfl⟩ (fun v3 u1 H locs hw2 hP hS => ?_)
  obtain rfl : v3 = some (.int (nI (sLen.getD i 0))) := hw2
  refine W.widen (k := 0) (n := 0) (Nat.le_of_ble_eq_true rfl) (Nat.le_of_ble_eq_true rfl) ?_
  refine W.eq (g2 := F0 m 25 ls [.int (nI (sLen.getD i 0)), .int (nI nm), .ref (a 7)]) rfl ?_
  rw [ht]
  refine r_sti (f := f11) (j := nm) hx hb hE hP hD hS 7 (ma_7 G a _) rfl (mas_7 G a _) (by omega) (by decide) dX12_built_25 (fun H locs hP hD hS => ?_)
  refine lv_iconst (v := 0) hx hb dX12_built_26 (by decide) ?_
  refine lv_istore_n (lv' := [(2, .int 0), (0, .ref h0), (1, .ref (G.2.2.1 i))]) hx hb dX12_built_27 rfl hl (by decide) rfl (fun ls hl => ?_)
  have loop_b : ∀ (n_b : Nat) (k : Nat) (gl : Nat → Int32) (H : Heap) (locs : List Loc) (ls : Array Slot), k ≤ tb → tb + 1 ≤ k + n_b → va_P G.1 pCl (mW G h0 a (upd (upd F 13 (nI (us + k))) 14 (nI nm)) (updA (updA (updA B 6 (upd f10 nm (nI us))) 7 (upd f11 nm (nI tb))) 8 gl)) H → va_D A (mW G h0 a (upd (upd F 13 (nI (us + k))) 14 (nI nm)) (updA (updA (updA B 6 (upd f10 nm (nI us))) 7 (upd f11 nm (nI tb))) 8 gl)) → va_S A s.heap H locs → lv_has ls 3 [(2, .int (nI k)), (0, .ref h0), (1, .ref (G.2.2.1 i))] → W p l e (headSpec (Cond.code yX12_built cX12_built 3 none :: pw) ({ frames := 6, cells := 0, slots := 0, locals := 145 } : Room)).room s m ([.ref h0, .ref (G.2.2.1 i)] : List Value).toArray below meth c H locs 0 0 (MQ below (pQ G A (fun (v : Option Value) (u : (Nat → Int32)) => v = none) (fun u => (mW G h0 a (upd (upd F 13 (nI (us + tb))) 14 (nI (nm + 1))) (updA (updA (updA B 6 (upd f10 nm (nI us))) 7 (upd f11 nm (nI tb))) 8 u)))) ([.ref h0, .ref (G.2.2.1 i)] : List Value).toArray s ({ frames := 6, cells := 0, slots := 0, locals := 145 } : Room).cells ({ frames := 6, cells := 0, slots := 0, locals := 145 } : Room).slots A) (F0 m 28 ls []) := by
    intro n_b
    induction n_b with
    | zero => intro k gl H locs ls hk_b hn_b; omega
    | succ n_b ih_b =>
      intro k gl H locs ls hk_b hn_b hP hD hS hl
      refine lv_iload_n hx hb dX12_built_28 rfl (lv_at hl 0 rfl) ?_
      refine lv_aload_n hx hb dX12_built_29 rfl (lv_at hl 2 rfl) ?_
      refine pc_VN (G := G) (As := []) (rest := [.int (nI k)]) hx hb hml hown hq hE hX pX0_al hP hS hA hl.1 (c_length l G i hi) (gV pw_1525 pw_1236 pw_1237 pw_1214 pw_1209) hV_J0_length_8abf5 (vk_recv hE.2.1 hi hS) rfl (Nat.le_of_ble_eq_true rfl) dX12_built_30 ⟨Nat.le_of_ble_eq_true rfl, Nat.le_of_ble_eq_true rfl⟩ ⟨Nat.le_of_ble_eq_true rfl, Nat.le_of_ble_eq_true rfl⟩ (fun v6 u4 H locs hw5 hP hS => ?_)
      obtain rfl : v6 = some (.int (nI (sLen.getD i 0))) := hw5
      refine W.widen (k := 0) (n := 0) (Nat.le_of_ble_eq_true rfl) (Nat.le_of_ble_eq_true rfl) ?_
      refine W.eq (g2 := F0 m 33 ls [.int (nI (sLen.getD i 0)), .int (nI k)]) rfl ?_
      rw [ht]
      refine lv_icmp_ge (tgt := 67) hx hb dX12_built_33 (by decide) (fun c7 => ?_) (fun c7 => ?_)
      · have n8 : tb ≤ k := (nI_leI (a := tb) (b := k) (by omega) (by omega)).mp c7
        have hkt : k = tb := by omega
        have hP : va_P G.1 pCl (mW G h0 a (upd (upd F 13 (nI (us + k))) 14 (nI nm)) (updA (updA (updA B 6 (upd f10 nm (nI us))) 7 (upd f11 nm (nI tb))) 8 gl)) _ := hP
        have hD : va_D A (mW G h0 a (upd (upd F 13 (nI (us + k))) 14 (nI nm)) (updA (updA (updA B 6 (upd f10 nm (nI us))) 7 (upd f11 nm (nI tb))) 8 gl)) := mW_D hD
        rw [hkt] at hP hD
        refine lv_aload_n hx hb dX12_built_67 rfl (lv_at hl 1 rfl) ?_
        refine lv_dup hx hb dX12_built_68 rfl ?_
        refine r_get (v := .int (nI nm)) hx hb hown hq hE hP 14 277 tFX12_14 (by decide) pw_1529 rfl dX12_built_69 ?_
        refine lv_iconst (v := 1) hx hb dX12_built_72 (by decide) ?_
        refine lv_iadd hx hb dX12_built_73 ?_
        refine lv_topi (fun x9 e10 => ?_)
        obtain rfl : x9 = nI (nm + 1) := e10.trans (nI_add (nm) (1))
        refine r_put (v := (nI (nm + 1))) (ty := .int) hx hb hown hq hE hP hD hS 14 277 tFX12_14 (by decide) pw_1529 (by decide) rfl rfl (ms_14 a _ _) dX12_built_74 (fun H locs hP hD hS => ?_)
        have hP : va_P G.1 pCl (mW G h0 a (upd (upd F 13 (nI (us + tb))) 14 (nI (nm + 1))) (updA (updA (updA B 6 (upd f10 nm (nI us))) 7 (upd f11 nm (nI tb))) 8 gl)) _ := hP
        have hD : va_D A (mW G h0 a (upd (upd F 13 (nI (us + tb))) 14 (nI (nm + 1))) (updA (updA (updA B 6 (upd f10 nm (nI us))) 7 (upd f11 nm (nI tb))) 8 gl)) := mW_D hD
        exact W.vret hx hb hr (fun t9 ht9 hW9 => ⟨⟨_, gl, rfl, rfl, by rw [ht9]; exact hP, hD⟩, hS.F ht9⟩) hS.2.2 dX12_built_77
      · have n11 : ¬ (tb ≤ k) := fun h9 => c7 ((nI_leI (a := tb) (b := k) (by omega) (by omega)).mpr h9)
        refine lv_aload_n hx hb dX12_built_36 rfl (lv_at hl 1 rfl) ?_
        refine r_get (v := .ref (a 8)) hx hb hown hq hE hP 12 34 tFX12_12 (by decide) pw_1438 rfl dX12_built_37 ?_
        refine lv_aload_n hx hb dX12_built_40 rfl (lv_at hl 1 rfl) ?_
        refine r_get (v := .int (nI (us + k))) hx hb hown hq hE hP 13 280 tFX12_13 (by decide) pw_1530 rfl dX12_built_41 ?_
        refine lv_aload_n hx hb dX12_built_44 rfl (lv_at hl 2 rfl) ?_
        refine lv_iload_n hx hb dX12_built_45 rfl (lv_at hl 0 rfl) ?_
        refine pc_VN (G := G) (As := [.int (nI k)]) (rest := [.int (nI (us + k)), .ref (a 8)]) hx hb hml hown hq hE hX pX0_al hP hS hA hl.1 (c_charAtX l G i k hi (by rw [ht]; omega)) (gV pw_1526 pw_1239 pw_1240 pw_1214 pw_1233) hV_J0_charAt_5068e (vk_recv hE.2.1 hi hS) rfl (Nat.le_of_ble_eq_true rfl) dX12_built_46 ⟨Nat.le_of_ble_eq_true rfl, Nat.le_of_ble_eq_true rfl⟩ ⟨Nat.le_of_ble_eq_true rfl, Nat.le_of_ble_eq_true rfl⟩ (fun v14 u12 H locs hw13 hP hS => ?_)
        obtain rfl : v14 = some (.int (sCh i k)) := hw13
        refine W.widen (k := 0) (n := 0) (Nat.le_of_ble_eq_true rfl) (Nat.le_of_ble_eq_true rfl) ?_
        refine W.eq (g2 := F0 m 49 ls [.int (sCh i k), .int (nI (us + k)), .ref (a 8)]) rfl ?_
        refine lv_i2b hx hb dX12_built_49 rfl ?_
        refine lv_topi (fun x15 e16 => ?_)
        refine r_stb (f := gl) (j := (us + k)) hx hb hE hP hD hS 8 (ma_8 G a _) rfl (mas_8 G a _) (by omega) (by decide) dX12_built_50 (fun H locs hP hD hS => ?_)
        have hP : va_P G.1 pCl (mW G h0 a (upd (upd F 13 (nI (us + k))) 14 (nI nm)) (updA (updA (updA B 6 (upd f10 nm (nI us))) 7 (upd f11 nm (nI tb))) 8 (upd gl (us + k) (vp_nar .byte x15)))) _ := mW_to (F := F) (l1 := [(13, (nI (us + k))), (14, (nI nm))]) (l2 := [(13, (nI (us + k))), (14, (nI nm))]) (V := [(nI (us + k)), (nI nm), (nI (us + k)), (nI nm)]) rfl rfl (show (updA (updA (updA (updA B 6 (upd f10 nm (nI us))) 7 (upd f11 nm (nI tb))) 8 gl) 8 (upd gl (us + k) (vp_nar .byte x15))) = (updA (updA (updA B 6 (upd f10 nm (nI us))) 7 (upd f11 nm (nI tb))) 8 (upd gl (us + k) (vp_nar .byte x15))) from updsA_eq2 (F := B) (l1 := [(6, (upd f10 nm (nI us))), (7, (upd f11 nm (nI tb))), (8, gl), (8, (upd gl (us + k) (vp_nar .byte x15)))]) (l2 := [(6, (upd f10 nm (nI us))), (7, (upd f11 nm (nI tb))), (8, (upd gl (us + k) (vp_nar .byte x15)))]) (V := [(upd f10 nm (nI us)), (upd f11 nm (nI tb)), (upd gl (us + k) (vp_nar .byte x15)), (upd gl (us + k) (vp_nar .byte x15)), (upd f10 nm (nI us)), (upd f11 nm (nI tb)), (upd gl (us + k) (vp_nar .byte x15))]) rfl rfl) hP
        have hD : va_D A (mW G h0 a (upd (upd F 13 (nI (us + k))) 14 (nI nm)) (updA (updA (updA B 6 (upd f10 nm (nI us))) 7 (upd f11 nm (nI tb))) 8 (upd gl (us + k) (vp_nar .byte x15)))) := mW_D hD
        generalize (upd gl (us + k) (vp_nar .byte x15)) = f17 at hP hD
        refine lv_aload_n hx hb dX12_built_51 rfl (lv_at hl 1 rfl) ?_
        refine lv_dup hx hb dX12_built_52 rfl ?_
        refine r_get (v := .int (nI (us + k))) hx hb hown hq hE hP 13 280 tFX12_13 (by decide) pw_1530 rfl dX12_built_53 ?_
        refine lv_iconst (v := 1) hx hb dX12_built_56 (by decide) ?_
        refine lv_iadd hx hb dX12_built_57 ?_
        refine lv_topi (fun x18 e19 => ?_)
        obtain rfl : x18 = nI ((us + k) + 1) := e19.trans (nI_add ((us + k)) (1))
        refine r_put (v := (nI ((us + k) + 1))) (ty := .int) hx hb hown hq hE hP hD hS 13 280 tFX12_13 (by decide) pw_1530 (by decide) rfl rfl (ms_13 a _ _) dX12_built_58 (fun H locs hP hD hS => ?_)
        refine lv_iinc (v := (nI (k + 1))) (lv' := [(2, .int (nI (k + 1))), (0, .ref h0), (1, .ref (G.2.2.1 i))]) hx hb dX12_built_61 hl (k := 0) rfl (nI_1 k) (by decide) rfl (fun ls hl => ?_)
        refine lv_goto (tgt := 28) hx hb dX12_built_64 (by decide) ?_
        have hP : va_P G.1 pCl (mW G h0 a (upd (upd F 13 (nI (us + (k + 1)))) 14 (nI nm)) (updA (updA (updA B 6 (upd f10 nm (nI us))) 7 (upd f11 nm (nI tb))) 8 f17)) _ := hP
        have hD : va_D A (mW G h0 a (upd (upd F 13 (nI (us + (k + 1)))) 14 (nI nm)) (updA (updA (updA B 6 (upd f10 nm (nI us))) 7 (upd f11 nm (nI tb))) 8 f17)) := mW_D hD
        exact ih_b (k + 1) f17 _ _ _ (by omega) (by omega) hP hD hS (lv_sub hl [0, 1, 2] rfl)
  have hP : va_P G.1 pCl (mW G h0 a (upd (upd F 13 (nI (us + 0))) 14 (nI nm)) (updA (updA (updA B 6 (upd f10 nm (nI us))) 7 (upd f11 nm (nI tb))) 8 f12)) _ := mW_to (F := F) (l1 := [(13, (nI us)), (14, (nI nm))]) (l2 := [(13, (nI (us + 0))), (14, (nI nm))]) (V := [(nI (us + 0)), (nI nm), (nI (us + 0)), (nI nm)]) rfl rfl (show (updA (updA (updA (updA (updA B 6 f10) 7 f11) 8 f12) 6 (upd f10 nm (nI us))) 7 (upd f11 nm (nI tb))) = (updA (updA (updA B 6 (upd f10 nm (nI us))) 7 (upd f11 nm (nI tb))) 8 f12) from updsA_eq2 (F := B) (l1 := [(6, f10), (7, f11), (8, f12), (6, (upd f10 nm (nI us))), (7, (upd f11 nm (nI tb)))]) (l2 := [(6, (upd f10 nm (nI us))), (7, (upd f11 nm (nI tb))), (8, f12)]) (V := [(upd f10 nm (nI us)), (upd f11 nm (nI tb)), f12, (upd f10 nm (nI us)), (upd f11 nm (nI tb)), (upd f10 nm (nI us)), (upd f11 nm (nI tb)), f12]) rfl rfl) hP
  have hD : va_D A (mW G h0 a (upd (upd F 13 (nI (us + 0))) 14 (nI nm)) (updA (updA (updA B 6 (upd f10 nm (nI us))) 7 (upd f11 nm (nI tb))) 8 f12)) := mW_D hD
  exact loop_b (tb + 1) 0 f12 _ _ _ (by omega) (by omega) hP hD hS (lv_sub hl [0, 1, 2] rfl)

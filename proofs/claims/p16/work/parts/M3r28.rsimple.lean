theorem dX12_simple_0 : decode cX12_simple 0 = .ok (.aload_n 0, 1) := by decide +kernel
theorem dX12_simple_1 : decode cX12_simple 1 = .ok (.getfield 343, 3) := by decide +kernel
theorem dX12_simple_4 : decode cX12_simple 4 = .ok (.istore_n 2, 1) := by decide +kernel
theorem dX12_simple_5 : decode cX12_simple 5 = .ok (.aload_n 0, 1) := by decide +kernel
theorem dX12_simple_6 : decode cX12_simple 6 = .ok (.invokevirtual 469, 3) := by decide +kernel
theorem dX12_simple_9 : decode cX12_simple 9 = .ok (.istore_n 3, 1) := by decide +kernel
theorem dX12_simple_10 : decode cX12_simple 10 = .ok (.aload_n 0, 1) := by decide +kernel
theorem dX12_simple_11 : decode cX12_simple 11 = .ok (.getfield 350, 3) := by decide +kernel
theorem dX12_simple_14 : decode cX12_simple 14 = .ok (.ifCond .le 5, 3) := by decide +kernel
theorem dX12_simple_19 : decode cX12_simple 19 = .ok (.aload_n 0, 1) := by decide +kernel
theorem dX12_simple_20 : decode cX12_simple 20 = .ok (.getfield 38, 3) := by decide +kernel
theorem dX12_simple_23 : decode cX12_simple 23 = .ok (.iload_n 3, 1) := by decide +kernel
theorem dX12_simple_24 : decode cX12_simple 24 = .ok (.iaload, 1) := by decide +kernel
theorem dX12_simple_25 : decode cX12_simple 25 = .ok (.istore 4, 2) := by decide +kernel
theorem dX12_simple_27 : decode cX12_simple 27 = .ok (.iload 4, 2) := by decide +kernel
theorem dX12_simple_29 : decode cX12_simple 29 = .ok (.bipush 6, 2) := by decide +kernel
theorem dX12_simple_31 : decode cX12_simple 31 = .ok (.if_icmp .eq 17, 3) := by decide +kernel
theorem dX12_simple_48 : decode cX12_simple 48 = .ok (.aload_n 0, 1) := by decide +kernel
theorem dX12_simple_49 : decode cX12_simple 49 = .ok (.getfield 343, 3) := by decide +kernel
theorem dX12_simple_52 : decode cX12_simple 52 = .ok (.istore 5, 2) := by decide +kernel
theorem dX12_simple_54 : decode cX12_simple 54 = .ok (.aload_n 0, 1) := by decide +kernel
theorem dX12_simple_55 : decode cX12_simple 55 = .ok (.bipush 61, 2) := by decide +kernel
theorem dX12_simple_57 : decode cX12_simple 57 = .ok (.invokevirtual 369, 3) := by decide +kernel
theorem dX12_simple_60 : decode cX12_simple 60 = .ok (.aload_n 0, 1) := by decide +kernel
theorem dX12_simple_61 : decode cX12_simple 61 = .ok (.bipush 32, 2) := by decide +kernel
theorem dX12_simple_63 : decode cX12_simple 63 = .ok (.iload_n 2, 1) := by decide +kernel
theorem dX12_simple_64 : decode cX12_simple 64 = .ok (.iload 5, 2) := by decide +kernel
theorem dX12_simple_66 : decode cX12_simple 66 = .ok (.iload_n 3, 1) := by decide +kernel
theorem dX12_simple_67 : decode cX12_simple 67 = .ok (.aload_n 0, 1) := by decide +kernel
theorem dX12_simple_68 : decode cX12_simple 68 = .ok (.invokevirtual 447, 3) := by decide +kernel
theorem dX12_simple_71 : decode cX12_simple 71 = .ok (.invokevirtual 428, 3) := by decide +kernel
theorem dX12_simple_74 : decode cX12_simple 74 = .ok (.ireturn, 1) := by decide +kernel
theorem dX12_simple_34 : decode cX12_simple 34 = .ok (.iload 4, 2) := by decide +kernel
theorem dX12_simple_36 : decode cX12_simple 36 = .ok (.bipush 12, 2) := by decide +kernel
theorem dX12_simple_38 : decode cX12_simple 38 = .ok (.if_icmp .eq 10, 3) := by decide +kernel
theorem dX12_simple_41 : decode cX12_simple 41 = .ok (.iload 4, 2) := by decide +kernel
theorem dX12_simple_43 : decode cX12_simple 43 = .ok (.bipush 15, 2) := by decide +kernel
theorem dX12_simple_45 : decode cX12_simple 45 = .ok (.if_icmp .ne 30, 3) := by decide +kernel
theorem dX12_simple_75 : decode cX12_simple 75 = .ok (.iload_n 1, 1) := by decide +kernel
theorem dX12_simple_76 : decode cX12_simple 76 = .ok (.ifCond .eq 24, 3) := by decide +kernel
theorem dX12_simple_100 : decode cX12_simple 100 = .ok (.aload_n 0, 1) := by decide +kernel
theorem dX12_simple_101 : decode cX12_simple 101 = .ok (.iconst 1, 1) := by decide +kernel
theorem dX12_simple_102 : decode cX12_simple 102 = .ok (.invokevirtual 356, 3) := by decide +kernel
theorem dX12_simple_105 : decode cX12_simple 105 = .ok (.iconst 0, 1) := by decide +kernel
theorem dX12_simple_106 : decode cX12_simple 106 = .ok (.ireturn, 1) := by decide +kernel
theorem dX12_simple_17 : decode cX12_simple 17 = .ok (.iconst 0, 1) := by decide +kernel
theorem dX12_simple_18 : decode cX12_simple 18 = .ok (.ireturn, 1) := by decide +kernel
set_option maxHeartbeats 2000000 in
set_option maxRecDepth 100000 in
/-- simple(mayCall), no fault ahead -/
theorem RT_simple0 (l : Launch) (G : pT) (h0 : Nat) (a : Nat → Nat) (F : Nat → Int32) (B : Nat → Nat → Int32) (at0 : Nat) (T : Nat) (n : Nat) (ne : Nat) (nd : Nat) (wr : Nat) (lk : Nat) (K : Nat → Int32) (hat : at0 ≤ T) (hT : T ≤ 5000) (hK : K T = 0 ∨ K T = 3) (hne : ne ≤ 20) (hnd : nd ≤ 2 * at0) (hwr : wr ≤ at0) (hlk : lk ≤ 60) (hy : tkRow (B 19) wr T) (hn : 21 ≤ n + ne) (hEc : Pchoice l G n) (hEh : Pchain l G n) : PM l G pX0 yX12_simple cX12_simple 6 (some .int) ({ frames := (26 * n + 30), cells := 0, slots := 0, locals := (2000 * n + 3000) }) [.ref h0, .int 0] (mW G h0 a (upd (upd (upd (upd (upd (upd F 15 0) 27 (nI nd)) 31 (nI wr)) 64 (nI at0)) 65 (nI ne)) 66 (nI lk)) (updA B 2 K)) (fun (v : Option Value) (u : Nat × Nat × Int32 × Nat × Nat × Nat × Nat × (Nat → Nat → Int32)) => v = some (.int (nI u.2.2.2.2.2.2.1)) ∧ (at0 ≤ u.1) ∧ (u.1 ≤ T) ∧ (u.2.1 ≤ 100) ∧ (nd ≤ u.2.2.2.1) ∧ (u.2.2.2.1 + 2 * at0 ≤ nd + 2 * u.1 + 100000 * u.2.1) ∧ (u.2.2.2.1 + 2 * at0 ≤ nd + 2 * u.1 + (40 * (21 - ne) + 5)) ∧ (wr ≤ u.2.2.2.2.2.1) ∧ (u.2.2.2.2.2.1 + at0 ≤ wr + u.1) ∧ (lk ≤ u.2.2.2.2.1) ∧ (u.2.2.2.2.1 ≤ 60 + 100 * u.2.1) ∧ (at0 + 1 ≤ u.1 + u.2.1) ∧ (u.2.2.2.2.2.2.1 ≤ u.2.2.2.1) ∧ (Kp B u.2.2.2.2.2.2.2 u.2.2.2.2.2.1 T) ∧ (If (u.2.1 = 0) (Low B u.2.2.2.2.2.2.2 nd wr ∧ Frs K T u.2.2.2.2.2.1 u.2.2.2.2.2.2.2 nd u.2.2.2.1 20000 [(u.2.2.2.2.2.2.1, 280)] ∧ u.2.2.2.2.2.2.2 9 u.2.2.2.2.2.2.1 = 32))) (fun u => (mW G h0 a (upd (upd (upd (upd (upd (upd (upd F 15 (nI u.2.1)) 16 u.2.2.1) 27 (nI u.2.2.2.1)) 31 (nI u.2.2.2.2.2.1)) 64 (nI u.1)) 65 (nI ne)) 66 (nI u.2.2.2.2.1)) (updA u.2.2.2.2.2.2.2 2 K))) := by
  intro sz
  refine Met.ofW (cc := cX12_simple) (maxL := 6) (ret := (some .int)) (by decide) rfl ?_
  intro p e s m args below meth c s₁ B9 hml hv
  obtain ⟨rfl, hsz, hP, hD0, hE, hX⟩ := hv
  have hx := B9.exec
  have hb := B9.bytes
  have hr := B9.returns
  have hts := atoms_spec (ws := Cond.code yX12_simple cX12_simple 6 (some .int) :: pw) B9.pre
  have hq : ∀ w ∈ pw, w.before _ s = true := fun w h => hts w (List.mem_cons_of_mem _ h)
  have hown : s.vm.findClass RX12 = some m.cls := findClass_of_methodNamed B9.named
  have hlocks := B9.notSynchronized
  subst hsz
  have hD := hD0.self (sz := s.heap.size)
  have hA : ∀ q : Nat, s.heap.size ≤ q → va_A (mW G h0 a (upd (upd (upd (upd (upd (upd F 15 0) 27 (nI nd)) 31 (nI wr)) 64 (nI at0)) 65 (nI ne)) 66 (nI lk)) (updA B 2 K)) s.heap.size q := fun q h => Or.inr h
  have hP : va_P G.1 pCl (mW G h0 a (upd (upd (upd (upd (upd (upd F 15 0) 27 (nI nd)) 31 (nI wr)) 64 (nI at0)) 65 (nI ne)) 66 (nI lk)) (updA B 2 K)) s.heap := hP
  generalize va_A (mW G h0 a (upd (upd (upd (upd (upd (upd F 15 0) 27 (nI nd)) 31 (nI wr)) 64 (nI at0)) 65 (nI ne)) 66 (nI lk)) (updA B 2 K)) s.heap.size = A at hD hE hA ⊢
  have hS : va_S A s.heap s.heap [] := va_S.rf
  have hl := lv_entry ([.ref h0, .int 0]) (n := 6) (Nat.le_of_ble_eq_true rfl)
  rw [lg_entry_eq]
  generalize (lg_sl ([.ref h0, .int 0]) ++ List.replicate (6 - (lg_sl ([.ref h0, .int 0])).length) Slot.unset).toArray = ls at hl ⊢
  have hl : lv_has ls 6 [(0, .ref h0), (1, .int 0)] := hl
  have hkp1 : Kp B B wr T := Kp.rfl hy
  have hlo2 : Low B B nd wr := Low.rfl
  refine lv_aload_n hx hb dX12_simple_0 rfl (lv_at hl 0 rfl) ?_
  refine r_get (v := .int (nI at0)) hx hb hown hq hE hP 64 343 tFX12_64 (by decide) pw_1592 rfl dX12_simple_1 ?_
  refine lv_istore_n (lv' := [(2, .int (nI at0)), (0, .ref h0), (1, .int 0)]) hx hb dX12_simple_4 rfl hl (by decide) rfl (fun ls hl => ?_)
  refine lv_aload_n hx hb dX12_simple_5 rfl (lv_at hl 1 rfl) ?_
  have hP : va_P G.1 pCl (mW G h0 a (upd (upd (upd (upd (upd (upd (upd (upd (upd (upd (upd (upd F 15 0) 27 (nI nd)) 31 (nI wr)) 64 (nI at0)) 65 (nI ne)) 66 (nI lk)) 15 0) 27 (nI nd)) 31 (nI wr)) 64 (nI at0)) 65 (nI ne)) 66 (nI lk)) (updA B 2 K)) _ := mW_to (F := F) (l1 := [(15, 0), (27, (nI nd)), (31, (nI wr)), (64, (nI at0)), (65, (nI ne)), (66, (nI lk))]) (l2 := [(15, 0), (27, (nI nd)), (31, (nI wr)), (64, (nI at0)), (65, (nI ne)), (66, (nI lk)), (15, 0), (27, (nI nd)), (31, (nI wr)), (64, (nI at0)), (65, (nI ne)), (66, (nI lk))]) (V := [0, (nI nd), (nI wr), (nI at0), (nI ne), (nI lk), 0, (nI nd), (nI wr), (nI at0), (nI ne), (nI lk), 0, (nI nd), (nI wr), (nI at0), (nI ne), (nI lk)]) rfl rfl rfl hP
  have hD : va_D A (mW G h0 a (upd (upd (upd (upd (upd (upd (upd (upd (upd (upd (upd (upd F 15 0) 27 (nI nd)) 31 (nI wr)) 64 (nI at0)) 65 (nI ne)) 66 (nI lk)) 15 0) 27 (nI nd)) 31 (nI wr)) 64 (nI at0)) 65 (nI ne)) 66 (nI lk)) (updA B 2 K)) := mW_D hD
  refine pc_V0 (G := G) (As := []) (rest := []) hx hb hml hown hq hE hX pX0_al hP hD hS hA hl.1 (hEh h0 a (upd (upd (upd (upd (upd (upd F 15 0) 27 (nI nd)) 31 (nI wr)) 64 (nI at0)) 65 (nI ne)) 66 (nI lk)) B at0 T ne nd wr lk K (by omega) (by omega) hK (by omega) (by omega) (by omega) (by omega) (hkp1).2 (by omega)) (gV pw_1661 pw_1662 pw_1663 pw_1523 pw_1643) hV_X12_chain 0 9 rfl rfl rfl rfl (Nat.le_of_ble_eq_true rfl) dX12_simple_6 ⟨Nat.le_of_ble_eq_true rfl, Nat.le_of_ble_eq_true rfl⟩ ⟨(by show (20 * n + 12) + 1 ≤ (26 * n + 30); omega), (by show 8 + (4 + 11) + (1000 * n + 40 * 12) ≤ (2000 * n + 3000); omega)⟩ (fun v5 u3 H locs hw4 hP hD hS => ?_)
  obtain ⟨at6, fa7, pl8, nd9, lk10, wr11, r12, X13⟩ := u3
  obtain ⟨hw4, h14, h15, h16, h17, h18, h19, h20, h21, h22, h23, h24, h25, h26, h27⟩ := hw4
  have h14 : at0 ≤ at6 := h14
  have h15 : at6 ≤ T := h15
  have h16 : fa7 ≤ 100 := h16
  have h17 : nd ≤ nd9 := h17
  have h18 : nd9 + 2 * at0 ≤ nd + 2 * at6 + 100000 * fa7 := h18
  have h19 : nd9 + 2 * at0 ≤ nd + 2 * at6 + 40 * (21 - ne) := h19
  have h20 : wr ≤ wr11 := h20
  have h21 : wr11 + at0 ≤ wr + at6 := h21
  have h22 : lk ≤ lk10 := h22
  have h23 : lk10 ≤ 60 + 100 * fa7 := h23
  have h24 : at0 + 1 ≤ at6 + fa7 := h24
  have h25 : r12 ≤ nd9 := h25
  have h26 : Kp B X13 wr11 T := h26
  have h27 : If (fa7 = 0) (Low B X13 nd wr ∧ Frs K T wr11 X13 nd nd9 20000 [(r12, (210 + lk10 - (10 * ne + lk)))] ∧ kcl 1 (X13 9 r12) = true) := h27
  obtain rfl : v5 = some (.int (nI r12)) := hw4
  have hP : va_P G.1 pCl (mW G h0 a (upd (upd (upd (upd (upd (upd (upd F 15 (nI fa7)) 16 pl8) 27 (nI nd9)) 31 (nI wr11)) 64 (nI at6)) 65 (nI ne)) 66 (nI lk10)) (updA X13 2 K)) _ := mW_to (F := F) (l1 := [(15, 0), (27, (nI nd)), (31, (nI wr)), (64, (nI at0)), (65, (nI ne)), (66, (nI lk)), (15, (nI fa7)), (16, pl8), (27, (nI nd9)), (31, (nI wr11)), (64, (nI at6)), (65, (nI ne)), (66, (nI lk10))]) (l2 := [(15, (nI fa7)), (16, pl8), (27, (nI nd9)), (31, (nI wr11)), (64, (nI at6)), (65, (nI ne)), (66, (nI lk10))]) (V := [(nI fa7), (nI nd9), (nI wr11), (nI at6), (nI ne), (nI lk10), (nI fa7), pl8, (nI nd9), (nI wr11), (nI at6), (nI ne), (nI lk10), (nI fa7), pl8, (nI nd9), (nI wr11), (nI at6), (nI ne), (nI lk10)]) rfl rfl rfl hP
  have hD : va_D A (mW G h0 a (upd (upd (upd (upd (upd (upd (upd F 15 (nI fa7)) 16 pl8) 27 (nI nd9)) 31 (nI wr11)) 64 (nI at6)) 65 (nI ne)) 66 (nI lk10)) (updA X13 2 K)) := mW_D hD
  refine W.widen (k := 0) (n := 0) (Nat.le_of_ble_eq_true rfl) (Nat.le_of_ble_eq_true rfl) ?_
  refine W.eq (g2 := F0 m 9 ls [.int (nI r12)]) rfl ?_
  have hkp28 : Kp B X13 wr11 T := (Kp.trans hkp1 h26)
  rcases Nat.eq_zero_or_pos fa7 with e29 | e29
  · subst e29
    have hP : va_P G.1 pCl (mW G h0 a (upd (upd (upd (upd (upd (upd (upd F 15 0) 16 pl8) 27 (nI nd9)) 31 (nI wr11)) 64 (nI at6)) 65 (nI ne)) 66 (nI lk10)) (updA X13 2 K)) _ := hP
    have hD : va_D A (mW G h0 a (upd (upd (upd (upd (upd (upd (upd F 15 0) 16 pl8) 27 (nI nd9)) 31 (nI wr11)) 64 (nI at6)) 65 (nI ne)) 66 (nI lk10)) (updA X13 2 K)) := mW_D hD
    obtain ⟨hlw30, hf31, hc32⟩ := h27 rfl
    have hlo33 : Low B X13 nd wr := (Low.trans hlo2 hlw30 (by omega) (by omega))
    have hm34 := Frs.mem hf31
    refine lv_istore_n (lv' := [(3, .int (nI r12)), (2, .int (nI at0)), (0, .ref h0), (1, .int 0)]) hx hb dX12_simple_9 rfl hl (by decide) rfl (fun ls hl => ?_)
    refine lv_aload_n hx hb dX12_simple_10 rfl (lv_at hl 2 rfl) ?_
    refine r_get (v := .int 0) hx hb hown hq hE hP 15 350 tFX12_15 (by decide) pw_1594 rfl dX12_simple_11 ?_
    refine lv_if_le (tgt := 19) hx hb dX12_simple_14 (by decide) (fun c35 => ?_) (fun c35 => absurd c35 (by decide))
    refine lv_aload_n hx hb dX12_simple_19 rfl (lv_at hl 2 rfl) ?_
    refine r_get (v := .ref (a 9)) hx hb hown hq hE hP 17 38 tFX12_17 (by decide) pw_1439 rfl dX12_simple_20 ?_
    refine lv_iload_n hx hb dX12_simple_23 rfl (lv_at hl 0 rfl) ?_
    refine r_ldi (f := (X13 9)) (j := r12) hx hb hE hP 9 (ma_9 G a _) rfl (by omega) (by decide) dX12_simple_24 ?_
    refine lv_istore (lv' := [(4, .int ((X13 9) r12)), (3, .int (nI r12)), (2, .int (nI at0)), (0, .ref h0), (1, .int 0)]) hx hb dX12_simple_25 hl (by decide) rfl (fun ls hl => ?_)
    refine lv_iload hx hb dX12_simple_27 (lv_at hl 0 rfl) ?_
    refine lv_bipush (v := 6) hx hb dX12_simple_29 (by decide) ?_
    refine lv_icmp_eq (tgt := 48) hx hb dX12_simple_31 (by decide) (fun c36 => ?_) (fun c36 => ?_)
    · have hc37 : kcl 12 (X13 9 r12) = true := (by rw [show X13 9 r12 = _ from c36]; decide)
      refine lv_aload_n hx hb dX12_simple_48 rfl (lv_at hl 3 rfl) ?_
      refine r_get (v := .int (nI at6)) hx hb hown hq hE hP 64 343 tFX12_64 (by decide) pw_1592 rfl dX12_simple_49 ?_
      refine lv_istore (lv' := [(5, .int (nI at6)), (4, .int ((X13 9) r12)), (3, .int (nI r12)), (2, .int (nI at0)), (0, .ref h0), (1, .int 0)]) hx hb dX12_simple_52 hl (by decide) rfl (fun ls hl => ?_)
      refine lv_aload_n hx hb dX12_simple_54 rfl (lv_at hl 4 rfl) ?_
      refine lv_bipush (v := 61) hx hb dX12_simple_55 (by decide) ?_
      have hP : va_P G.1 pCl (mW G h0 a (upd (upd (upd (upd (upd (upd (upd (upd (upd F 15 0) 16 pl8) 27 (nI nd9)) 31 (nI wr11)) 64 (nI at6)) 65 (nI ne)) 66 (nI lk10)) 15 (nI 0)) 64 (nI at6)) (updA (updA X13 2 K) 2 K)) _ := mW_to (F := F) (l1 := [(15, 0), (16, pl8), (27, (nI nd9)), (31, (nI wr11)), (64, (nI at6)), (65, (nI ne)), (66, (nI lk10))]) (l2 := [(15, 0), (16, pl8), (27, (nI nd9)), (31, (nI wr11)), (64, (nI at6)), (65, (nI ne)), (66, (nI lk10)), (15, (nI 0)), (64, (nI at6))]) (V := [(nI 0), pl8, (nI nd9), (nI wr11), (nI at6), (nI ne), (nI lk10), (nI 0), pl8, (nI nd9), (nI wr11), (nI at6), (nI ne), (nI lk10), (nI 0), (nI at6)]) rfl rfl (show (updA X13 2 K) = (updA (updA X13 2 K) 2 K) from updsA_eq2 (F := X13) (l1 := [(2, K)]) (l2 := [(2, K), (2, K)]) (V := [K, K, K]) rfl rfl) hP
      have hD : va_D A (mW G h0 a (upd (upd (upd (upd (upd (upd (upd (upd (upd F 15 0) 16 pl8) 27 (nI nd9)) 31 (nI wr11)) 64 (nI at6)) 65 (nI ne)) 66 (nI lk10)) 15 (nI 0)) 64 (nI at6)) (updA (updA X13 2 K) 2 K)) := mW_D hD
      refine pc_V0 (G := G) (As := [.int 61]) (rest := []) hx hb hml hown hq hE hX pX0_al hP hD hS hA hl.1 (R_take l G h0 a (upd (upd (upd (upd (upd (upd (upd F 15 0) 16 pl8) 27 (nI nd9)) 31 (nI wr11)) 64 (nI at6)) 65 (nI ne)) 66 (nI lk10)) (updA X13 2 K) at6 T 0 K 61 (by omega) (by omega) hK (by omega) (by decide) (by decide)) (gV pw_1614 pw_1615 pw_1616 pw_1523 pw_1601) hV_X12_take 0 9 rfl rfl rfl rfl (Nat.le_of_ble_eq_true rfl) dX12_simple_57 ⟨Nat.le_of_ble_eq_true rfl, Nat.le_of_ble_eq_true rfl⟩ ⟨(by show 4 + 1 ≤ (26 * n + 30); omega), (by show 8 + (2 + 11) + 103 ≤ (2000 * n + 3000); omega)⟩ (fun v40 u38 H locs hw39 hP hD hS => ?_)
      obtain ⟨at41, fa42, pl43⟩ := u38
      obtain ⟨hw39, h44, h45, h46, h47, h48, h49, h50, h51⟩ := hw39
      have h44 : at6 ≤ at41 := h44
      have h45 : at41 ≤ T := h45
      have h46 : 0 ≤ fa42 := h46
      have h47 : fa42 ≤ 100 := h47
      have h48 : If (0 < 0) (at41 = at6 ∧ fa42 = 0) := h48
      have h49 : at41 ≤ at6 + 1 := h49
      have h50 : at6 + 1 ≤ at41 + fa42 := h50
      have h51 : If (fa42 = 0) (K at6 = 61) := h51
      obtain rfl : v40 = none := hw39
      have hP : va_P G.1 pCl (mW G h0 a (upd (upd (upd (upd (upd (upd (upd F 15 (nI fa42)) 16 pl43) 27 (nI nd9)) 31 (nI wr11)) 64 (nI at41)) 65 (nI ne)) 66 (nI lk10)) (updA X13 2 K)) _ := mW_to (F := F) (l1 := [(15, 0), (16, pl8), (27, (nI nd9)), (31, (nI wr11)), (64, (nI at6)), (65, (nI ne)), (66, (nI lk10)), (15, (nI fa42)), (16, pl43), (64, (nI at41))]) (l2 := [(15, (nI fa42)), (16, pl43), (27, (nI nd9)), (31, (nI wr11)), (64, (nI at41)), (65, (nI ne)), (66, (nI lk10))]) (V := [(nI fa42), pl43, (nI nd9), (nI wr11), (nI at41), (nI ne), (nI lk10), (nI fa42), pl43, (nI at41), (nI fa42), pl43, (nI nd9), (nI wr11), (nI at41), (nI ne), (nI lk10)]) rfl rfl (show (updA (updA X13 2 K) 2 K) = (updA X13 2 K) from updsA_eq2 (F := X13) (l1 := [(2, K), (2, K)]) (l2 := [(2, K)]) (V := [K, K, K]) rfl rfl) hP
      have hD : va_D A (mW G h0 a (upd (upd (upd (upd (upd (upd (upd F 15 (nI fa42)) 16 pl43) 27 (nI nd9)) 31 (nI wr11)) 64 (nI at41)) 65 (nI ne)) 66 (nI lk10)) (updA X13 2 K)) := mW_D hD
      refine W.widen (k := 0) (n := 0) (Nat.le_of_ble_eq_true rfl) (Nat.le_of_ble_eq_true rfl) ?_
      refine W.eq (g2 := F0 m 60 ls []) rfl ?_
      rcases Nat.eq_zero_or_pos fa42 with e52 | e52
      · subst e52
        have hP : va_P G.1 pCl (mW G h0 a (upd (upd (upd (upd (upd (upd (upd F 15 0) 16 pl43) 27 (nI nd9)) 31 (nI wr11)) 64 (nI at41)) 65 (nI ne)) 66 (nI lk10)) (updA X13 2 K)) _ := hP
        have hD : va_D A (mW G h0 a (upd (upd (upd (upd (upd (upd (upd F 15 0) 16 pl43) 27 (nI nd9)) 31 (nI wr11)) 64 (nI at41)) 65 (nI ne)) 66 (nI lk10)) (updA X13 2 K)) := mW_D hD
        refine lv_aload_n hx hb dX12_simple_60 rfl (lv_at hl 4 rfl) ?_
        refine lv_bipush (v := 32) hx hb dX12_simple_61 (by decide) ?_
        refine lv_iload_n hx hb dX12_simple_63 rfl (lv_at hl 3 rfl) ?_
        refine lv_iload hx hb dX12_simple_64 (lv_at hl 0 rfl) ?_
        refine lv_iload_n hx hb dX12_simple_66 rfl (lv_at hl 2 rfl) ?_
        refine lv_aload_n hx hb dX12_simple_67 rfl (lv_at hl 4 rfl) ?_
        have hP : va_P G.1 pCl (mW G h0 a (upd (upd (upd (upd (upd (upd (upd (upd (upd (upd (upd (upd (upd F 15 0) 16 pl43) 27 (nI nd9)) 31 (nI wr11)) 64 (nI at41)) 65 (nI ne)) 66 (nI lk10)) 15 0) 27 (nI nd9)) 31 (nI wr11)) 64 (nI at41)) 65 (nI ne)) 66 (nI lk10)) (updA X13 2 K)) _ := mW_to (F := F) (l1 := [(15, 0), (16, pl43), (27, (nI nd9)), (31, (nI wr11)), (64, (nI at41)), (65, (nI ne)), (66, (nI lk10))]) (l2 := [(15, 0), (16, pl43), (27, (nI nd9)), (31, (nI wr11)), (64, (nI at41)), (65, (nI ne)), (66, (nI lk10)), (15, 0), (27, (nI nd9)), (31, (nI wr11)), (64, (nI at41)), (65, (nI ne)), (66, (nI lk10))]) (V := [0, pl43, (nI nd9), (nI wr11), (nI at41), (nI ne), (nI lk10), 0, pl43, (nI nd9), (nI wr11), (nI at41), (nI ne), (nI lk10), 0, (nI nd9), (nI wr11), (nI at41), (nI ne), (nI lk10)]) rfl rfl rfl hP
        have hD : va_D A (mW G h0 a (upd (upd (upd (upd (upd (upd (upd (upd (upd (upd (upd (upd (upd F 15 0) 16 pl43) 27 (nI nd9)) 31 (nI wr11)) 64 (nI at41)) 65 (nI ne)) 66 (nI lk10)) 15 0) 27 (nI nd9)) 31 (nI wr11)) 64 (nI at41)) 65 (nI ne)) 66 (nI lk10)) (updA X13 2 K)) := mW_D hD
        refine pc_V0 (G := G) (As := []) (rest := [.int (nI r12), .int (nI at6), .int (nI at0), .int 32, .ref h0]) hx hb hml hown hq hE hX pX0_al hP hD hS hA hl.1 (hEc h0 a (upd (upd (upd (upd (upd (upd (upd F 15 0) 16 pl43) 27 (nI nd9)) 31 (nI wr11)) 64 (nI at41)) 65 (nI ne)) 66 (nI lk10)) X13 at41 T ne nd9 wr11 lk10 K (by omega) (by omega) hK (by omega) (by omega) (by omega) (by omega) (hkp28).2 (by omega)) (gV pw_1640 pw_1641 pw_1642 pw_1523 pw_1656) hV_X12_choice 0 9 rfl rfl rfl rfl (Nat.le_of_ble_eq_true rfl) dX12_simple_68 ⟨Nat.le_of_ble_eq_true rfl, Nat.le_of_ble_eq_true rfl⟩ ⟨(by show (20 * n + 27) + 1 ≤ (26 * n + 30); omega), (by show 8 + (4 + 11) + (1000 * n + 40 * 27) ≤ (2000 * n + 3000); omega)⟩ (fun v55 u53 H locs hw54 hP hD hS => ?_)
        obtain ⟨at56, fa57, pl58, nd59, lk60, wr61, r62, X63⟩ := u53
        obtain ⟨hw54, h64, h65, h66, h67, h68, h69, h70, h71, h72, h73, h74, h75, h76, h77⟩ := hw54
        have h64 : at41 ≤ at56 := h64
        have h65 : at56 ≤ T := h65
        have h66 : fa57 ≤ 100 := h66
        have h67 : nd9 ≤ nd59 := h67
        have h68 : nd59 + 2 * at41 ≤ nd9 + 2 * at56 + 100000 * fa57 := h68
        have h69 : nd59 + 2 * at41 ≤ nd9 + 2 * at56 + 40 * (21 - ne) := h69
        have h70 : wr11 ≤ wr61 := h70
        have h71 : wr61 + at41 ≤ wr11 + at56 := h71
        have h72 : lk10 ≤ lk60 := h72
        have h73 : lk60 ≤ 60 + 100 * fa57 := h73
        have h74 : at41 + 1 ≤ at56 + fa57 := h74
        have h75 : r62 ≤ nd59 := h75
        have h76 : Kp X13 X63 wr61 T := h76
        have h77 : If (fa57 = 0) (Low X13 X63 nd9 wr11 ∧ Frs K T wr61 X63 nd9 nd59 20000 [(r62, (211 + lk60 - (10 * ne + lk10)))] ∧ kcl 1 (X63 9 r62) = true) := h77
        obtain rfl : v55 = some (.int (nI r62)) := hw54
        have hP : va_P G.1 pCl (mW G h0 a (upd (upd (upd (upd (upd (upd (upd F 15 (nI fa57)) 16 pl58) 27 (nI nd59)) 31 (nI wr61)) 64 (nI at56)) 65 (nI ne)) 66 (nI lk60)) (updA X63 2 K)) _ := mW_to (F := F) (l1 := [(15, 0), (16, pl43), (27, (nI nd9)), (31, (nI wr11)), (64, (nI at41)), (65, (nI ne)), (66, (nI lk10)), (15, (nI fa57)), (16, pl58), (27, (nI nd59)), (31, (nI wr61)), (64, (nI at56)), (65, (nI ne)), (66, (nI lk60))]) (l2 := [(15, (nI fa57)), (16, pl58), (27, (nI nd59)), (31, (nI wr61)), (64, (nI at56)), (65, (nI ne)), (66, (nI lk60))]) (V := [(nI fa57), pl58, (nI nd59), (nI wr61), (nI at56), (nI ne), (nI lk60), (nI fa57), pl58, (nI nd59), (nI wr61), (nI at56), (nI ne), (nI lk60), (nI fa57), pl58, (nI nd59), (nI wr61), (nI at56), (nI ne), (nI lk60)]) rfl rfl rfl hP
        have hD : va_D A (mW G h0 a (upd (upd (upd (upd (upd (upd (upd F 15 (nI fa57)) 16 pl58) 27 (nI nd59)) 31 (nI wr61)) 64 (nI at56)) 65 (nI ne)) 66 (nI lk60)) (updA X63 2 K)) := mW_D hD
        refine W.widen (k := 0) (n := 0) (Nat.le_of_ble_eq_true rfl) (Nat.le_of_ble_eq_true rfl) ?_
        refine W.eq (g2 := F0 m 71 ls [.int (nI r62), .int (nI r12), .int (nI at6), .int (nI at0), .int 32, .ref h0]) rfl ?_
        have hkp78 : Kp B X63 wr61 T := (Kp.trans hkp28 h76)
        rcases Nat.eq_zero_or_pos fa57 with e79 | e79
        · subst e79
          have hP : va_P G.1 pCl (mW G h0 a (upd (upd (upd (upd (upd (upd (upd F 15 0) 16 pl58) 27 (nI nd59)) 31 (nI wr61)) 64 (nI at56)) 65 (nI ne)) 66 (nI lk60)) (updA X63 2 K)) _ := hP
          have hD : va_D A (mW G h0 a (upd (upd (upd (upd (upd (upd (upd F 15 0) 16 pl58) 27 (nI nd59)) 31 (nI wr61)) 64 (nI at56)) 65 (nI ne)) 66 (nI lk60)) (updA X63 2 K)) := mW_D hD
          obtain ⟨hlw80, hf81, hc82⟩ := h77 rfl
          have hlo83 : Low B X63 nd wr := (Low.trans hlo33 hlw80 (by omega) (by omega))
          have hf84 : Frs K T wr61 X63 nd nd9 20000 [(r12, (210 + lk10 - (10 * ne + lk)))] := (Frs.same hf31 (by omega) (fun j i q1 q2 q3 q4 => (hlw80.1 j i q1 (by omega) (by omega))))
          have hc85 : kcl 12 (X63 9 r12) = true := by rw [hlw80.1 9 r12 (by omega) (by omega) (by omega)]; exact hc37
          have hm86 := Frs.mem hf81
          have hP : va_P G.1 pCl (mW G h0 a (upd (upd (upd (upd (upd (upd (upd (upd F 15 0) 16 pl58) 27 (nI nd59)) 31 (nI wr61)) 64 (nI at56)) 65 (nI ne)) 66 (nI lk60)) 27 (nI nd59)) (updA X63 2 K)) _ := mW_to (F := F) (l1 := [(15, 0), (16, pl58), (27, (nI nd59)), (31, (nI wr61)), (64, (nI at56)), (65, (nI ne)), (66, (nI lk60))]) (l2 := [(15, 0), (16, pl58), (27, (nI nd59)), (31, (nI wr61)), (64, (nI at56)), (65, (nI ne)), (66, (nI lk60)), (27, (nI nd59))]) (V := [0, pl58, (nI nd59), (nI wr61), (nI at56), (nI ne), (nI lk60), 0, pl58, (nI nd59), (nI wr61), (nI at56), (nI ne), (nI lk60), (nI nd59)]) rfl rfl rfl hP
          have hD : va_D A (mW G h0 a (upd (upd (upd (upd (upd (upd (upd (upd F 15 0) 16 pl58) 27 (nI nd59)) 31 (nI wr61)) 64 (nI at56)) 65 (nI ne)) 66 (nI lk60)) 27 (nI nd59)) (updA X63 2 K)) := mW_D hD
          refine pc_V0 (G := G) (As := [.int 32, .int (nI at0), .int (nI at6), .int (nI r12), .int (nI r62)]) (rest := []) hx hb hml hown hq hE hX pX0_al hP hD hS hA hl.1 (R_nodeB l G h0 a (upd (upd (upd (upd (upd (upd (upd F 15 0) 16 pl58) 27 (nI nd59)) 31 (nI wr61)) 64 (nI at56)) 65 (nI ne)) 66 (nI lk60)) X63 32 (nI at0) (nI at6) (nI r12) (nI r62) nd59 K (by omega)) (gV pw_1650 pw_1651 pw_1652 pw_1523 pw_1589) hV_X12_node 0 9 rfl rfl rfl rfl (Nat.le_of_ble_eq_true rfl) dX12_simple_71 ⟨Nat.le_of_ble_eq_true rfl, Nat.le_of_ble_eq_true rfl⟩ ⟨(by show 2 + 1 ≤ (26 * n + 30); omega), (by show 8 + (7 + 11) + 60 ≤ (2000 * n + 3000); omega)⟩ (fun v89 u87 H locs hw88 hP hD hS => ?_)
          obtain ⟨X90, rfl⟩ : ∃ z, z = u87 := ⟨_, rfl⟩
          obtain ⟨hw88, h91⟩ := hw88
          have h91 : NewN X63 X90 nd59 32 (nI at0) (nI at6) (nI r12) (nI r62) := h91
          obtain rfl : v89 = some (.int (nI nd59)) := hw88
          have hP : va_P G.1 pCl (mW G h0 a (upd (upd (upd (upd (upd (upd (upd F 15 0) 16 pl58) 27 (nI (nd59 + 1))) 31 (nI wr61)) 64 (nI at56)) 65 (nI ne)) 66 (nI lk60)) (updA X90 2 K)) _ := mW_to (F := F) (l1 := [(15, 0), (16, pl58), (27, (nI nd59)), (31, (nI wr61)), (64, (nI at56)), (65, (nI ne)), (66, (nI lk60)), (27, (nI (nd59 + 1)))]) (l2 := [(15, 0), (16, pl58), (27, (nI (nd59 + 1))), (31, (nI wr61)), (64, (nI at56)), (65, (nI ne)), (66, (nI lk60))]) (V := [0, pl58, (nI (nd59 + 1)), (nI wr61), (nI at56), (nI ne), (nI lk60), (nI (nd59 + 1)), 0, pl58, (nI (nd59 + 1)), (nI wr61), (nI at56), (nI ne), (nI lk60)]) rfl rfl rfl hP
          have hD : va_D A (mW G h0 a (upd (upd (upd (upd (upd (upd (upd F 15 0) 16 pl58) 27 (nI (nd59 + 1))) 31 (nI wr61)) 64 (nI at56)) 65 (nI ne)) 66 (nI lk60)) (updA X90 2 K)) := mW_D hD
          refine W.widen (k := 0) (n := 0) (Nat.le_of_ble_eq_true rfl) (Nat.le_of_ble_eq_true rfl) ?_
          refine W.eq (g2 := F0 m 74 ls [.int (nI nd59)]) rfl ?_
          have hkp92 : Kp B X90 wr61 T := (Kp.new hkp78 h91)
          have hlo93 : Low B X90 nd wr := (Low.new hlo83 h91 (by omega))
          have hf94 : Frs K T wr61 X63 nd nd59 20000 [(r12, (210 + lk10 - (10 * ne + lk))), (r62, (211 + lk60 - (10 * ne + lk10)))] := (Frs.join hf84 hf81 (by omega) (by omega) (by omega))
          have hc95 : kcl 12 (X90 9 r12) = true := by rw [h91.2.1 9 r12 (by omega)]; exact hc85
          have hc96 : kcl 1 (X90 9 r62) = true := by rw [h91.2.1 9 r62 (by omega)]; exact hc82
          have hf97 : Frs K T wr61 X90 nd (nd59 + 1) nd59 [(nd59, 280)] := (Frs.new2 (k := 32) hf94 (by omega) (by omega) (by omega) h91 rfl rfl (by omega) rfl (by decide) (by decide) (by omega) (by omega) (fun e => absurd e (by decide)) (by simp) ⟨by decide, by decide, by decide, by decide⟩ ⟨by decide, by decide, by decide, by decide⟩ hc85 hc82 (newOK.m1 (by decide)) (newOK.m1 (by decide)) (by omega) (by omega))
          have hn98 : Nd X90 nd59 32 (nI r12) (nI r62) (-1) (-1) := (NewN.toNd h91)
          have hf99 : Frs K T wr61 X90 nd (nd59 + 1) 20000 [(nd59, 280)] := (Frs.fin (k := 32) hf97 hn98 rfl (by decide) (fun _ => nI_m1 (by omega)) (fun _ => nI_m1 (by omega)) (fun h => absurd h (by decide)) (fun h => absurd h (by decide)))
          have hz100 : at0 ≤ at56 := (by omega)
          have hz101 : at56 ≤ T := (by omega)
          have hz102 : 0 ≤ 100 := (by omega)
          have hz103 : nd ≤ (nd59 + 1) := (by omega)
          have hz104 : (nd59 + 1) + 2 * at0 ≤ nd + 2 * at56 + 100000 * 0 := (by omega)
          have hz105 : (nd59 + 1) + 2 * at0 ≤ nd + 2 * at56 + (40 * (21 - ne) + 5) := (by omega)
          have hz106 : wr ≤ wr61 := (by omega)
          have hz107 : wr61 + at0 ≤ wr + at56 := (by omega)
          have hz108 : lk ≤ lk60 := (by omega)
          have hz109 : lk60 ≤ 60 + 100 * 0 := (by omega)
          have hz110 : at0 + 1 ≤ at56 + 0 := (by omega)
          have hz111 : nd59 ≤ (nd59 + 1) := (by omega)
          have hz112 : Kp B X90 wr61 T := hkp92
          have hz113 : If (0 = 0) (Low B X90 nd wr ∧ Frs K T wr61 X90 nd (nd59 + 1) 20000 [(nd59, 280)] ∧ X90 9 nd59 = 32) := (fun _ => ⟨hlo93, Frs.up hf99 (by omega), hn98.1⟩)
          have hP : va_P G.1 pCl (mW G h0 a (upd (upd (upd (upd (upd (upd (upd F 15 (nI 0)) 16 pl58) 27 (nI (nd59 + 1))) 31 (nI wr61)) 64 (nI at56)) 65 (nI ne)) 66 (nI lk60)) (updA X90 2 K)) _ := mW_to (F := F) (l1 := [(15, 0), (16, pl58), (27, (nI (nd59 + 1))), (31, (nI wr61)), (64, (nI at56)), (65, (nI ne)), (66, (nI lk60))]) (l2 := [(15, (nI 0)), (16, pl58), (27, (nI (nd59 + 1))), (31, (nI wr61)), (64, (nI at56)), (65, (nI ne)), (66, (nI lk60))]) (V := [(nI 0), pl58, (nI (nd59 + 1)), (nI wr61), (nI at56), (nI ne), (nI lk60), (nI 0), pl58, (nI (nd59 + 1)), (nI wr61), (nI at56), (nI ne), (nI lk60)]) rfl rfl rfl hP
          have hD : va_D A (mW G h0 a (upd (upd (upd (upd (upd (upd (upd F 15 (nI 0)) 16 pl58) 27 (nI (nd59 + 1))) 31 (nI wr61)) 64 (nI at56)) 65 (nI ne)) 66 (nI lk60)) (updA X90 2 K)) := mW_D hD
          exact W.iret (v := (nI nd59)) hx hb hr (fun t9 ht9 hW9 => ⟨⟨_, (at56, 0, pl58, (nd59 + 1), lk60, wr61, nd59, X90), rfl, ⟨rfl, hz100, hz101, hz102, hz103, hz104, hz105, hz106, hz107, hz108, hz109, hz110, hz111, hz112, hz113⟩, by rw [ht9]; exact hP, hD⟩, hS.F ht9⟩) hS.2.2 dX12_simple_74
        · have e79 := e79
          have hP : va_P G.1 pCl (mW G h0 a (upd (upd (upd (upd (upd (upd (upd (upd F 15 (nI fa57)) 16 pl58) 27 (nI nd59)) 31 (nI wr61)) 64 (nI at56)) 65 (nI ne)) 66 (nI lk60)) 27 (nI nd59)) (updA X63 2 K)) _ := mW_to (F := F) (l1 := [(15, (nI fa57)), (16, pl58), (27, (nI nd59)), (31, (nI wr61)), (64, (nI at56)), (65, (nI ne)), (66, (nI lk60))]) (l2 := [(15, (nI fa57)), (16, pl58), (27, (nI nd59)), (31, (nI wr61)), (64, (nI at56)), (65, (nI ne)), (66, (nI lk60)), (27, (nI nd59))]) (V := [(nI fa57), pl58, (nI nd59), (nI wr61), (nI at56), (nI ne), (nI lk60), (nI fa57), pl58, (nI nd59), (nI wr61), (nI at56), (nI ne), (nI lk60), (nI nd59)]) rfl rfl rfl hP
          have hD : va_D A (mW G h0 a (upd (upd (upd (upd (upd (upd (upd (upd F 15 (nI fa57)) 16 pl58) 27 (nI nd59)) 31 (nI wr61)) 64 (nI at56)) 65 (nI ne)) 66 (nI lk60)) 27 (nI nd59)) (updA X63 2 K)) := mW_D hD
          refine pc_V0 (G := G) (As := [.int 32, .int (nI at0), .int (nI at6), .int (nI r12), .int (nI r62)]) (rest := []) hx hb hml hown hq hE hX pX0_al hP hD hS hA hl.1 (R_nodeB l G h0 a (upd (upd (upd (upd (upd (upd (upd F 15 (nI fa57)) 16 pl58) 27 (nI nd59)) 31 (nI wr61)) 64 (nI at56)) 65 (nI ne)) 66 (nI lk60)) X63 32 (nI at0) (nI at6) (nI r12) (nI r62) nd59 K (by omega)) (gV pw_1650 pw_1651 pw_1652 pw_1523 pw_1589) hV_X12_node 0 9 rfl rfl rfl rfl (Nat.le_of_ble_eq_true rfl) dX12_simple_71 ⟨Nat.le_of_ble_eq_true rfl, Nat.le_of_ble_eq_true rfl⟩ ⟨(by show 2 + 1 ≤ (26 * n + 30); omega), (by show 8 + (7 + 11) + 60 ≤ (2000 * n + 3000); omega)⟩ (fun v116 u114 H locs hw115 hP hD hS => ?_)
          obtain ⟨X117, rfl⟩ : ∃ z, z = u114 := ⟨_, rfl⟩
          obtain ⟨hw115, h118⟩ := hw115
          have h118 : NewN X63 X117 nd59 32 (nI at0) (nI at6) (nI r12) (nI r62) := h118
          obtain rfl : v116 = some (.int (nI nd59)) := hw115
          have hP : va_P G.1 pCl (mW G h0 a (upd (upd (upd (upd (upd (upd (upd F 15 (nI fa57)) 16 pl58) 27 (nI (nd59 + 1))) 31 (nI wr61)) 64 (nI at56)) 65 (nI ne)) 66 (nI lk60)) (updA X117 2 K)) _ := mW_to (F := F) (l1 := [(15, (nI fa57)), (16, pl58), (27, (nI nd59)), (31, (nI wr61)), (64, (nI at56)), (65, (nI ne)), (66, (nI lk60)), (27, (nI (nd59 + 1)))]) (l2 := [(15, (nI fa57)), (16, pl58), (27, (nI (nd59 + 1))), (31, (nI wr61)), (64, (nI at56)), (65, (nI ne)), (66, (nI lk60))]) (V := [(nI fa57), pl58, (nI (nd59 + 1)), (nI wr61), (nI at56), (nI ne), (nI lk60), (nI (nd59 + 1)), (nI fa57), pl58, (nI (nd59 + 1)), (nI wr61), (nI at56), (nI ne), (nI lk60)]) rfl rfl rfl hP
          have hD : va_D A (mW G h0 a (upd (upd (upd (upd (upd (upd (upd F 15 (nI fa57)) 16 pl58) 27 (nI (nd59 + 1))) 31 (nI wr61)) 64 (nI at56)) 65 (nI ne)) 66 (nI lk60)) (updA X117 2 K)) := mW_D hD
          refine W.widen (k := 0) (n := 0) (Nat.le_of_ble_eq_true rfl) (Nat.le_of_ble_eq_true rfl) ?_
          refine W.eq (g2 := F0 m 74 ls [.int (nI nd59)]) rfl ?_
          have hkp119 : Kp B X117 wr61 T := (Kp.new hkp78 h118)
          have hz120 : at0 ≤ at56 := (by omega)
          have hz121 : at56 ≤ T := (by omega)
          have hz122 : fa57 ≤ 100 := (by omega)
          have hz123 : nd ≤ (nd59 + 1) := (by omega)
          have hz124 : (nd59 + 1) + 2 * at0 ≤ nd + 2 * at56 + 100000 * fa57 := (by omega)
          have hz125 : (nd59 + 1) + 2 * at0 ≤ nd + 2 * at56 + (40 * (21 - ne) + 5) := (by omega)
          have hz126 : wr ≤ wr61 := (by omega)
          have hz127 : wr61 + at0 ≤ wr + at56 := (by omega)
          have hz128 : lk ≤ lk60 := (by omega)
          have hz129 : lk60 ≤ 60 + 100 * fa57 := (by omega)
          have hz130 : at0 + 1 ≤ at56 + fa57 := (by omega)
          have hz131 : nd59 ≤ (nd59 + 1) := (by omega)
          have hz132 : Kp B X117 wr61 T := hkp119
          have hz133 : If (fa57 = 0) (Low B X117 nd wr ∧ Frs K T wr61 X117 nd (nd59 + 1) 20000 [(nd59, 280)] ∧ X117 9 nd59 = 32) := (fun e => absurd e (by omega))
          have hP : va_P G.1 pCl (mW G h0 a (upd (upd (upd (upd (upd (upd (upd F 15 (nI fa57)) 16 pl58) 27 (nI (nd59 + 1))) 31 (nI wr61)) 64 (nI at56)) 65 (nI ne)) 66 (nI lk60)) (updA X117 2 K)) _ := hP
          have hD : va_D A (mW G h0 a (upd (upd (upd (upd (upd (upd (upd F 15 (nI fa57)) 16 pl58) 27 (nI (nd59 + 1))) 31 (nI wr61)) 64 (nI at56)) 65 (nI ne)) 66 (nI lk60)) (updA X117 2 K)) := mW_D hD
          exact W.iret (v := (nI nd59)) hx hb hr (fun t9 ht9 hW9 => ⟨⟨_, (at56, fa57, pl58, (nd59 + 1), lk60, wr61, nd59, X117), rfl, ⟨rfl, hz120, hz121, hz122, hz123, hz124, hz125, hz126, hz127, hz128, hz129, hz130, hz131, hz132, hz133⟩, by rw [ht9]; exact hP, hD⟩, hS.F ht9⟩) hS.2.2 dX12_simple_74
      · have e52 := e52
        refine lv_aload_n hx hb dX12_simple_60 rfl (lv_at hl 4 rfl) ?_
        refine lv_bipush (v := 32) hx hb dX12_simple_61 (by decide) ?_
        refine lv_iload_n hx hb dX12_simple_63 rfl (lv_at hl 3 rfl) ?_
        refine lv_iload hx hb dX12_simple_64 (lv_at hl 0 rfl) ?_
        refine lv_iload_n hx hb dX12_simple_66 rfl (lv_at hl 2 rfl) ?_
        refine lv_aload_n hx hb dX12_simple_67 rfl (lv_at hl 4 rfl) ?_
        have hP : va_P G.1 pCl (mW G h0 a (upd (upd (upd (upd (upd (upd (upd (upd (upd F 15 (nI fa42)) 16 pl43) 27 (nI nd9)) 31 (nI wr11)) 64 (nI at41)) 65 (nI ne)) 66 (nI lk10)) 15 (nI fa42)) 64 (nI at41)) (updA (updA X13 2 K) 2 K)) _ := mW_to (F := F) (l1 := [(15, (nI fa42)), (16, pl43), (27, (nI nd9)), (31, (nI wr11)), (64, (nI at41)), (65, (nI ne)), (66, (nI lk10))]) (l2 := [(15, (nI fa42)), (16, pl43), (27, (nI nd9)), (31, (nI wr11)), (64, (nI at41)), (65, (nI ne)), (66, (nI lk10)), (15, (nI fa42)), (64, (nI at41))]) (V := [(nI fa42), pl43, (nI nd9), (nI wr11), (nI at41), (nI ne), (nI lk10), (nI fa42), pl43, (nI nd9), (nI wr11), (nI at41), (nI ne), (nI lk10), (nI fa42), (nI at41)]) rfl rfl (show (updA X13 2 K) = (updA (updA X13 2 K) 2 K) from updsA_eq2 (F := X13) (l1 := [(2, K)]) (l2 := [(2, K), (2, K)]) (V := [K, K, K]) rfl rfl) hP
        have hD : va_D A (mW G h0 a (upd (upd (upd (upd (upd (upd (upd (upd (upd F 15 (nI fa42)) 16 pl43) 27 (nI nd9)) 31 (nI wr11)) 64 (nI at41)) 65 (nI ne)) 66 (nI lk10)) 15 (nI fa42)) 64 (nI at41)) (updA (updA X13 2 K) 2 K)) := mW_D hD
        refine pc_V0 (G := G) (As := []) (rest := [.int (nI r12), .int (nI at6), .int (nI at0), .int 32, .ref h0]) hx hb hml hown hq hE hX pX0_al hP hD hS hA hl.1 (RF_choice l G h0 a (upd (upd (upd (upd (upd (upd (upd F 15 (nI fa42)) 16 pl43) 27 (nI nd9)) 31 (nI wr11)) 64 (nI at41)) 65 (nI ne)) 66 (nI lk10)) (updA X13 2 K) at41 T fa42 K (by omega) (by omega) hK (by omega) e52) (gV pw_1640 pw_1641 pw_1642 pw_1523 pw_1656) hV_X12_choice 0 9 rfl rfl rfl rfl (Nat.le_of_ble_eq_true rfl) dX12_simple_68 ⟨Nat.le_of_ble_eq_true rfl, Nat.le_of_ble_eq_true rfl⟩ ⟨(by show 16 + 1 ≤ (26 * n + 30); omega), (by show 8 + (4 + 11) + 405 ≤ (2000 * n + 3000); omega)⟩ (fun v136 u134 H locs hw135 hP hD hS => ?_)
        obtain rfl : v136 = some (.int 0) := hw135
        have hP : va_P G.1 pCl (mW G h0 a (upd (upd (upd (upd (upd (upd (upd F 15 (nI fa42)) 16 pl43) 27 (nI nd9)) 31 (nI wr11)) 64 (nI at41)) 65 (nI ne)) 66 (nI lk10)) (updA X13 2 K)) _ := mW_to (F := F) (l1 := [(15, (nI fa42)), (16, pl43), (27, (nI nd9)), (31, (nI wr11)), (64, (nI at41)), (65, (nI ne)), (66, (nI lk10)), (15, (nI fa42)), (64, (nI at41))]) (l2 := [(15, (nI fa42)), (16, pl43), (27, (nI nd9)), (31, (nI wr11)), (64, (nI at41)), (65, (nI ne)), (66, (nI lk10))]) (V := [(nI fa42), pl43, (nI nd9), (nI wr11), (nI at41), (nI ne), (nI lk10), (nI fa42), (nI at41), (nI fa42), pl43, (nI nd9), (nI wr11), (nI at41), (nI ne), (nI lk10)]) rfl rfl (show (updA (updA X13 2 K) 2 K) = (updA X13 2 K) from updsA_eq2 (F := X13) (l1 := [(2, K), (2, K)]) (l2 := [(2, K)]) (V := [K, K, K]) rfl rfl) hP
        have hD : va_D A (mW G h0 a (upd (upd (upd (upd (upd (upd (upd F 15 (nI fa42)) 16 pl43) 27 (nI nd9)) 31 (nI wr11)) 64 (nI at41)) 65 (nI ne)) 66 (nI lk10)) (updA X13 2 K)) := mW_D hD
        refine W.widen (k := 0) (n := 0) (Nat.le_of_ble_eq_true rfl) (Nat.le_of_ble_eq_true rfl) ?_
        refine W.eq (g2 := F0 m 71 ls [.int 0, .int (nI r12), .int (nI at6), .int (nI at0), .int 32, .ref h0]) rfl ?_
        have hP : va_P G.1 pCl (mW G h0 a (upd (upd (upd (upd (upd (upd (upd (upd F 15 (nI fa42)) 16 pl43) 27 (nI nd9)) 31 (nI wr11)) 64 (nI at41)) 65 (nI ne)) 66 (nI lk10)) 27 (nI nd9)) (updA X13 2 K)) _ := mW_to (F := F) (l1 := [(15, (nI fa42)), (16, pl43), (27, (nI nd9)), (31, (nI wr11)), (64, (nI at41)), (65, (nI ne)), (66, (nI lk10))]) (l2 := [(15, (nI fa42)), (16, pl43), (27, (nI nd9)), (31, (nI wr11)), (64, (nI at41)), (65, (nI ne)), (66, (nI lk10)), (27, (nI nd9))]) (V := [(nI fa42), pl43, (nI nd9), (nI wr11), (nI at41), (nI ne), (nI lk10), (nI fa42), pl43, (nI nd9), (nI wr11), (nI at41), (nI ne), (nI lk10), (nI nd9)]) rfl rfl rfl hP
        have hD : va_D A (mW G h0 a (upd (upd (upd (upd (upd (upd (upd (upd F 15 (nI fa42)) 16 pl43) 27 (nI nd9)) 31 (nI wr11)) 64 (nI at41)) 65 (nI ne)) 66 (nI lk10)) 27 (nI nd9)) (updA X13 2 K)) := mW_D hD
        refine pc_V0 (G := G) (As := [.int 32, .int (nI at0), .int (nI at6), .int (nI r12), .int 0]) (rest := []) hx hb hml hown hq hE hX pX0_al hP hD hS hA hl.1 (R_nodeB l G h0 a (upd (upd (upd (upd (upd (upd (upd F 15 (nI fa42)) 16 pl43) 27 (nI nd9)) 31 (nI wr11)) 64 (nI at41)) 65 (nI ne)) 66 (nI lk10)) X13 32 (nI at0) (nI at6) (nI r12) 0 nd9 K (by omega)) (gV pw_1650 pw_1651 pw_1652 pw_1523 pw_1589) hV_X12_node 0 9 rfl rfl rfl rfl (Nat.le_of_ble_eq_true rfl) dX12_simple_71 ⟨Nat.le_of_ble_eq_true rfl, Nat.le_of_ble_eq_true rfl⟩ ⟨(by show 2 + 1 ≤ (26 * n + 30); omega), (by show 8 + (7 + 11) + 60 ≤ (2000 * n + 3000); omega)⟩ (fun v139 u137 H locs hw138 hP hD hS => ?_)
        obtain ⟨X140, rfl⟩ : ∃ z, z = u137 := ⟨_, rfl⟩
        obtain ⟨hw138, h141⟩ := hw138
        have h141 : NewN X13 X140 nd9 32 (nI at0) (nI at6) (nI r12) 0 := h141
        obtain rfl : v139 = some (.int (nI nd9)) := hw138
        have hP : va_P G.1 pCl (mW G h0 a (upd (upd (upd (upd (upd (upd (upd F 15 (nI fa42)) 16 pl43) 27 (nI (nd9 + 1))) 31 (nI wr11)) 64 (nI at41)) 65 (nI ne)) 66 (nI lk10)) (updA X140 2 K)) _ := mW_to (F := F) (l1 := [(15, (nI fa42)), (16, pl43), (27, (nI nd9)), (31, (nI wr11)), (64, (nI at41)), (65, (nI ne)), (66, (nI lk10)), (27, (nI (nd9 + 1)))]) (l2 := [(15, (nI fa42)), (16, pl43), (27, (nI (nd9 + 1))), (31, (nI wr11)), (64, (nI at41)), (65, (nI ne)), (66, (nI lk10))]) (V := [(nI fa42), pl43, (nI (nd9 + 1)), (nI wr11), (nI at41), (nI ne), (nI lk10), (nI (nd9 + 1)), (nI fa42), pl43, (nI (nd9 + 1)), (nI wr11), (nI at41), (nI ne), (nI lk10)]) rfl rfl rfl hP
        have hD : va_D A (mW G h0 a (upd (upd (upd (upd (upd (upd (upd F 15 (nI fa42)) 16 pl43) 27 (nI (nd9 + 1))) 31 (nI wr11)) 64 (nI at41)) 65 (nI ne)) 66 (nI lk10)) (updA X140 2 K)) := mW_D hD
        refine W.widen (k := 0) (n := 0) (Nat.le_of_ble_eq_true rfl) (Nat.le_of_ble_eq_true rfl) ?_
        refine W.eq (g2 := F0 m 74 ls [.int (nI nd9)]) rfl ?_
        have hkp142 : Kp B X140 wr11 T := (Kp.new hkp28 h141)
        have hz143 : at0 ≤ at41 := (by omega)
        have hz144 : at41 ≤ T := (by omega)
        have hz145 : fa42 ≤ 100 := (by omega)
        have hz146 : nd ≤ (nd9 + 1) := (by omega)
        have hz147 : (nd9 + 1) + 2 * at0 ≤ nd + 2 * at41 + 100000 * fa42 := (by omega)
        have hz148 : (nd9 + 1) + 2 * at0 ≤ nd + 2 * at41 + (40 * (21 - ne) + 5) := (by omega)
        have hz149 : wr ≤ wr11 := (by omega)
        have hz150 : wr11 + at0 ≤ wr + at41 := (by omega)
        have hz151 : lk ≤ lk10 := (by omega)
        have hz152 : lk10 ≤ 60 + 100 * fa42 := (by omega)
        have hz153 : at0 + 1 ≤ at41 + fa42 := (by omega)
        have hz154 : nd9 ≤ (nd9 + 1) := (by omega)
        have hz155 : Kp B X140 wr11 T := hkp142
        have hz156 : If (fa42 = 0) (Low B X140 nd wr ∧ Frs K T wr11 X140 nd (nd9 + 1) 20000 [(nd9, 280)] ∧ X140 9 nd9 = 32) := (fun e => absurd e (by omega))
        have hP : va_P G.1 pCl (mW G h0 a (upd (upd (upd (upd (upd (upd (upd F 15 (nI fa42)) 16 pl43) 27 (nI (nd9 + 1))) 31 (nI wr11)) 64 (nI at41)) 65 (nI ne)) 66 (nI lk10)) (updA X140 2 K)) _ := hP
        have hD : va_D A (mW G h0 a (upd (upd (upd (upd (upd (upd (upd F 15 (nI fa42)) 16 pl43) 27 (nI (nd9 + 1))) 31 (nI wr11)) 64 (nI at41)) 65 (nI ne)) 66 (nI lk10)) (updA X140 2 K)) := mW_D hD
        exact W.iret (v := (nI nd9)) hx hb hr (fun t9 ht9 hW9 => ⟨⟨_, (at41, fa42, pl43, (nd9 + 1), lk10, wr11, nd9, X140), rfl, ⟨rfl, hz143, hz144, hz145, hz146, hz147, hz148, hz149, hz150, hz151, hz152, hz153, hz154, hz155, hz156⟩, by rw [ht9]; exact hP, hD⟩, hS.F ht9⟩) hS.2.2 dX12_simple_74
    · refine lv_iload hx hb dX12_simple_34 (lv_at hl 0 rfl) ?_
      refine lv_bipush (v := 12) hx hb dX12_simple_36 (by decide) ?_
      refine lv_icmp_eq (tgt := 48) hx hb dX12_simple_38 (by decide) (fun c157 => ?_) (fun c157 => ?_)
      · have hc158 : kcl 12 (X13 9 r12) = true := (by rw [show X13 9 r12 = _ from c157]; decide)
        refine lv_aload_n hx hb dX12_simple_48 rfl (lv_at hl 3 rfl) ?_
        refine r_get (v := .int (nI at6)) hx hb hown hq hE hP 64 343 tFX12_64 (by decide) pw_1592 rfl dX12_simple_49 ?_
        refine lv_istore (lv' := [(5, .int (nI at6)), (4, .int ((X13 9) r12)), (3, .int (nI r12)), (2, .int (nI at0)), (0, .ref h0), (1, .int 0)]) hx hb dX12_simple_52 hl (by decide) rfl (fun ls hl => ?_)
        refine lv_aload_n hx hb dX12_simple_54 rfl (lv_at hl 4 rfl) ?_
        refine lv_bipush (v := 61) hx hb dX12_simple_55 (by decide) ?_
        have hP : va_P G.1 pCl (mW G h0 a (upd (upd (upd (upd (upd (upd (upd (upd (upd F 15 0) 16 pl8) 27 (nI nd9)) 31 (nI wr11)) 64 (nI at6)) 65 (nI ne)) 66 (nI lk10)) 15 (nI 0)) 64 (nI at6)) (updA (updA X13 2 K) 2 K)) _ := mW_to (F := F) (l1 := [(15, 0), (16, pl8), (27, (nI nd9)), (31, (nI wr11)), (64, (nI at6)), (65, (nI ne)), (66, (nI lk10))]) (l2 := [(15, 0), (16, pl8), (27, (nI nd9)), (31, (nI wr11)), (64, (nI at6)), (65, (nI ne)), (66, (nI lk10)), (15, (nI 0)), (64, (nI at6))]) (V := [(nI 0), pl8, (nI nd9), (nI wr11), (nI at6), (nI ne), (nI lk10), (nI 0), pl8, (nI nd9), (nI wr11), (nI at6), (nI ne), (nI lk10), (nI 0), (nI at6)]) rfl rfl (show (updA X13 2 K) = (updA (updA X13 2 K) 2 K) from updsA_eq2 (F := X13) (l1 := [(2, K)]) (l2 := [(2, K), (2, K)]) (V := [K, K, K]) rfl rfl) hP
        have hD : va_D A (mW G h0 a (upd (upd (upd (upd (upd (upd (upd (upd (upd F 15 0) 16 pl8) 27 (nI nd9)) 31 (nI wr11)) 64 (nI at6)) 65 (nI ne)) 66 (nI lk10)) 15 (nI 0)) 64 (nI at6)) (updA (updA X13 2 K) 2 K)) := mW_D hD
        refine pc_V0 (G := G) (As := [.int 61]) (rest := []) hx hb hml hown hq hE hX pX0_al hP hD hS hA hl.1 (R_take l G h0 a (upd (upd (upd (upd (upd (upd (upd F 15 0) 16 pl8) 27 (nI nd9)) 31 (nI wr11)) 64 (nI at6)) 65 (nI ne)) 66 (nI lk10)) (updA X13 2 K) at6 T 0 K 61 (by omega) (by omega) hK (by omega) (by decide) (by decide)) (gV pw_1614 pw_1615 pw_1616 pw_1523 pw_1601) hV_X12_take 0 9 rfl rfl rfl rfl (Nat.le_of_ble_eq_true rfl) dX12_simple_57 ⟨Nat.le_of_ble_eq_true rfl, Nat.le_of_ble_eq_true rfl⟩ ⟨(by show 4 + 1 ≤ (26 * n + 30); omega), (by show 8 + (2 + 11) + 103 ≤ (2000 * n + 3000); omega)⟩ (fun v161 u159 H locs hw160 hP hD hS => ?_)
        obtain ⟨at162, fa163, pl164⟩ := u159
        obtain ⟨hw160, h165, h166, h167, h168, h169, h170, h171, h172⟩ := hw160
        have h165 : at6 ≤ at162 := h165
        have h166 : at162 ≤ T := h166
        have h167 : 0 ≤ fa163 := h167
        have h168 : fa163 ≤ 100 := h168
        have h169 : If (0 < 0) (at162 = at6 ∧ fa163 = 0) := h169
        have h170 : at162 ≤ at6 + 1 := h170
        have h171 : at6 + 1 ≤ at162 + fa163 := h171
        have h172 : If (fa163 = 0) (K at6 = 61) := h172
        obtain rfl : v161 = none := hw160
        have hP : va_P G.1 pCl (mW G h0 a (upd (upd (upd (upd (upd (upd (upd F 15 (nI fa163)) 16 pl164) 27 (nI nd9)) 31 (nI wr11)) 64 (nI at162)) 65 (nI ne)) 66 (nI lk10)) (updA X13 2 K)) _ := mW_to (F := F) (l1 := [(15, 0), (16, pl8), (27, (nI nd9)), (31, (nI wr11)), (64, (nI at6)), (65, (nI ne)), (66, (nI lk10)), (15, (nI fa163)), (16, pl164), (64, (nI at162))]) (l2 := [(15, (nI fa163)), (16, pl164), (27, (nI nd9)), (31, (nI wr11)), (64, (nI at162)), (65, (nI ne)), (66, (nI lk10))]) (V := [(nI fa163), pl164, (nI nd9), (nI wr11), (nI at162), (nI ne), (nI lk10), (nI fa163), pl164, (nI at162), (nI fa163), pl164, (nI nd9), (nI wr11), (nI at162), (nI ne), (nI lk10)]) rfl rfl (show (updA (updA X13 2 K) 2 K) = (updA X13 2 K) from updsA_eq2 (F := X13) (l1 := [(2, K), (2, K)]) (l2 := [(2, K)]) (V := [K, K, K]) rfl rfl) hP
        have hD : va_D A (mW G h0 a (upd (upd (upd (upd (upd (upd (upd F 15 (nI fa163)) 16 pl164) 27 (nI nd9)) 31 (nI wr11)) 64 (nI at162)) 65 (nI ne)) 66 (nI lk10)) (updA X13 2 K)) := mW_D hD
        refine W.widen (k := 0) (n := 0) (Nat.le_of_ble_eq_true rfl) (Nat.le_of_ble_eq_true rfl) ?_
        refine W.eq (g2 := F0 m 60 ls []) rfl ?_
        rcases Nat.eq_zero_or_pos fa163 with e173 | e173
        · subst e173
          have hP : va_P G.1 pCl (mW G h0 a (upd (upd (upd (upd (upd (upd (upd F 15 0) 16 pl164) 27 (nI nd9)) 31 (nI wr11)) 64 (nI at162)) 65 (nI ne)) 66 (nI lk10)) (updA X13 2 K)) _ := hP
          have hD : va_D A (mW G h0 a (upd (upd (upd (upd (upd (upd (upd F 15 0) 16 pl164) 27 (nI nd9)) 31 (nI wr11)) 64 (nI at162)) 65 (nI ne)) 66 (nI lk10)) (updA X13 2 K)) := mW_D hD
          refine lv_aload_n hx hb dX12_simple_60 rfl (lv_at hl 4 rfl) ?_
          refine lv_bipush (v := 32) hx hb dX12_simple_61 (by decide) ?_
          refine lv_iload_n hx hb dX12_simple_63 rfl (lv_at hl 3 rfl) ?_
          refine lv_iload hx hb dX12_simple_64 (lv_at hl 0 rfl) ?_
          refine lv_iload_n hx hb dX12_simple_66 rfl (lv_at hl 2 rfl) ?_
          refine lv_aload_n hx hb dX12_simple_67 rfl (lv_at hl 4 rfl) ?_
          have hP : va_P G.1 pCl (mW G h0 a (upd (upd (upd (upd (upd (upd (upd (upd (upd (upd (upd (upd (upd F 15 0) 16 pl164) 27 (nI nd9)) 31 (nI wr11)) 64 (nI at162)) 65 (nI ne)) 66 (nI lk10)) 15 0) 27 (nI nd9)) 31 (nI wr11)) 64 (nI at162)) 65 (nI ne)) 66 (nI lk10)) (updA X13 2 K)) _ := mW_to (F := F) (l1 := [(15, 0), (16, pl164), (27, (nI nd9)), (31, (nI wr11)), (64, (nI at162)), (65, (nI ne)), (66, (nI lk10))]) (l2 := [(15, 0), (16, pl164), (27, (nI nd9)), (31, (nI wr11)), (64, (nI at162)), (65, (nI ne)), (66, (nI lk10)), (15, 0), (27, (nI nd9)), (31, (nI wr11)), (64, (nI at162)), (65, (nI ne)), (66, (nI lk10))]) (V := [0, pl164, (nI nd9), (nI wr11), (nI at162), (nI ne), (nI lk10), 0, pl164, (nI nd9), (nI wr11), (nI at162), (nI ne), (nI lk10), 0, (nI nd9), (nI wr11), (nI at162), (nI ne), (nI lk10)]) rfl rfl rfl hP
          have hD : va_D A (mW G h0 a (upd (upd (upd (upd (upd (upd (upd (upd (upd (upd (upd (upd (upd F 15 0) 16 pl164) 27 (nI nd9)) 31 (nI wr11)) 64 (nI at162)) 65 (nI ne)) 66 (nI lk10)) 15 0) 27 (nI nd9)) 31 (nI wr11)) 64 (nI at162)) 65 (nI ne)) 66 (nI lk10)) (updA X13 2 K)) := mW_D hD
          refine pc_V0 (G := G) (As := []) (rest := [.int (nI r12), .int (nI at6), .int (nI at0), .int 32, .ref h0]) hx hb hml hown hq hE hX pX0_al hP hD hS hA hl.1 (hEc h0 a (upd (upd (upd (upd (upd (upd (upd F 15 0) 16 pl164) 27 (nI nd9)) 31 (nI wr11)) 64 (nI at162)) 65 (nI ne)) 66 (nI lk10)) X13 at162 T ne nd9 wr11 lk10 K (by omega) (by omega) hK (by omega) (by omega) (by omega) (by omega) (hkp28).2 (by omega)) (gV pw_1640 pw_1641 pw_1642 pw_1523 pw_1656) hV_X12_choice 0 9 rfl rfl rfl rfl (Nat.le_of_ble_eq_true rfl) dX12_simple_68 ⟨Nat.le_of_ble_eq_true rfl, Nat.le_of_ble_eq_true rfl⟩ ⟨(by show (20 * n + 27) + 1 ≤ (26 * n + 30); omega), (by show 8 + (4 + 11) + (1000 * n + 40 * 27) ≤ (2000 * n + 3000); omega)⟩ (fun v176 u174 H locs hw175 hP hD hS => ?_)
          obtain ⟨at177, fa178, pl179, nd180, lk181, wr182, r183, X184⟩ := u174
          obtain ⟨hw175, h185, h186, h187, h188, h189, h190, h191, h192, h193, h194, h195, h196, h197, h198⟩ := hw175
          have h185 : at162 ≤ at177 := h185
          have h186 : at177 ≤ T := h186
          have h187 : fa178 ≤ 100 := h187
          have h188 : nd9 ≤ nd180 := h188
          have h189 : nd180 + 2 * at162 ≤ nd9 + 2 * at177 + 100000 * fa178 := h189
          have h190 : nd180 + 2 * at162 ≤ nd9 + 2 * at177 + 40 * (21 - ne) := h190
          have h191 : wr11 ≤ wr182 := h191
          have h192 : wr182 + at162 ≤ wr11 + at177 := h192
          have h193 : lk10 ≤ lk181 := h193
          have h194 : lk181 ≤ 60 + 100 * fa178 := h194
          have h195 : at162 + 1 ≤ at177 + fa178 := h195
          have h196 : r183 ≤ nd180 := h196
          have h197 : Kp X13 X184 wr182 T := h197
          have h198 : If (fa178 = 0) (Low X13 X184 nd9 wr11 ∧ Frs K T wr182 X184 nd9 nd180 20000 [(r183, (211 + lk181 - (10 * ne + lk10)))] ∧ kcl 1 (X184 9 r183) = true) := h198
          obtain rfl : v176 = some (.int (nI r183)) := hw175
          have hP : va_P G.1 pCl (mW G h0 a (upd (upd (upd (upd (upd (upd (upd F 15 (nI fa178)) 16 pl179) 27 (nI nd180)) 31 (nI wr182)) 64 (nI at177)) 65 (nI ne)) 66 (nI lk181)) (updA X184 2 K)) _ := mW_to (F := F) (l1 := [(15, 0), (16, pl164), (27, (nI nd9)), (31, (nI wr11)), (64, (nI at162)), (65, (nI ne)), (66, (nI lk10)), (15, (nI fa178)), (16, pl179), (27, (nI nd180)), (31, (nI wr182)), (64, (nI at177)), (65, (nI ne)), (66, (nI lk181))]) (l2 := [(15, (nI fa178)), (16, pl179), (27, (nI nd180)), (31, (nI wr182)), (64, (nI at177)), (65, (nI ne)), (66, (nI lk181))]) (V := [(nI fa178), pl179, (nI nd180), (nI wr182), (nI at177), (nI ne), (nI lk181), (nI fa178), pl179, (nI nd180), (nI wr182), (nI at177), (nI ne), (nI lk181), (nI fa178), pl179, (nI nd180), (nI wr182), (nI at177), (nI ne), (nI lk181)]) rfl rfl rfl hP
          have hD : va_D A (mW G h0 a (upd (upd (upd (upd (upd (upd (upd F 15 (nI fa178)) 16 pl179) 27 (nI nd180)) 31 (nI wr182)) 64 (nI at177)) 65 (nI ne)) 66 (nI lk181)) (updA X184 2 K)) := mW_D hD
          refine W.widen (k := 0) (n := 0) (Nat.le_of_ble_eq_true rfl) (Nat.le_of_ble_eq_true rfl) ?_
          refine W.eq (g2 := F0 m 71 ls [.int (nI r183), .int (nI r12), .int (nI at6), .int (nI at0), .int 32, .ref h0]) rfl ?_
          have hkp199 : Kp B X184 wr182 T := (Kp.trans hkp28 h197)
          rcases Nat.eq_zero_or_pos fa178 with e200 | e200
          · subst e200
            have hP : va_P G.1 pCl (mW G h0 a (upd (upd (upd (upd (upd (upd (upd F 15 0) 16 pl179) 27 (nI nd180)) 31 (nI wr182)) 64 (nI at177)) 65 (nI ne)) 66 (nI lk181)) (updA X184 2 K)) _ := hP
            have hD : va_D A (mW G h0 a (upd (upd (upd (upd (upd (upd (upd F 15 0) 16 pl179) 27 (nI nd180)) 31 (nI wr182)) 64 (nI at177)) 65 (nI ne)) 66 (nI lk181)) (updA X184 2 K)) := mW_D hD
            obtain ⟨hlw201, hf202, hc203⟩ := h198 rfl
            have hlo204 : Low B X184 nd wr := (Low.trans hlo33 hlw201 (by omega) (by omega))
            have hf205 : Frs K T wr182 X184 nd nd9 20000 [(r12, (210 + lk10 - (10 * ne + lk)))] := (Frs.same hf31 (by omega) (fun j i q1 q2 q3 q4 => (hlw201.1 j i q1 (by omega) (by omega))))
            have hc206 : kcl 12 (X184 9 r12) = true := by rw [hlw201.1 9 r12 (by omega) (by omega) (by omega)]; exact hc158
            have hm207 := Frs.mem hf202
            have hP : va_P G.1 pCl (mW G h0 a (upd (upd (upd (upd (upd (upd (upd (upd F 15 0) 16 pl179) 27 (nI nd180)) 31 (nI wr182)) 64 (nI at177)) 65 (nI ne)) 66 (nI lk181)) 27 (nI nd180)) (updA X184 2 K)) _ := mW_to (F := F) (l1 := [(15, 0), (16, pl179), (27, (nI nd180)), (31, (nI wr182)), (64, (nI at177)), (65, (nI ne)), (66, (nI lk181))]) (l2 := [(15, 0), (16, pl179), (27, (nI nd180)), (31, (nI wr182)), (64, (nI at177)), (65, (nI ne)), (66, (nI lk181)), (27, (nI nd180))]) (V := [0, pl179, (nI nd180), (nI wr182), (nI at177), (nI ne), (nI lk181), 0, pl179, (nI nd180), (nI wr182), (nI at177), (nI ne), (nI lk181), (nI nd180)]) rfl rfl rfl hP
            have hD : va_D A (mW G h0 a (upd (upd (upd (upd (upd (upd (upd (upd F 15 0) 16 pl179) 27 (nI nd180)) 31 (nI wr182)) 64 (nI at177)) 65 (nI ne)) 66 (nI lk181)) 27 (nI nd180)) (updA X184 2 K)) := mW_D hD
            refine pc_V0 (G := G) (As := [.int 32, .int (nI at0), .int (nI at6), .int (nI r12), .int (nI r183)]) (rest := []) hx hb hml hown hq hE hX pX0_al hP hD hS hA hl.1 (R_nodeB l G h0 a (upd (upd (upd (upd (upd (upd (upd F 15 0) 16 pl179) 27 (nI nd180)) 31 (nI wr182)) 64 (nI at177)) 65 (nI ne)) 66 (nI lk181)) X184 32 (nI at0) (nI at6) (nI r12) (nI r183) nd180 K (by omega)) (gV pw_1650 pw_1651 pw_1652 pw_1523 pw_1589) hV_X12_node 0 9 rfl rfl rfl rfl (Nat.le_of_ble_eq_true rfl) dX12_simple_71 ⟨Nat.le_of_ble_eq_true rfl, Nat.le_of_ble_eq_true rfl⟩ ⟨(by show 2 + 1 ≤ (26 * n + 30); omega), (by show 8 + (7 + 11) + 60 ≤ (2000 * n + 3000); omega)⟩ (fun v210 u208 H locs hw209 hP hD hS => ?_)
            obtain ⟨X211, rfl⟩ : ∃ z, z = u208 := ⟨_, rfl⟩
            obtain ⟨hw209, h212⟩ := hw209
            have h212 : NewN X184 X211 nd180 32 (nI at0) (nI at6) (nI r12) (nI r183) := h212
            obtain rfl : v210 = some (.int (nI nd180)) := hw209
            have hP : va_P G.1 pCl (mW G h0 a (upd (upd (upd (upd (upd (upd (upd F 15 0) 16 pl179) 27 (nI (nd180 + 1))) 31 (nI wr182)) 64 (nI at177)) 65 (nI ne)) 66 (nI lk181)) (updA X211 2 K)) _ := mW_to (F := F) (l1 := [(15, 0), (16, pl179), (27, (nI nd180)), (31, (nI wr182)), (64, (nI at177)), (65, (nI ne)), (66, (nI lk181)), (27, (nI (nd180 + 1)))]) (l2 := [(15, 0), (16, pl179), (27, (nI (nd180 + 1))), (31, (nI wr182)), (64, (nI at177)), (65, (nI ne)), (66, (nI lk181))]) (V := [0, pl179, (nI (nd180 + 1)), (nI wr182), (nI at177), (nI ne), (nI lk181), (nI (nd180 + 1)), 0, pl179, (nI (nd180 + 1)), (nI wr182), (nI at177), (nI ne), (nI lk181)]) rfl rfl rfl hP
            have hD : va_D A (mW G h0 a (upd (upd (upd (upd (upd (upd (upd F 15 0) 16 pl179) 27 (nI (nd180 + 1))) 31 (nI wr182)) 64 (nI at177)) 65 (nI ne)) 66 (nI lk181)) (updA X211 2 K)) := mW_D hD
            refine W.widen (k := 0) (n := 0) (Nat.le_of_ble_eq_true rfl) (Nat.le_of_ble_eq_true rfl) ?_
            refine W.eq (g2 := F0 m 74 ls [.int (nI nd180)]) rfl ?_
            have hkp213 : Kp B X211 wr182 T := (Kp.new hkp199 h212)
            have hlo214 : Low B X211 nd wr := (Low.new hlo204 h212 (by omega))
            have hf215 : Frs K T wr182 X184 nd nd180 20000 [(r12, (210 + lk10 - (10 * ne + lk))), (r183, (211 + lk181 - (10 * ne + lk10)))] := (Frs.join hf205 hf202 (by omega) (by omega) (by omega))
            have hc216 : kcl 12 (X211 9 r12) = true := by rw [h212.2.1 9 r12 (by omega)]; exact hc206
            have hc217 : kcl 1 (X211 9 r183) = true := by rw [h212.2.1 9 r183 (by omega)]; exact hc203
            have hf218 : Frs K T wr182 X211 nd (nd180 + 1) nd180 [(nd180, 280)] := (Frs.new2 (k := 32) hf215 (by omega) (by omega) (by omega) h212 rfl rfl (by omega) rfl (by decide) (by decide) (by omega) (by omega) (fun e => absurd e (by decide)) (by simp) ⟨by decide, by decide, by decide, by decide⟩ ⟨by decide, by decide, by decide, by decide⟩ hc206 hc203 (newOK.m1 (by decide)) (newOK.m1 (by decide)) (by omega) (by omega))
            have hn219 : Nd X211 nd180 32 (nI r12) (nI r183) (-1) (-1) := (NewN.toNd h212)
            have hf220 : Frs K T wr182 X211 nd (nd180 + 1) 20000 [(nd180, 280)] := (Frs.fin (k := 32) hf218 hn219 rfl (by decide) (fun _ => nI_m1 (by omega)) (fun _ => nI_m1 (by omega)) (fun h => absurd h (by decide)) (fun h => absurd h (by decide)))
            have hz221 : at0 ≤ at177 := (by omega)
            have hz222 : at177 ≤ T := (by omega)
            have hz223 : 0 ≤ 100 := (by omega)
            have hz224 : nd ≤ (nd180 + 1) := (by omega)
            have hz225 : (nd180 + 1) + 2 * at0 ≤ nd + 2 * at177 + 100000 * 0 := (by omega)
            have hz226 : (nd180 + 1) + 2 * at0 ≤ nd + 2 * at177 + (40 * (21 - ne) + 5) := (by omega)
            have hz227 : wr ≤ wr182 := (by omega)
            have hz228 : wr182 + at0 ≤ wr + at177 := (by omega)
            have hz229 : lk ≤ lk181 := (by omega)
            have hz230 : lk181 ≤ 60 + 100 * 0 := (by omega)
            have hz231 : at0 + 1 ≤ at177 + 0 := (by omega)
            have hz232 : nd180 ≤ (nd180 + 1) := (by omega)
            have hz233 : Kp B X211 wr182 T := hkp213
            have hz234 : If (0 = 0) (Low B X211 nd wr ∧ Frs K T wr182 X211 nd (nd180 + 1) 20000 [(nd180, 280)] ∧ X211 9 nd180 = 32) := (fun _ => ⟨hlo214, Frs.up hf220 (by omega), hn219.1⟩)
            have hP : va_P G.1 pCl (mW G h0 a (upd (upd (upd (upd (upd (upd (upd F 15 (nI 0)) 16 pl179) 27 (nI (nd180 + 1))) 31 (nI wr182)) 64 (nI at177)) 65 (nI ne)) 66 (nI lk181)) (updA X211 2 K)) _ := mW_to (F := F) (l1 := [(15, 0), (16, pl179), (27, (nI (nd180 + 1))), (31, (nI wr182)), (64, (nI at177)), (65, (nI ne)), (66, (nI lk181))]) (l2 := [(15, (nI 0)), (16, pl179), (27, (nI (nd180 + 1))), (31, (nI wr182)), (64, (nI at177)), (65, (nI ne)), (66, (nI lk181))]) (V := [(nI 0), pl179, (nI (nd180 + 1)), (nI wr182), (nI at177), (nI ne), (nI lk181), (nI 0), pl179, (nI (nd180 + 1)), (nI wr182), (nI at177), (nI ne), (nI lk181)]) rfl rfl rfl hP
            have hD : va_D A (mW G h0 a (upd (upd (upd (upd (upd (upd (upd F 15 (nI 0)) 16 pl179) 27 (nI (nd180 + 1))) 31 (nI wr182)) 64 (nI at177)) 65 (nI ne)) 66 (nI lk181)) (updA X211 2 K)) := mW_D hD
            exact W.iret (v := (nI nd180)) hx hb hr (fun t9 ht9 hW9 => ⟨⟨_, (at177, 0, pl179, (nd180 + 1), lk181, wr182, nd180, X211), rfl, ⟨rfl, hz221, hz222, hz223, hz224, hz225, hz226, hz227, hz228, hz229, hz230, hz231, hz232, hz233, hz234⟩, by rw [ht9]; exact hP, hD⟩, hS.F ht9⟩) hS.2.2 dX12_simple_74
          · have e200 := e200
            have hP : va_P G.1 pCl (mW G h0 a (upd (upd (upd (upd (upd (upd (upd (upd F 15 (nI fa178)) 16 pl179) 27 (nI nd180)) 31 (nI wr182)) 64 (nI at177)) 65 (nI ne)) 66 (nI lk181)) 27 (nI nd180)) (updA X184 2 K)) _ := mW_to (F := F) (l1 := [(15, (nI fa178)), (16, pl179), (27, (nI nd180)), (31, (nI wr182)), (64, (nI at177)), (65, (nI ne)), (66, (nI lk181))]) (l2 := [(15, (nI fa178)), (16, pl179), (27, (nI nd180)), (31, (nI wr182)), (64, (nI at177)), (65, (nI ne)), (66, (nI lk181)), (27, (nI nd180))]) (V := [(nI fa178), pl179, (nI nd180), (nI wr182), (nI at177), (nI ne), (nI lk181), (nI fa178), pl179, (nI nd180), (nI wr182), (nI at177), (nI ne), (nI lk181), (nI nd180)]) rfl rfl rfl hP
            have hD : va_D A (mW G h0 a (upd (upd (upd (upd (upd (upd (upd (upd F 15 (nI fa178)) 16 pl179) 27 (nI nd180)) 31 (nI wr182)) 64 (nI at177)) 65 (nI ne)) 66 (nI lk181)) 27 (nI nd180)) (updA X184 2 K)) := mW_D hD
            refine pc_V0 (G := G) (As := [.int 32, .int (nI at0), .int (nI at6), .int (nI r12), .int (nI r183)]) (rest := []) hx hb hml hown hq hE hX pX0_al hP hD hS hA hl.1 (R_nodeB l G h0 a (upd (upd (upd (upd (upd (upd (upd F 15 (nI fa178)) 16 pl179) 27 (nI nd180)) 31 (nI wr182)) 64 (nI at177)) 65 (nI ne)) 66 (nI lk181)) X184 32 (nI at0) (nI at6) (nI r12) (nI r183) nd180 K (by omega)) (gV pw_1650 pw_1651 pw_1652 pw_1523 pw_1589) hV_X12_node 0 9 rfl rfl rfl rfl (Nat.le_of_ble_eq_true rfl) dX12_simple_71 ⟨Nat.le_of_ble_eq_true rfl, Nat.le_of_ble_eq_true rfl⟩ ⟨(by show 2 + 1 ≤ (26 * n + 30); omega), (by show 8 + (7 + 11) + 60 ≤ (2000 * n + 3000); omega)⟩ (fun v237 u235 H locs hw236 hP hD hS => ?_)
            obtain ⟨X238, rfl⟩ : ∃ z, z = u235 := ⟨_, rfl⟩
            obtain ⟨hw236, h239⟩ := hw236
            have h239 : NewN X184 X238 nd180 32 (nI at0) (nI at6) (nI r12) (nI r183) := h239
            obtain rfl : v237 = some (.int (nI nd180)) := hw236
            have hP : va_P G.1 pCl (mW G h0 a (upd (upd (upd (upd (upd (upd (upd F 15 (nI fa178)) 16 pl179) 27 (nI (nd180 + 1))) 31 (nI wr182)) 64 (nI at177)) 65 (nI ne)) 66 (nI lk181)) (updA X238 2 K)) _ := mW_to (F := F) (l1 := [(15, (nI fa178)), (16, pl179), (27, (nI nd180)), (31, (nI wr182)), (64, (nI at177)), (65, (nI ne)), (66, (nI lk181)), (27, (nI (nd180 + 1)))]) (l2 := [(15, (nI fa178)), (16, pl179), (27, (nI (nd180 + 1))), (31, (nI wr182)), (64, (nI at177)), (65, (nI ne)), (66, (nI lk181))]) (V := [(nI fa178), pl179, (nI (nd180 + 1)), (nI wr182), (nI at177), (nI ne), (nI lk181), (nI (nd180 + 1)), (nI fa178), pl179, (nI (nd180 + 1)), (nI wr182), (nI at177), (nI ne), (nI lk181)]) rfl rfl rfl hP
            have hD : va_D A (mW G h0 a (upd (upd (upd (upd (upd (upd (upd F 15 (nI fa178)) 16 pl179) 27 (nI (nd180 + 1))) 31 (nI wr182)) 64 (nI at177)) 65 (nI ne)) 66 (nI lk181)) (updA X238 2 K)) := mW_D hD
            refine W.widen (k := 0) (n := 0) (Nat.le_of_ble_eq_true rfl) (Nat.le_of_ble_eq_true rfl) ?_
            refine W.eq (g2 := F0 m 74 ls [.int (nI nd180)]) rfl ?_
            have hkp240 : Kp B X238 wr182 T := (Kp.new hkp199 h239)
            have hz241 : at0 ≤ at177 := (by omega)
            have hz242 : at177 ≤ T := (by omega)
            have hz243 : fa178 ≤ 100 := (by omega)
            have hz244 : nd ≤ (nd180 + 1) := (by omega)
            have hz245 : (nd180 + 1) + 2 * at0 ≤ nd + 2 * at177 + 100000 * fa178 := (by omega)
            have hz246 : (nd180 + 1) + 2 * at0 ≤ nd + 2 * at177 + (40 * (21 - ne) + 5) := (by omega)
            have hz247 : wr ≤ wr182 := (by omega)
            have hz248 : wr182 + at0 ≤ wr + at177 := (by omega)
            have hz249 : lk ≤ lk181 := (by omega)
            have hz250 : lk181 ≤ 60 + 100 * fa178 := (by omega)
            have hz251 : at0 + 1 ≤ at177 + fa178 := (by omega)
            have hz252 : nd180 ≤ (nd180 + 1) := (by omega)
            have hz253 : Kp B X238 wr182 T := hkp240
            have hz254 : If (fa178 = 0) (Low B X238 nd wr ∧ Frs K T wr182 X238 nd (nd180 + 1) 20000 [(nd180, 280)] ∧ X238 9 nd180 = 32) := (fun e => absurd e (by omega))
            have hP : va_P G.1 pCl (mW G h0 a (upd (upd (upd (upd (upd (upd (upd F 15 (nI fa178)) 16 pl179) 27 (nI (nd180 + 1))) 31 (nI wr182)) 64 (nI at177)) 65 (nI ne)) 66 (nI lk181)) (updA X238 2 K)) _ := hP
            have hD : va_D A (mW G h0 a (upd (upd (upd (upd (upd (upd (upd F 15 (nI fa178)) 16 pl179) 27 (nI (nd180 + 1))) 31 (nI wr182)) 64 (nI at177)) 65 (nI ne)) 66 (nI lk181)) (updA X238 2 K)) := mW_D hD
            exact W.iret (v := (nI nd180)) hx hb hr (fun t9 ht9 hW9 => ⟨⟨_, (at177, fa178, pl179, (nd180 + 1), lk181, wr182, nd180, X238), rfl, ⟨rfl, hz241, hz242, hz243, hz244, hz245, hz246, hz247, hz248, hz249, hz250, hz251, hz252, hz253, hz254⟩, by rw [ht9]; exact hP, hD⟩, hS.F ht9⟩) hS.2.2 dX12_simple_74
        · have e173 := e173
          refine lv_aload_n hx hb dX12_simple_60 rfl (lv_at hl 4 rfl) ?_
          refine lv_bipush (v := 32) hx hb dX12_simple_61 (by decide) ?_
          refine lv_iload_n hx hb dX12_simple_63 rfl (lv_at hl 3 rfl) ?_
          refine lv_iload hx hb dX12_simple_64 (lv_at hl 0 rfl) ?_
          refine lv_iload_n hx hb dX12_simple_66 rfl (lv_at hl 2 rfl) ?_
          refine lv_aload_n hx hb dX12_simple_67 rfl (lv_at hl 4 rfl) ?_
          have hP : va_P G.1 pCl (mW G h0 a (upd (upd (upd (upd (upd (upd (upd (upd (upd F 15 (nI fa163)) 16 pl164) 27 (nI nd9)) 31 (nI wr11)) 64 (nI at162)) 65 (nI ne)) 66 (nI lk10)) 15 (nI fa163)) 64 (nI at162)) (updA (updA X13 2 K) 2 K)) _ := mW_to (F := F) (l1 := [(15, (nI fa163)), (16, pl164), (27, (nI nd9)), (31, (nI wr11)), (64, (nI at162)), (65, (nI ne)), (66, (nI lk10))]) (l2 := [(15, (nI fa163)), (16, pl164), (27, (nI nd9)), (31, (nI wr11)), (64, (nI at162)), (65, (nI ne)), (66, (nI lk10)), (15, (nI fa163)), (64, (nI at162))]) (V := [(nI fa163), pl164, (nI nd9), (nI wr11), (nI at162), (nI ne), (nI lk10), (nI fa163), pl164, (nI nd9), (nI wr11), (nI at162), (nI ne), (nI lk10), (nI fa163), (nI at162)]) rfl rfl (show (updA X13 2 K) = (updA (updA X13 2 K) 2 K) from updsA_eq2 (F := X13) (l1 := [(2, K)]) (l2 := [(2, K), (2, K)]) (V := [K, K, K]) rfl rfl) hP
          have hD : va_D A (mW G h0 a (upd (upd (upd (upd (upd (upd (upd (upd (upd F 15 (nI fa163)) 16 pl164) 27 (nI nd9)) 31 (nI wr11)) 64 (nI at162)) 65 (nI ne)) 66 (nI lk10)) 15 (nI fa163)) 64 (nI at162)) (updA (updA X13 2 K) 2 K)) := mW_D hD
          refine pc_V0 (G := G) (As := []) (rest := [.int (nI r12), .int (nI at6), .int (nI at0), .int 32, .ref h0]) hx hb hml hown hq hE hX pX0_al hP hD hS hA hl.1 (RF_choice l G h0 a (upd (upd (upd (upd (upd (upd (upd F 15 (nI fa163)) 16 pl164) 27 (nI nd9)) 31 (nI wr11)) 64 (nI at162)) 65 (nI ne)) 66 (nI lk10)) (updA X13 2 K) at162 T fa163 K (by omega) (by omega) hK (by omega) e173) (gV pw_1640 pw_1641 pw_1642 pw_1523 pw_1656) hV_X12_choice 0 9 rfl rfl rfl rfl (Nat.le_of_ble_eq_true rfl) dX12_simple_68 ⟨Nat.le_of_ble_eq_true rfl, Nat.le_of_ble_eq_true rfl⟩ ⟨(by show 16 + 1 ≤ (26 * n + 30); omega), (by show 8 + (4 + 11) + 405 ≤ (2000 * n + 3000); omega)⟩ (fun v257 u255 H locs hw256 hP hD hS => ?_)
          obtain rfl : v257 = some (.int 0) := hw256
          have hP : va_P G.1 pCl (mW G h0 a (upd (upd (upd (upd (upd (upd (upd F 15 (nI fa163)) 16 pl164) 27 (nI nd9)) 31 (nI wr11)) 64 (nI at162)) 65 (nI ne)) 66 (nI lk10)) (updA X13 2 K)) _ := mW_to (F := F) (l1 := [(15, (nI fa163)), (16, pl164), (27, (nI nd9)), (31, (nI wr11)), (64, (nI at162)), (65, (nI ne)), (66, (nI lk10)), (15, (nI fa163)), (64, (nI at162))]) (l2 := [(15, (nI fa163)), (16, pl164), (27, (nI nd9)), (31, (nI wr11)), (64, (nI at162)), (65, (nI ne)), (66, (nI lk10))]) (V := [(nI fa163), pl164, (nI nd9), (nI wr11), (nI at162), (nI ne), (nI lk10), (nI fa163), (nI at162), (nI fa163), pl164, (nI nd9), (nI wr11), (nI at162), (nI ne), (nI lk10)]) rfl rfl (show (updA (updA X13 2 K) 2 K) = (updA X13 2 K) from updsA_eq2 (F := X13) (l1 := [(2, K), (2, K)]) (l2 := [(2, K)]) (V := [K, K, K]) rfl rfl) hP
          have hD : va_D A (mW G h0 a (upd (upd (upd (upd (upd (upd (upd F 15 (nI fa163)) 16 pl164) 27 (nI nd9)) 31 (nI wr11)) 64 (nI at162)) 65 (nI ne)) 66 (nI lk10)) (updA X13 2 K)) := mW_D hD
          refine W.widen (k := 0) (n := 0) (Nat.le_of_ble_eq_true rfl) (Nat.le_of_ble_eq_true rfl) ?_
          refine W.eq (g2 := F0 m 71 ls [.int 0, .int (nI r12), .int (nI at6), .int (nI at0), .int 32, .ref h0]) rfl ?_
          have hP : va_P G.1 pCl (mW G h0 a (upd (upd (upd (upd (upd (upd (upd (upd F 15 (nI fa163)) 16 pl164) 27 (nI nd9)) 31 (nI wr11)) 64 (nI at162)) 65 (nI ne)) 66 (nI lk10)) 27 (nI nd9)) (updA X13 2 K)) _ := mW_to (F := F) (l1 := [(15, (nI fa163)), (16, pl164), (27, (nI nd9)), (31, (nI wr11)), (64, (nI at162)), (65, (nI ne)), (66, (nI lk10))]) (l2 := [(15, (nI fa163)), (16, pl164), (27, (nI nd9)), (31, (nI wr11)), (64, (nI at162)), (65, (nI ne)), (66, (nI lk10)), (27, (nI nd9))]) (V := [(nI fa163), pl164, (nI nd9), (nI wr11), (nI at162), (nI ne), (nI lk10), (nI fa163), pl164, (nI nd9), (nI wr11), (nI at162), (nI ne), (nI lk10), (nI nd9)]) rfl rfl rfl hP
          have hD : va_D A (mW G h0 a (upd (upd (upd (upd (upd (upd (upd (upd F 15 (nI fa163)) 16 pl164) 27 (nI nd9)) 31 (nI wr11)) 64 (nI at162)) 65 (nI ne)) 66 (nI lk10)) 27 (nI nd9)) (updA X13 2 K)) := mW_D hD
          refine pc_V0 (G := G) (As := [.int 32, .int (nI at0), .int (nI at6), .int (nI r12), .int 0]) (rest := []) hx hb hml hown hq hE hX pX0_al hP hD hS hA hl.1 (R_nodeB l G h0 a (upd (upd (upd (upd (upd (upd (upd F 15 (nI fa163)) 16 pl164) 27 (nI nd9)) 31 (nI wr11)) 64 (nI at162)) 65 (nI ne)) 66 (nI lk10)) X13 32 (nI at0) (nI at6) (nI r12) 0 nd9 K (by omega)) (gV pw_1650 pw_1651 pw_1652 pw_1523 pw_1589) hV_X12_node 0 9 rfl rfl rfl rfl (Nat.le_of_ble_eq_true rfl) dX12_simple_71 ⟨Nat.le_of_ble_eq_true rfl, Nat.le_of_ble_eq_true rfl⟩ ⟨(by show 2 + 1 ≤ (26 * n + 30); omega), (by show 8 + (7 + 11) + 60 ≤ (2000 * n + 3000); omega)⟩ (fun v260 u258 H locs hw259 hP hD hS => ?_)
          obtain ⟨X261, rfl⟩ : ∃ z, z = u258 := ⟨_, rfl⟩
          obtain ⟨hw259, h262⟩ := hw259
          have h262 : NewN X13 X261 nd9 32 (nI at0) (nI at6) (nI r12) 0 := h262
          obtain rfl : v260 = some (.int (nI nd9)) := hw259
          have hP : va_P G.1 pCl (mW G h0 a (upd (upd (upd (upd (upd (upd (upd F 15 (nI fa163)) 16 pl164) 27 (nI (nd9 + 1))) 31 (nI wr11)) 64 (nI at162)) 65 (nI ne)) 66 (nI lk10)) (updA X261 2 K)) _ := mW_to (F := F) (l1 := [(15, (nI fa163)), (16, pl164), (27, (nI nd9)), (31, (nI wr11)), (64, (nI at162)), (65, (nI ne)), (66, (nI lk10)), (27, (nI (nd9 + 1)))]) (l2 := [(15, (nI fa163)), (16, pl164), (27, (nI (nd9 + 1))), (31, (nI wr11)), (64, (nI at162)), (65, (nI ne)), (66, (nI lk10))]) (V := [(nI fa163), pl164, (nI (nd9 + 1)), (nI wr11), (nI at162), (nI ne), (nI lk10), (nI (nd9 + 1)), (nI fa163), pl164, (nI (nd9 + 1)), (nI wr11), (nI at162), (nI ne), (nI lk10)]) rfl rfl rfl hP
          have hD : va_D A (mW G h0 a (upd (upd (upd (upd (upd (upd (upd F 15 (nI fa163)) 16 pl164) 27 (nI (nd9 + 1))) 31 (nI wr11)) 64 (nI at162)) 65 (nI ne)) 66 (nI lk10)) (updA X261 2 K)) := mW_D hD
          refine W.widen (k := 0) (n := 0) (Nat.le_of_ble_eq_true rfl) (Nat.le_of_ble_eq_true rfl) ?_
          refine W.eq (g2 := F0 m 74 ls [.int (nI nd9)]) rfl ?_
          have hkp263 : Kp B X261 wr11 T := (Kp.new hkp28 h262)
          have hz264 : at0 ≤ at162 := (by omega)
          have hz265 : at162 ≤ T := (by omega)
          have hz266 : fa163 ≤ 100 := (by omega)
          have hz267 : nd ≤ (nd9 + 1) := (by omega)
          have hz268 : (nd9 + 1) + 2 * at0 ≤ nd + 2 * at162 + 100000 * fa163 := (by omega)
          have hz269 : (nd9 + 1) + 2 * at0 ≤ nd + 2 * at162 + (40 * (21 - ne) + 5) := (by omega)
          have hz270 : wr ≤ wr11 := (by omega)
          have hz271 : wr11 + at0 ≤ wr + at162 := (by omega)
          have hz272 : lk ≤ lk10 := (by omega)
          have hz273 : lk10 ≤ 60 + 100 * fa163 := (by omega)
          have hz274 : at0 + 1 ≤ at162 + fa163 := (by omega)
          have hz275 : nd9 ≤ (nd9 + 1) := (by omega)
          have hz276 : Kp B X261 wr11 T := hkp263
          have hz277 : If (fa163 = 0) (Low B X261 nd wr ∧ Frs K T wr11 X261 nd (nd9 + 1) 20000 [(nd9, 280)] ∧ X261 9 nd9 = 32) := (fun e => absurd e (by omega))
          have hP : va_P G.1 pCl (mW G h0 a (upd (upd (upd (upd (upd (upd (upd F 15 (nI fa163)) 16 pl164) 27 (nI (nd9 + 1))) 31 (nI wr11)) 64 (nI at162)) 65 (nI ne)) 66 (nI lk10)) (updA X261 2 K)) _ := hP
          have hD : va_D A (mW G h0 a (upd (upd (upd (upd (upd (upd (upd F 15 (nI fa163)) 16 pl164) 27 (nI (nd9 + 1))) 31 (nI wr11)) 64 (nI at162)) 65 (nI ne)) 66 (nI lk10)) (updA X261 2 K)) := mW_D hD
          exact W.iret (v := (nI nd9)) hx hb hr (fun t9 ht9 hW9 => ⟨⟨_, (at162, fa163, pl164, (nd9 + 1), lk10, wr11, nd9, X261), rfl, ⟨rfl, hz264, hz265, hz266, hz267, hz268, hz269, hz270, hz271, hz272, hz273, hz274, hz275, hz276, hz277⟩, by rw [ht9]; exact hP, hD⟩, hS.F ht9⟩) hS.2.2 dX12_simple_74
      · refine lv_iload hx hb dX12_simple_41 (lv_at hl 0 rfl) ?_
        refine lv_bipush (v := 15) hx hb dX12_simple_43 (by decide) ?_
        refine lv_icmp_ne (tgt := 75) hx hb dX12_simple_45 (by decide) (fun c278 => ?_) (fun c278 => ?_)
        · refine lv_iload_n hx hb dX12_simple_75 rfl (lv_at hl 4 rfl) ?_
          refine lv_if_eq (tgt := 100) hx hb dX12_simple_76 (by decide) (fun c279 => ?_) (fun c279 => absurd c279 (by decide))
          refine lv_aload_n hx hb dX12_simple_100 rfl (lv_at hl 3 rfl) ?_
          refine lv_iconst (v := 1) hx hb dX12_simple_101 (by decide) ?_
          have hP : va_P G.1 pCl (mW G h0 a (upd (upd (upd (upd (upd (upd (upd (upd (upd F 15 0) 16 pl8) 27 (nI nd9)) 31 (nI wr11)) 64 (nI at6)) 65 (nI ne)) 66 (nI lk10)) 15 (nI 0)) 64 (nI at6)) (updA (updA X13 2 K) 2 K)) _ := mW_to (F := F) (l1 := [(15, 0), (16, pl8), (27, (nI nd9)), (31, (nI wr11)), (64, (nI at6)), (65, (nI ne)), (66, (nI lk10))]) (l2 := [(15, 0), (16, pl8), (27, (nI nd9)), (31, (nI wr11)), (64, (nI at6)), (65, (nI ne)), (66, (nI lk10)), (15, (nI 0)), (64, (nI at6))]) (V := [(nI 0), pl8, (nI nd9), (nI wr11), (nI at6), (nI ne), (nI lk10), (nI 0), pl8, (nI nd9), (nI wr11), (nI at6), (nI ne), (nI lk10), (nI 0), (nI at6)]) rfl rfl (show (updA X13 2 K) = (updA (updA X13 2 K) 2 K) from updsA_eq2 (F := X13) (l1 := [(2, K)]) (l2 := [(2, K), (2, K)]) (V := [K, K, K]) rfl rfl) hP
          have hD : va_D A (mW G h0 a (upd (upd (upd (upd (upd (upd (upd (upd (upd F 15 0) 16 pl8) 27 (nI nd9)) 31 (nI wr11)) 64 (nI at6)) 65 (nI ne)) 66 (nI lk10)) 15 (nI 0)) 64 (nI at6)) (updA (updA X13 2 K) 2 K)) := mW_D hD
          refine pc_V0 (G := G) (As := [.int (nI 1)]) (rest := []) hx hb hml hown hq hE hX pX0_al hP hD hS hA hl.1 (R_bad l G h0 a (upd (upd (upd (upd (upd (upd (upd F 15 0) 16 pl8) 27 (nI nd9)) 31 (nI wr11)) 64 (nI at6)) 65 (nI ne)) 66 (nI lk10)) (updA X13 2 K) at6 T 0 K 1 (by omega) (by omega) hK (by omega) (by omega) (by omega)) (gV pw_1602 pw_1603 pw_1604 pw_1523 pw_1596) hV_X12_bad 0 9 rfl rfl rfl rfl (Nat.le_of_ble_eq_true rfl) dX12_simple_102 ⟨Nat.le_of_ble_eq_true rfl, Nat.le_of_ble_eq_true rfl⟩ ⟨(by show 3 + 1 ≤ (26 * n + 30); omega), (by show 8 + (2 + 11) + 82 ≤ (2000 * n + 3000); omega)⟩ (fun v282 u280 H locs hw281 hP hD hS => ?_)
          obtain ⟨fa283, pl284⟩ := u280
          obtain ⟨hw281, h285, h286, h287, h288⟩ := hw281
          have h285 : 0 ≤ fa283 := h285
          have h286 : fa283 ≤ 0 + 1 := h286
          have h287 : 0 < fa283 := h287
          have h288 : If (0 < 0) (fa283 = 0) := h288
          obtain rfl : v282 = none := hw281
          have hP : va_P G.1 pCl (mW G h0 a (upd (upd (upd (upd (upd (upd (upd F 15 (nI fa283)) 16 pl284) 27 (nI nd9)) 31 (nI wr11)) 64 (nI at6)) 65 (nI ne)) 66 (nI lk10)) (updA X13 2 K)) _ := mW_to (F := F) (l1 := [(15, 0), (16, pl8), (27, (nI nd9)), (31, (nI wr11)), (64, (nI at6)), (65, (nI ne)), (66, (nI lk10)), (15, (nI fa283)), (16, pl284), (64, (nI at6))]) (l2 := [(15, (nI fa283)), (16, pl284), (27, (nI nd9)), (31, (nI wr11)), (64, (nI at6)), (65, (nI ne)), (66, (nI lk10))]) (V := [(nI fa283), pl284, (nI nd9), (nI wr11), (nI at6), (nI ne), (nI lk10), (nI fa283), pl284, (nI at6), (nI fa283), pl284, (nI nd9), (nI wr11), (nI at6), (nI ne), (nI lk10)]) rfl rfl (show (updA (updA X13 2 K) 2 K) = (updA X13 2 K) from updsA_eq2 (F := X13) (l1 := [(2, K), (2, K)]) (l2 := [(2, K)]) (V := [K, K, K]) rfl rfl) hP
          have hD : va_D A (mW G h0 a (upd (upd (upd (upd (upd (upd (upd F 15 (nI fa283)) 16 pl284) 27 (nI nd9)) 31 (nI wr11)) 64 (nI at6)) 65 (nI ne)) 66 (nI lk10)) (updA X13 2 K)) := mW_D hD
          refine W.widen (k := 0) (n := 0) (Nat.le_of_ble_eq_true rfl) (Nat.le_of_ble_eq_true rfl) ?_
          refine W.eq (g2 := F0 m 105 ls []) rfl ?_
          refine lv_iconst (v := 0) hx hb dX12_simple_105 (by decide) ?_
          have hz289 : at0 ≤ at6 := (by omega)
          have hz290 : at6 ≤ T := (by omega)
          have hz291 : fa283 ≤ 100 := (by omega)
          have hz292 : nd ≤ nd9 := (by omega)
          have hz293 : nd9 + 2 * at0 ≤ nd + 2 * at6 + 100000 * fa283 := (by omega)
          have hz294 : nd9 + 2 * at0 ≤ nd + 2 * at6 + (40 * (21 - ne) + 5) := (by omega)
          have hz295 : wr ≤ wr11 := (by omega)
          have hz296 : wr11 + at0 ≤ wr + at6 := (by omega)
          have hz297 : lk ≤ lk10 := (by omega)
          have hz298 : lk10 ≤ 60 + 100 * fa283 := (by omega)
          have hz299 : at0 + 1 ≤ at6 + fa283 := (by omega)
          have hz300 : 0 ≤ nd9 := (by omega)
          have hz301 : Kp B X13 wr11 T := hkp28
          have hz302 : If (fa283 = 0) (Low B X13 nd wr ∧ Frs K T wr11 X13 nd nd9 20000 [(0, 280)] ∧ X13 9 0 = 32) := (fun e => absurd e (by omega))
          have hP : va_P G.1 pCl (mW G h0 a (upd (upd (upd (upd (upd (upd (upd F 15 (nI fa283)) 16 pl284) 27 (nI nd9)) 31 (nI wr11)) 64 (nI at6)) 65 (nI ne)) 66 (nI lk10)) (updA X13 2 K)) _ := hP
          have hD : va_D A (mW G h0 a (upd (upd (upd (upd (upd (upd (upd F 15 (nI fa283)) 16 pl284) 27 (nI nd9)) 31 (nI wr11)) 64 (nI at6)) 65 (nI ne)) 66 (nI lk10)) (updA X13 2 K)) := mW_D hD
          exact W.iret (v := 0) hx hb hr (fun t9 ht9 hW9 => ⟨⟨_, (at6, fa283, pl284, nd9, lk10, wr11, 0, X13), rfl, ⟨rfl, hz289, hz290, hz291, hz292, hz293, hz294, hz295, hz296, hz297, hz298, hz299, hz300, hz301, hz302⟩, by rw [ht9]; exact hP, hD⟩, hS.F ht9⟩) hS.2.2 dX12_simple_106
        · have hc303 : kcl 12 (X13 9 r12) = true := (by rw [show X13 9 r12 = _ from c278]; decide)
          refine lv_aload_n hx hb dX12_simple_48 rfl (lv_at hl 3 rfl) ?_
          refine r_get (v := .int (nI at6)) hx hb hown hq hE hP 64 343 tFX12_64 (by decide) pw_1592 rfl dX12_simple_49 ?_
          refine lv_istore (lv' := [(5, .int (nI at6)), (4, .int ((X13 9) r12)), (3, .int (nI r12)), (2, .int (nI at0)), (0, .ref h0), (1, .int 0)]) hx hb dX12_simple_52 hl (by decide) rfl (fun ls hl => ?_)
          refine lv_aload_n hx hb dX12_simple_54 rfl (lv_at hl 4 rfl) ?_
          refine lv_bipush (v := 61) hx hb dX12_simple_55 (by decide) ?_
          have hP : va_P G.1 pCl (mW G h0 a (upd (upd (upd (upd (upd (upd (upd (upd (upd F 15 0) 16 pl8) 27 (nI nd9)) 31 (nI wr11)) 64 (nI at6)) 65 (nI ne)) 66 (nI lk10)) 15 (nI 0)) 64 (nI at6)) (updA (updA X13 2 K) 2 K)) _ := mW_to (F := F) (l1 := [(15, 0), (16, pl8), (27, (nI nd9)), (31, (nI wr11)), (64, (nI at6)), (65, (nI ne)), (66, (nI lk10))]) (l2 := [(15, 0), (16, pl8), (27, (nI nd9)), (31, (nI wr11)), (64, (nI at6)), (65, (nI ne)), (66, (nI lk10)), (15, (nI 0)), (64, (nI at6))]) (V := [(nI 0), pl8, (nI nd9), (nI wr11), (nI at6), (nI ne), (nI lk10), (nI 0), pl8, (nI nd9), (nI wr11), (nI at6), (nI ne), (nI lk10), (nI 0), (nI at6)]) rfl rfl (show (updA X13 2 K) = (updA (updA X13 2 K) 2 K) from updsA_eq2 (F := X13) (l1 := [(2, K)]) (l2 := [(2, K), (2, K)]) (V := [K, K, K]) rfl rfl) hP
          have hD : va_D A (mW G h0 a (upd (upd (upd (upd (upd (upd (upd (upd (upd F 15 0) 16 pl8) 27 (nI nd9)) 31 (nI wr11)) 64 (nI at6)) 65 (nI ne)) 66 (nI lk10)) 15 (nI 0)) 64 (nI at6)) (updA (updA X13 2 K) 2 K)) := mW_D hD
          refine pc_V0 (G := G) (As := [.int 61]) (rest := []) hx hb hml hown hq hE hX pX0_al hP hD hS hA hl.1 (R_take l G h0 a (upd (upd (upd (upd (upd (upd (upd F 15 0) 16 pl8) 27 (nI nd9)) 31 (nI wr11)) 64 (nI at6)) 65 (nI ne)) 66 (nI lk10)) (updA X13 2 K) at6 T 0 K 61 (by omega) (by omega) hK (by omega) (by decide) (by decide)) (gV pw_1614 pw_1615 pw_1616 pw_1523 pw_1601) hV_X12_take 0 9 rfl rfl rfl rfl (Nat.le_of_ble_eq_true rfl) dX12_simple_57 ⟨Nat.le_of_ble_eq_true rfl, Nat.le_of_ble_eq_true rfl⟩ ⟨(by show 4 + 1 ≤ (26 * n + 30); omega), (by show 8 + (2 + 11) + 103 ≤ (2000 * n + 3000); omega)⟩ (fun v306 u304 H locs hw305 hP hD hS => ?_)
          obtain ⟨at307, fa308, pl309⟩ := u304
          obtain ⟨hw305, h310, h311, h312, h313, h314, h315, h316, h317⟩ := hw305
          have h310 : at6 ≤ at307 := h310
          have h311 : at307 ≤ T := h311
          have h312 : 0 ≤ fa308 := h312
          have h313 : fa308 ≤ 100 := h313
          have h314 : If (0 < 0) (at307 = at6 ∧ fa308 = 0) := h314
          have h315 : at307 ≤ at6 + 1 := h315
          have h316 : at6 + 1 ≤ at307 + fa308 := h316
          have h317 : If (fa308 = 0) (K at6 = 61) := h317
          obtain rfl : v306 = none := hw305
          have hP : va_P G.1 pCl (mW G h0 a (upd (upd (upd (upd (upd (upd (upd F 15 (nI fa308)) 16 pl309) 27 (nI nd9)) 31 (nI wr11)) 64 (nI at307)) 65 (nI ne)) 66 (nI lk10)) (updA X13 2 K)) _ := mW_to (F := F) (l1 := [(15, 0), (16, pl8), (27, (nI nd9)), (31, (nI wr11)), (64, (nI at6)), (65, (nI ne)), (66, (nI lk10)), (15, (nI fa308)), (16, pl309), (64, (nI at307))]) (l2 := [(15, (nI fa308)), (16, pl309), (27, (nI nd9)), (31, (nI wr11)), (64, (nI at307)), (65, (nI ne)), (66, (nI lk10))]) (V := [(nI fa308), pl309, (nI nd9), (nI wr11), (nI at307), (nI ne), (nI lk10), (nI fa308), pl309, (nI at307), (nI fa308), pl309, (nI nd9), (nI wr11), (nI at307), (nI ne), (nI lk10)]) rfl rfl (show (updA (updA X13 2 K) 2 K) = (updA X13 2 K) from updsA_eq2 (F := X13) (l1 := [(2, K), (2, K)]) (l2 := [(2, K)]) (V := [K, K, K]) rfl rfl) hP
          have hD : va_D A (mW G h0 a (upd (upd (upd (upd (upd (upd (upd F 15 (nI fa308)) 16 pl309) 27 (nI nd9)) 31 (nI wr11)) 64 (nI at307)) 65 (nI ne)) 66 (nI lk10)) (updA X13 2 K)) := mW_D hD
          refine W.widen (k := 0) (n := 0) (Nat.le_of_ble_eq_true rfl) (Nat.le_of_ble_eq_true rfl) ?_
          refine W.eq (g2 := F0 m 60 ls []) rfl ?_
          rcases Nat.eq_zero_or_pos fa308 with e318 | e318
          · subst e318
            have hP : va_P G.1 pCl (mW G h0 a (upd (upd (upd (upd (upd (upd (upd F 15 0) 16 pl309) 27 (nI nd9)) 31 (nI wr11)) 64 (nI at307)) 65 (nI ne)) 66 (nI lk10)) (updA X13 2 K)) _ := hP
            have hD : va_D A (mW G h0 a (upd (upd (upd (upd (upd (upd (upd F 15 0) 16 pl309) 27 (nI nd9)) 31 (nI wr11)) 64 (nI at307)) 65 (nI ne)) 66 (nI lk10)) (updA X13 2 K)) := mW_D hD
            refine lv_aload_n hx hb dX12_simple_60 rfl (lv_at hl 4 rfl) ?_
            refine lv_bipush (v := 32) hx hb dX12_simple_61 (by decide) ?_
            refine lv_iload_n hx hb dX12_simple_63 rfl (lv_at hl 3 rfl) ?_
            refine lv_iload hx hb dX12_simple_64 (lv_at hl 0 rfl) ?_
            refine lv_iload_n hx hb dX12_simple_66 rfl (lv_at hl 2 rfl) ?_
            refine lv_aload_n hx hb dX12_simple_67 rfl (lv_at hl 4 rfl) ?_
            have hP : va_P G.1 pCl (mW G h0 a (upd (upd (upd (upd (upd (upd (upd (upd (upd (upd (upd (upd (upd F 15 0) 16 pl309) 27 (nI nd9)) 31 (nI wr11)) 64 (nI at307)) 65 (nI ne)) 66 (nI lk10)) 15 0) 27 (nI nd9)) 31 (nI wr11)) 64 (nI at307)) 65 (nI ne)) 66 (nI lk10)) (updA X13 2 K)) _ := mW_to (F := F) (l1 := [(15, 0), (16, pl309), (27, (nI nd9)), (31, (nI wr11)), (64, (nI at307)), (65, (nI ne)), (66, (nI lk10))]) (l2 := [(15, 0), (16, pl309), (27, (nI nd9)), (31, (nI wr11)), (64, (nI at307)), (65, (nI ne)), (66, (nI lk10)), (15, 0), (27, (nI nd9)), (31, (nI wr11)), (64, (nI at307)), (65, (nI ne)), (66, (nI lk10))]) (V := [0, pl309, (nI nd9), (nI wr11), (nI at307), (nI ne), (nI lk10), 0, pl309, (nI nd9), (nI wr11), (nI at307), (nI ne), (nI lk10), 0, (nI nd9), (nI wr11), (nI at307), (nI ne), (nI lk10)]) rfl rfl rfl hP
            have hD : va_D A (mW G h0 a (upd (upd (upd (upd (upd (upd (upd (upd (upd (upd (upd (upd (upd F 15 0) 16 pl309) 27 (nI nd9)) 31 (nI wr11)) 64 (nI at307)) 65 (nI ne)) 66 (nI lk10)) 15 0) 27 (nI nd9)) 31 (nI wr11)) 64 (nI at307)) 65 (nI ne)) 66 (nI lk10)) (updA X13 2 K)) := mW_D hD
            refine pc_V0 (G := G) (As := []) (rest := [.int (nI r12), .int (nI at6), .int (nI at0), .int 32, .ref h0]) hx hb hml hown hq hE hX pX0_al hP hD hS hA hl.1 (hEc h0 a (upd (upd (upd (upd (upd (upd (upd F 15 0) 16 pl309) 27 (nI nd9)) 31 (nI wr11)) 64 (nI at307)) 65 (nI ne)) 66 (nI lk10)) X13 at307 T ne nd9 wr11 lk10 K (by omega) (by omega) hK (by omega) (by omega) (by omega) (by omega) (hkp28).2 (by omega)) (gV pw_1640 pw_1641 pw_1642 pw_1523 pw_1656) hV_X12_choice 0 9 rfl rfl rfl rfl (Nat.le_of_ble_eq_true rfl) dX12_simple_68 ⟨Nat.le_of_ble_eq_true rfl, Nat.le_of_ble_eq_true rfl⟩ ⟨(by show (20 * n + 27) + 1 ≤ (26 * n + 30); omega), (by show 8 + (4 + 11) + (1000 * n + 40 * 27) ≤ (2000 * n + 3000); omega)⟩ (fun v321 u319 H locs hw320 hP hD hS => ?_)
            obtain ⟨at322, fa323, pl324, nd325, lk326, wr327, r328, X329⟩ := u319
            obtain ⟨hw320, h330, h331, h332, h333, h334, h335, h336, h337, h338, h339, h340, h341, h342, h343⟩ := hw320
            have h330 : at307 ≤ at322 := h330
            have h331 : at322 ≤ T := h331
            have h332 : fa323 ≤ 100 := h332
            have h333 : nd9 ≤ nd325 := h333
            have h334 : nd325 + 2 * at307 ≤ nd9 + 2 * at322 + 100000 * fa323 := h334
            have h335 : nd325 + 2 * at307 ≤ nd9 + 2 * at322 + 40 * (21 - ne) := h335
            have h336 : wr11 ≤ wr327 := h336
            have h337 : wr327 + at307 ≤ wr11 + at322 := h337
            have h338 : lk10 ≤ lk326 := h338
            have h339 : lk326 ≤ 60 + 100 * fa323 := h339
            have h340 : at307 + 1 ≤ at322 + fa323 := h340
            have h341 : r328 ≤ nd325 := h341
            have h342 : Kp X13 X329 wr327 T := h342
            have h343 : If (fa323 = 0) (Low X13 X329 nd9 wr11 ∧ Frs K T wr327 X329 nd9 nd325 20000 [(r328, (211 + lk326 - (10 * ne + lk10)))] ∧ kcl 1 (X329 9 r328) = true) := h343
            obtain rfl : v321 = some (.int (nI r328)) := hw320
            have hP : va_P G.1 pCl (mW G h0 a (upd (upd (upd (upd (upd (upd (upd F 15 (nI fa323)) 16 pl324) 27 (nI nd325)) 31 (nI wr327)) 64 (nI at322)) 65 (nI ne)) 66 (nI lk326)) (updA X329 2 K)) _ := mW_to (F := F) (l1 := [(15, 0), (16, pl309), (27, (nI nd9)), (31, (nI wr11)), (64, (nI at307)), (65, (nI ne)), (66, (nI lk10)), (15, (nI fa323)), (16, pl324), (27, (nI nd325)), (31, (nI wr327)), (64, (nI at322)), (65, (nI ne)), (66, (nI lk326))]) (l2 := [(15, (nI fa323)), (16, pl324), (27, (nI nd325)), (31, (nI wr327)), (64, (nI at322)), (65, (nI ne)), (66, (nI lk326))]) (V := [(nI fa323), pl324, (nI nd325), (nI wr327), (nI at322), (nI ne), (nI lk326), (nI fa323), pl324, (nI nd325), (nI wr327), (nI at322), (nI ne), (nI lk326), (nI fa323), pl324, (nI nd325), (nI wr327), (nI at322), (nI ne), (nI lk326)]) rfl rfl rfl hP
            have hD : va_D A (mW G h0 a (upd (upd (upd (upd (upd (upd (upd F 15 (nI fa323)) 16 pl324) 27 (nI nd325)) 31 (nI wr327)) 64 (nI at322)) 65 (nI ne)) 66 (nI lk326)) (updA X329 2 K)) := mW_D hD
            refine W.widen (k := 0) (n := 0) (Nat.le_of_ble_eq_true rfl) (Nat.le_of_ble_eq_true rfl) ?_
            refine W.eq (g2 := F0 m 71 ls [.int (nI r328), .int (nI r12), .int (nI at6), .int (nI at0), .int 32, .ref h0]) rfl ?_
            have hkp344 : Kp B X329 wr327 T := (Kp.trans hkp28 h342)
            rcases Nat.eq_zero_or_pos fa323 with e345 | e345
            · subst e345
              have hP : va_P G.1 pCl (mW G h0 a (upd (upd (upd (upd (upd (upd (upd F 15 0) 16 pl324) 27 (nI nd325)) 31 (nI wr327)) 64 (nI at322)) 65 (nI ne)) 66 (nI lk326)) (updA X329 2 K)) _ := hP
              have hD : va_D A (mW G h0 a (upd (upd (upd (upd (upd (upd (upd F 15 0) 16 pl324) 27 (nI nd325)) 31 (nI wr327)) 64 (nI at322)) 65 (nI ne)) 66 (nI lk326)) (updA X329 2 K)) := mW_D hD
              obtain ⟨hlw346, hf347, hc348⟩ := h343 rfl
              have hlo349 : Low B X329 nd wr := (Low.trans hlo33 hlw346 (by omega) (by omega))
              have hf350 : Frs K T wr327 X329 nd nd9 20000 [(r12, (210 + lk10 - (10 * ne + lk)))] := (Frs.same hf31 (by omega) (fun j i q1 q2 q3 q4 => (hlw346.1 j i q1 (by omega) (by omega))))
              have hc351 : kcl 12 (X329 9 r12) = true := by rw [hlw346.1 9 r12 (by omega) (by omega) (by omega)]; exact hc303
              have hm352 := Frs.mem hf347
              have hP : va_P G.1 pCl (mW G h0 a (upd (upd (upd (upd (upd (upd (upd (upd F 15 0) 16 pl324) 27 (nI nd325)) 31 (nI wr327)) 64 (nI at322)) 65 (nI ne)) 66 (nI lk326)) 27 (nI nd325)) (updA X329 2 K)) _ := mW_to (F := F) (l1 := [(15, 0), (16, pl324), (27, (nI nd325)), (31, (nI wr327)), (64, (nI at322)), (65, (nI ne)), (66, (nI lk326))]) (l2 := [(15, 0), (16, pl324), (27, (nI nd325)), (31, (nI wr327)), (64, (nI at322)), (65, (nI ne)), (66, (nI lk326)), (27, (nI nd325))]) (V := [0, pl324, (nI nd325), (nI wr327), (nI at322), (nI ne), (nI lk326), 0, pl324, (nI nd325), (nI wr327), (nI at322), (nI ne), (nI lk326), (nI nd325)]) rfl rfl rfl hP
              have hD : va_D A (mW G h0 a (upd (upd (upd (upd (upd (upd (upd (upd F 15 0) 16 pl324) 27 (nI nd325)) 31 (nI wr327)) 64 (nI at322)) 65 (nI ne)) 66 (nI lk326)) 27 (nI nd325)) (updA X329 2 K)) := mW_D hD
              refine pc_V0 (G := G) (As := [.int 32, .int (nI at0), .int (nI at6), .int (nI r12), .int (nI r328)]) (rest := []) hx hb hml hown hq hE hX pX0_al hP hD hS hA hl.1 (R_nodeB l G h0 a (upd (upd (upd (upd (upd (upd (upd F 15 0) 16 pl324) 27 (nI nd325)) 31 (nI wr327)) 64 (nI at322)) 65 (nI ne)) 66 (nI lk326)) X329 32 (nI at0) (nI at6) (nI r12) (nI r328) nd325 K (by omega)) (gV pw_1650 pw_1651 pw_1652 pw_1523 pw_1589) hV_X12_node 0 9 rfl rfl rfl rfl (Nat.le_of_ble_eq_true rfl) dX12_simple_71 ⟨Nat.le_of_ble_eq_true rfl, Nat.le_of_ble_eq_true rfl⟩ ⟨(by show 2 + 1 ≤ (26 * n + 30); omega), (by show 8 + (7 + 11) + 60 ≤ (2000 * n + 3000); omega)⟩ (fun v355 u353 H locs hw354 hP hD hS => ?_)
              obtain ⟨X356, rfl⟩ : ∃ z, z = u353 := ⟨_, rfl⟩
              obtain ⟨hw354, h357⟩ := hw354
              have h357 : NewN X329 X356 nd325 32 (nI at0) (nI at6) (nI r12) (nI r328) := h357
              obtain rfl : v355 = some (.int (nI nd325)) := hw354
              have hP : va_P G.1 pCl (mW G h0 a (upd (upd (upd (upd (upd (upd (upd F 15 0) 16 pl324) 27 (nI (nd325 + 1))) 31 (nI wr327)) 64 (nI at322)) 65 (nI ne)) 66 (nI lk326)) (updA X356 2 K)) _ := mW_to (F := F) (l1 := [(15, 0), (16, pl324), (27, (nI nd325)), (31, (nI wr327)), (64, (nI at322)), (65, (nI ne)), (66, (nI lk326)), (27, (nI (nd325 + 1)))]) (l2 := [(15, 0), (16, pl324), (27, (nI (nd325 + 1))), (31, (nI wr327)), (64, (nI at322)), (65, (nI ne)), (66, (nI lk326))]) (V := [0, pl324, (nI (nd325 + 1)), (nI wr327), (nI at322), (nI ne), (nI lk326), (nI (nd325 + 1)), 0, pl324, (nI (nd325 + 1)), (nI wr327), (nI at322), (nI ne), (nI lk326)]) rfl rfl rfl hP
              have hD : va_D A (mW G h0 a (upd (upd (upd (upd (upd (upd (upd F 15 0) 16 pl324) 27 (nI (nd325 + 1))) 31 (nI wr327)) 64 (nI at322)) 65 (nI ne)) 66 (nI lk326)) (updA X356 2 K)) := mW_D hD
              refine W.widen (k := 0) (n := 0) (Nat.le_of_ble_eq_true rfl) (Nat.le_of_ble_eq_true rfl) ?_
              refine W.eq (g2 := F0 m 74 ls [.int (nI nd325)]) rfl ?_
              have hkp358 : Kp B X356 wr327 T := (Kp.new hkp344 h357)
              have hlo359 : Low B X356 nd wr := (Low.new hlo349 h357 (by omega))
              have hf360 : Frs K T wr327 X329 nd nd325 20000 [(r12, (210 + lk10 - (10 * ne + lk))), (r328, (211 + lk326 - (10 * ne + lk10)))] := (Frs.join hf350 hf347 (by omega) (by omega) (by omega))
              have hc361 : kcl 12 (X356 9 r12) = true := by rw [h357.2.1 9 r12 (by omega)]; exact hc351
              have hc362 : kcl 1 (X356 9 r328) = true := by rw [h357.2.1 9 r328 (by omega)]; exact hc348
              have hf363 : Frs K T wr327 X356 nd (nd325 + 1) nd325 [(nd325, 280)] := (Frs.new2 (k := 32) hf360 (by omega) (by omega) (by omega) h357 rfl rfl (by omega) rfl (by decide) (by decide) (by omega) (by omega) (fun e => absurd e (by decide)) (by simp) ⟨by decide, by decide, by decide, by decide⟩ ⟨by decide, by decide, by decide, by decide⟩ hc351 hc348 (newOK.m1 (by decide)) (newOK.m1 (by decide)) (by omega) (by omega))
              have hn364 : Nd X356 nd325 32 (nI r12) (nI r328) (-1) (-1) := (NewN.toNd h357)
              have hf365 : Frs K T wr327 X356 nd (nd325 + 1) 20000 [(nd325, 280)] := (Frs.fin (k := 32) hf363 hn364 rfl (by decide) (fun _ => nI_m1 (by omega)) (fun _ => nI_m1 (by omega)) (fun h => absurd h (by decide)) (fun h => absurd h (by decide)))
              have hz366 : at0 ≤ at322 := (by omega)
              have hz367 : at322 ≤ T := (by omega)
              have hz368 : 0 ≤ 100 := (by omega)
              have hz369 : nd ≤ (nd325 + 1) := (by omega)
              have hz370 : (nd325 + 1) + 2 * at0 ≤ nd + 2 * at322 + 100000 * 0 := (by omega)
              have hz371 : (nd325 + 1) + 2 * at0 ≤ nd + 2 * at322 + (40 * (21 - ne) + 5) := (by omega)
              have hz372 : wr ≤ wr327 := (by omega)
              have hz373 : wr327 + at0 ≤ wr + at322 := (by omega)
              have hz374 : lk ≤ lk326 := (by omega)
              have hz375 : lk326 ≤ 60 + 100 * 0 := (by omega)
              have hz376 : at0 + 1 ≤ at322 + 0 := (by omega)
              have hz377 : nd325 ≤ (nd325 + 1) := (by omega)
              have hz378 : Kp B X356 wr327 T := hkp358
              have hz379 : If (0 = 0) (Low B X356 nd wr ∧ Frs K T wr327 X356 nd (nd325 + 1) 20000 [(nd325, 280)] ∧ X356 9 nd325 = 32) := (fun _ => ⟨hlo359, Frs.up hf365 (by omega), hn364.1⟩)
              have hP : va_P G.1 pCl (mW G h0 a (upd (upd (upd (upd (upd (upd (upd F 15 (nI 0)) 16 pl324) 27 (nI (nd325 + 1))) 31 (nI wr327)) 64 (nI at322)) 65 (nI ne)) 66 (nI lk326)) (updA X356 2 K)) _ := mW_to (F := F) (l1 := [(15, 0), (16, pl324), (27, (nI (nd325 + 1))), (31, (nI wr327)), (64, (nI at322)), (65, (nI ne)), (66, (nI lk326))]) (l2 := [(15, (nI 0)), (16, pl324), (27, (nI (nd325 + 1))), (31, (nI wr327)), (64, (nI at322)), (65, (nI ne)), (66, (nI lk326))]) (V := [(nI 0), pl324, (nI (nd325 + 1)), (nI wr327), (nI at322), (nI ne), (nI lk326), (nI 0), pl324, (nI (nd325 + 1)), (nI wr327), (nI at322), (nI ne), (nI lk326)]) rfl rfl rfl hP
              have hD : va_D A (mW G h0 a (upd (upd (upd (upd (upd (upd (upd F 15 (nI 0)) 16 pl324) 27 (nI (nd325 + 1))) 31 (nI wr327)) 64 (nI at322)) 65 (nI ne)) 66 (nI lk326)) (updA X356 2 K)) := mW_D hD
              exact W.iret (v := (nI nd325)) hx hb hr (fun t9 ht9 hW9 => ⟨⟨_, (at322, 0, pl324, (nd325 + 1), lk326, wr327, nd325, X356), rfl, ⟨rfl, hz366, hz367, hz368, hz369, hz370, hz371, hz372, hz373, hz374, hz375, hz376, hz377, hz378, hz379⟩, by rw [ht9]; exact hP, hD⟩, hS.F ht9⟩) hS.2.2 dX12_simple_74
            · have e345 := e345
              have hP : va_P G.1 pCl (mW G h0 a (upd (upd (upd (upd (upd (upd (upd (upd F 15 (nI fa323)) 16 pl324) 27 (nI nd325)) 31 (nI wr327)) 64 (nI at322)) 65 (nI ne)) 66 (nI lk326)) 27 (nI nd325)) (updA X329 2 K)) _ := mW_to (F := F) (l1 := [(15, (nI fa323)), (16, pl324), (27, (nI nd325)), (31, (nI wr327)), (64, (nI at322)), (65, (nI ne)), (66, (nI lk326))]) (l2 := [(15, (nI fa323)), (16, pl324), (27, (nI nd325)), (31, (nI wr327)), (64, (nI at322)), (65, (nI ne)), (66, (nI lk326)), (27, (nI nd325))]) (V := [(nI fa323), pl324, (nI nd325), (nI wr327), (nI at322), (nI ne), (nI lk326), (nI fa323), pl324, (nI nd325), (nI wr327), (nI at322), (nI ne), (nI lk326), (nI nd325)]) rfl rfl rfl hP
              have hD : va_D A (mW G h0 a (upd (upd (upd (upd (upd (upd (upd (upd F 15 (nI fa323)) 16 pl324) 27 (nI nd325)) 31 (nI wr327)) 64 (nI at322)) 65 (nI ne)) 66 (nI lk326)) 27 (nI nd325)) (updA X329 2 K)) := mW_D hD
              refine pc_V0 (G := G) (As := [.int 32, .int (nI at0), .int (nI at6), .int (nI r12), .int (nI r328)]) (rest := []) hx hb hml hown hq hE hX pX0_al hP hD hS hA hl.1 (R_nodeB l G h0 a (upd (upd (upd (upd (upd (upd (upd F 15 (nI fa323)) 16 pl324) 27 (nI nd325)) 31 (nI wr327)) 64 (nI at322)) 65 (nI ne)) 66 (nI lk326)) X329 32 (nI at0) (nI at6) (nI r12) (nI r328) nd325 K (by omega)) (gV pw_1650 pw_1651 pw_1652 pw_1523 pw_1589) hV_X12_node 0 9 rfl rfl rfl rfl (Nat.le_of_ble_eq_true rfl) dX12_simple_71 ⟨Nat.le_of_ble_eq_true rfl, Nat.le_of_ble_eq_true rfl⟩ ⟨(by show 2 + 1 ≤ (26 * n + 30); omega), (by show 8 + (7 + 11) + 60 ≤ (2000 * n + 3000); omega)⟩ (fun v382 u380 H locs hw381 hP hD hS => ?_)
              obtain ⟨X383, rfl⟩ : ∃ z, z = u380 := ⟨_, rfl⟩
              obtain ⟨hw381, h384⟩ := hw381
              have h384 : NewN X329 X383 nd325 32 (nI at0) (nI at6) (nI r12) (nI r328) := h384
              obtain rfl : v382 = some (.int (nI nd325)) := hw381
              have hP : va_P G.1 pCl (mW G h0 a (upd (upd (upd (upd (upd (upd (upd F 15 (nI fa323)) 16 pl324) 27 (nI (nd325 + 1))) 31 (nI wr327)) 64 (nI at322)) 65 (nI ne)) 66 (nI lk326)) (updA X383 2 K)) _ := mW_to (F := F) (l1 := [(15, (nI fa323)), (16, pl324), (27, (nI nd325)), (31, (nI wr327)), (64, (nI at322)), (65, (nI ne)), (66, (nI lk326)), (27, (nI (nd325 + 1)))]) (l2 := [(15, (nI fa323)), (16, pl324), (27, (nI (nd325 + 1))), (31, (nI wr327)), (64, (nI at322)), (65, (nI ne)), (66, (nI lk326))]) (V := [(nI fa323), pl324, (nI (nd325 + 1)), (nI wr327), (nI at322), (nI ne), (nI lk326), (nI (nd325 + 1)), (nI fa323), pl324, (nI (nd325 + 1)), (nI wr327), (nI at322), (nI ne), (nI lk326)]) rfl rfl rfl hP
              have hD : va_D A (mW G h0 a (upd (upd (upd (upd (upd (upd (upd F 15 (nI fa323)) 16 pl324) 27 (nI (nd325 + 1))) 31 (nI wr327)) 64 (nI at322)) 65 (nI ne)) 66 (nI lk326)) (updA X383 2 K)) := mW_D hD
              refine W.widen (k := 0) (n := 0) (Nat.le_of_ble_eq_true rfl) (Nat.le_of_ble_eq_true rfl) ?_
              refine W.eq (g2 := F0 m 74 ls [.int (nI nd325)]) rfl ?_
              have hkp385 : Kp B X383 wr327 T := (Kp.new hkp344 h384)
              have hz386 : at0 ≤ at322 := (by omega)
              have hz387 : at322 ≤ T := (by omega)
              have hz388 : fa323 ≤ 100 := (by omega)
              have hz389 : nd ≤ (nd325 + 1) := (by omega)
              have hz390 : (nd325 + 1) + 2 * at0 ≤ nd + 2 * at322 + 100000 * fa323 := (by omega)
              have hz391 : (nd325 + 1) + 2 * at0 ≤ nd + 2 * at322 + (40 * (21 - ne) + 5) := (by omega)
              have hz392 : wr ≤ wr327 := (by omega)
              have hz393 : wr327 + at0 ≤ wr + at322 := (by omega)
              have hz394 : lk ≤ lk326 := (by omega)
              have hz395 : lk326 ≤ 60 + 100 * fa323 := (by omega)
              have hz396 : at0 + 1 ≤ at322 + fa323 := (by omega)
              have hz397 : nd325 ≤ (nd325 + 1) := (by omega)
              have hz398 : Kp B X383 wr327 T := hkp385
              have hz399 : If (fa323 = 0) (Low B X383 nd wr ∧ Frs K T wr327 X383 nd (nd325 + 1) 20000 [(nd325, 280)] ∧ X383 9 nd325 = 32) := (fun e => absurd e (by omega))
              have hP : va_P G.1 pCl (mW G h0 a (upd (upd (upd (upd (upd (upd (upd F 15 (nI fa323)) 16 pl324) 27 (nI (nd325 + 1))) 31 (nI wr327)) 64 (nI at322)) 65 (nI ne)) 66 (nI lk326)) (updA X383 2 K)) _ := hP
              have hD : va_D A (mW G h0 a (upd (upd (upd (upd (upd (upd (upd F 15 (nI fa323)) 16 pl324) 27 (nI (nd325 + 1))) 31 (nI wr327)) 64 (nI at322)) 65 (nI ne)) 66 (nI lk326)) (updA X383 2 K)) := mW_D hD
              exact W.iret (v := (nI nd325)) hx hb hr (fun t9 ht9 hW9 => ⟨⟨_, (at322, fa323, pl324, (nd325 + 1), lk326, wr327, nd325, X383), rfl, ⟨rfl, hz386, hz387, hz388, hz389, hz390, hz391, hz392, hz393, hz394, hz395, hz396, hz397, hz398, hz399⟩, by rw [ht9]; exact hP, hD⟩, hS.F ht9⟩) hS.2.2 dX12_simple_74
          · have e318 := e318
            refine lv_aload_n hx hb dX12_simple_60 rfl (lv_at hl 4 rfl) ?_
            refine lv_bipush (v := 32) hx hb dX12_simple_61 (by decide) ?_
            refine lv_iload_n hx hb dX12_simple_63 rfl (lv_at hl 3 rfl) ?_
            refine lv_iload hx hb dX12_simple_64 (lv_at hl 0 rfl) ?_
            refine lv_iload_n hx hb dX12_simple_66 rfl (lv_at hl 2 rfl) ?_
            refine lv_aload_n hx hb dX12_simple_67 rfl (lv_at hl 4 rfl) ?_
            have hP : va_P G.1 pCl (mW G h0 a (upd (upd (upd (upd (upd (upd (upd (upd (upd F 15 (nI fa308)) 16 pl309) 27 (nI nd9)) 31 (nI wr11)) 64 (nI at307)) 65 (nI ne)) 66 (nI lk10)) 15 (nI fa308)) 64 (nI at307)) (updA (updA X13 2 K) 2 K)) _ := mW_to (F := F) (l1 := [(15, (nI fa308)), (16, pl309), (27, (nI nd9)), (31, (nI wr11)), (64, (nI at307)), (65, (nI ne)), (66, (nI lk10))]) (l2 := [(15, (nI fa308)), (16, pl309), (27, (nI nd9)), (31, (nI wr11)), (64, (nI at307)), (65, (nI ne)), (66, (nI lk10)), (15, (nI fa308)), (64, (nI at307))]) (V := [(nI fa308), pl309, (nI nd9), (nI wr11), (nI at307), (nI ne), (nI lk10), (nI fa308), pl309, (nI nd9), (nI wr11), (nI at307), (nI ne), (nI lk10), (nI fa308), (nI at307)]) rfl rfl (show (updA X13 2 K) = (updA (updA X13 2 K) 2 K) from updsA_eq2 (F := X13) (l1 := [(2, K)]) (l2 := [(2, K), (2, K)]) (V := [K, K, K]) rfl rfl) hP
            have hD : va_D A (mW G h0 a (upd (upd (upd (upd (upd (upd (upd (upd (upd F 15 (nI fa308)) 16 pl309) 27 (nI nd9)) 31 (nI wr11)) 64 (nI at307)) 65 (nI ne)) 66 (nI lk10)) 15 (nI fa308)) 64 (nI at307)) (updA (updA X13 2 K) 2 K)) := mW_D hD
            refine pc_V0 (G := G) (As := []) (rest := [.int (nI r12), .int (nI at6), .int (nI at0), .int 32, .ref h0]) hx hb hml hown hq hE hX pX0_al hP hD hS hA hl.1 (RF_choice l G h0 a (upd (upd (upd (upd (upd (upd (upd F 15 (nI fa308)) 16 pl309) 27 (nI nd9)) 31 (nI wr11)) 64 (nI at307)) 65 (nI ne)) 66 (nI lk10)) (updA X13 2 K) at307 T fa308 K (by omega) (by omega) hK (by omega) e318) (gV pw_1640 pw_1641 pw_1642 pw_1523 pw_1656) hV_X12_choice 0 9 rfl rfl rfl rfl (Nat.le_of_ble_eq_true rfl) dX12_simple_68 ⟨Nat.le_of_ble_eq_true rfl, Nat.le_of_ble_eq_true rfl⟩ ⟨(by show 16 + 1 ≤ (26 * n + 30); omega), (by show 8 + (4 + 11) + 405 ≤ (2000 * n + 3000); omega)⟩ (fun v402 u400 H locs hw401 hP hD hS => ?_)
            obtain rfl : v402 = some (.int 0) := hw401
            have hP : va_P G.1 pCl (mW G h0 a (upd (upd (upd (upd (upd (upd (upd F 15 (nI fa308)) 16 pl309) 27 (nI nd9)) 31 (nI wr11)) 64 (nI at307)) 65 (nI ne)) 66 (nI lk10)) (updA X13 2 K)) _ := mW_to (F := F) (l1 := [(15, (nI fa308)), (16, pl309), (27, (nI nd9)), (31, (nI wr11)), (64, (nI at307)), (65, (nI ne)), (66, (nI lk10)), (15, (nI fa308)), (64, (nI at307))]) (l2 := [(15, (nI fa308)), (16, pl309), (27, (nI nd9)), (31, (nI wr11)), (64, (nI at307)), (65, (nI ne)), (66, (nI lk10))]) (V := [(nI fa308), pl309, (nI nd9), (nI wr11), (nI at307), (nI ne), (nI lk10), (nI fa308), (nI at307), (nI fa308), pl309, (nI nd9), (nI wr11), (nI at307), (nI ne), (nI lk10)]) rfl rfl (show (updA (updA X13 2 K) 2 K) = (updA X13 2 K) from updsA_eq2 (F := X13) (l1 := [(2, K), (2, K)]) (l2 := [(2, K)]) (V := [K, K, K]) rfl rfl) hP
            have hD : va_D A (mW G h0 a (upd (upd (upd (upd (upd (upd (upd F 15 (nI fa308)) 16 pl309) 27 (nI nd9)) 31 (nI wr11)) 64 (nI at307)) 65 (nI ne)) 66 (nI lk10)) (updA X13 2 K)) := mW_D hD
            refine W.widen (k := 0) (n := 0) (Nat.le_of_ble_eq_true rfl) (Nat.le_of_ble_eq_true rfl) ?_
            refine W.eq (g2 := F0 m 71 ls [.int 0, .int (nI r12), .int (nI at6), .int (nI at0), .int 32, .ref h0]) rfl ?_
            have hP : va_P G.1 pCl (mW G h0 a (upd (upd (upd (upd (upd (upd (upd (upd F 15 (nI fa308)) 16 pl309) 27 (nI nd9)) 31 (nI wr11)) 64 (nI at307)) 65 (nI ne)) 66 (nI lk10)) 27 (nI nd9)) (updA X13 2 K)) _ := mW_to (F := F) (l1 := [(15, (nI fa308)), (16, pl309), (27, (nI nd9)), (31, (nI wr11)), (64, (nI at307)), (65, (nI ne)), (66, (nI lk10))]) (l2 := [(15, (nI fa308)), (16, pl309), (27, (nI nd9)), (31, (nI wr11)), (64, (nI at307)), (65, (nI ne)), (66, (nI lk10)), (27, (nI nd9))]) (V := [(nI fa308), pl309, (nI nd9), (nI wr11), (nI at307), (nI ne), (nI lk10), (nI fa308), pl309, (nI nd9), (nI wr11), (nI at307), (nI ne), (nI lk10), (nI nd9)]) rfl rfl rfl hP
            have hD : va_D A (mW G h0 a (upd (upd (upd (upd (upd (upd (upd (upd F 15 (nI fa308)) 16 pl309) 27 (nI nd9)) 31 (nI wr11)) 64 (nI at307)) 65 (nI ne)) 66 (nI lk10)) 27 (nI nd9)) (updA X13 2 K)) := mW_D hD
            refine pc_V0 (G := G) (As := [.int 32, .int (nI at0), .int (nI at6), .int (nI r12), .int 0]) (rest := []) hx hb hml hown hq hE hX pX0_al hP hD hS hA hl.1 (R_nodeB l G h0 a (upd (upd (upd (upd (upd (upd (upd F 15 (nI fa308)) 16 pl309) 27 (nI nd9)) 31 (nI wr11)) 64 (nI at307)) 65 (nI ne)) 66 (nI lk10)) X13 32 (nI at0) (nI at6) (nI r12) 0 nd9 K (by omega)) (gV pw_1650 pw_1651 pw_1652 pw_1523 pw_1589) hV_X12_node 0 9 rfl rfl rfl rfl (Nat.le_of_ble_eq_true rfl) dX12_simple_71 ⟨Nat.le_of_ble_eq_true rfl, Nat.le_of_ble_eq_true rfl⟩ ⟨(by show 2 + 1 ≤ (26 * n + 30); omega), (by show 8 + (7 + 11) + 60 ≤ (2000 * n + 3000); omega)⟩ (fun v405 u403 H locs hw404 hP hD hS => ?_)
            obtain ⟨X406, rfl⟩ : ∃ z, z = u403 := ⟨_, rfl⟩
            obtain ⟨hw404, h407⟩ := hw404
            have h407 : NewN X13 X406 nd9 32 (nI at0) (nI at6) (nI r12) 0 := h407
            obtain rfl : v405 = some (.int (nI nd9)) := hw404
            have hP : va_P G.1 pCl (mW G h0 a (upd (upd (upd (upd (upd (upd (upd F 15 (nI fa308)) 16 pl309) 27 (nI (nd9 + 1))) 31 (nI wr11)) 64 (nI at307)) 65 (nI ne)) 66 (nI lk10)) (updA X406 2 K)) _ := mW_to (F := F) (l1 := [(15, (nI fa308)), (16, pl309), (27, (nI nd9)), (31, (nI wr11)), (64, (nI at307)), (65, (nI ne)), (66, (nI lk10)), (27, (nI (nd9 + 1)))]) (l2 := [(15, (nI fa308)), (16, pl309), (27, (nI (nd9 + 1))), (31, (nI wr11)), (64, (nI at307)), (65, (nI ne)), (66, (nI lk10))]) (V := [(nI fa308), pl309, (nI (nd9 + 1)), (nI wr11), (nI at307), (nI ne), (nI lk10), (nI (nd9 + 1)), (nI fa308), pl309, (nI (nd9 + 1)), (nI wr11), (nI at307), (nI ne), (nI lk10)]) rfl rfl rfl hP
            have hD : va_D A (mW G h0 a (upd (upd (upd (upd (upd (upd (upd F 15 (nI fa308)) 16 pl309) 27 (nI (nd9 + 1))) 31 (nI wr11)) 64 (nI at307)) 65 (nI ne)) 66 (nI lk10)) (updA X406 2 K)) := mW_D hD
            refine W.widen (k := 0) (n := 0) (Nat.le_of_ble_eq_true rfl) (Nat.le_of_ble_eq_true rfl) ?_
            refine W.eq (g2 := F0 m 74 ls [.int (nI nd9)]) rfl ?_
            have hkp408 : Kp B X406 wr11 T := (Kp.new hkp28 h407)
            have hz409 : at0 ≤ at307 := (by omega)
            have hz410 : at307 ≤ T := (by omega)
            have hz411 : fa308 ≤ 100 := (by omega)
            have hz412 : nd ≤ (nd9 + 1) := (by omega)
            have hz413 : (nd9 + 1) + 2 * at0 ≤ nd + 2 * at307 + 100000 * fa308 := (by omega)
            have hz414 : (nd9 + 1) + 2 * at0 ≤ nd + 2 * at307 + (40 * (21 - ne) + 5) := (by omega)
            have hz415 : wr ≤ wr11 := (by omega)
            have hz416 : wr11 + at0 ≤ wr + at307 := (by omega)
            have hz417 : lk ≤ lk10 := (by omega)
            have hz418 : lk10 ≤ 60 + 100 * fa308 := (by omega)
            have hz419 : at0 + 1 ≤ at307 + fa308 := (by omega)
            have hz420 : nd9 ≤ (nd9 + 1) := (by omega)
            have hz421 : Kp B X406 wr11 T := hkp408
            have hz422 : If (fa308 = 0) (Low B X406 nd wr ∧ Frs K T wr11 X406 nd (nd9 + 1) 20000 [(nd9, 280)] ∧ X406 9 nd9 = 32) := (fun e => absurd e (by omega))
            have hP : va_P G.1 pCl (mW G h0 a (upd (upd (upd (upd (upd (upd (upd F 15 (nI fa308)) 16 pl309) 27 (nI (nd9 + 1))) 31 (nI wr11)) 64 (nI at307)) 65 (nI ne)) 66 (nI lk10)) (updA X406 2 K)) _ := hP
            have hD : va_D A (mW G h0 a (upd (upd (upd (upd (upd (upd (upd F 15 (nI fa308)) 16 pl309) 27 (nI (nd9 + 1))) 31 (nI wr11)) 64 (nI at307)) 65 (nI ne)) 66 (nI lk10)) (updA X406 2 K)) := mW_D hD
            exact W.iret (v := (nI nd9)) hx hb hr (fun t9 ht9 hW9 => ⟨⟨_, (at307, fa308, pl309, (nd9 + 1), lk10, wr11, nd9, X406), rfl, ⟨rfl, hz409, hz410, hz411, hz412, hz413, hz414, hz415, hz416, hz417, hz418, hz419, hz420, hz421, hz422⟩, by rw [ht9]; exact hP, hD⟩, hS.F ht9⟩) hS.2.2 dX12_simple_74
  · have e29 := e29
    refine lv_istore_n (lv' := [(3, .int (nI r12)), (2, .int (nI at0)), (0, .ref h0), (1, .int 0)]) hx hb dX12_simple_9 rfl hl (by decide) rfl (fun ls hl => ?_)
    refine lv_aload_n hx hb dX12_simple_10 rfl (lv_at hl 2 rfl) ?_
    refine r_get (v := .int (nI fa7)) hx hb hown hq hE hP 15 350 tFX12_15 (by decide) pw_1594 rfl dX12_simple_11 ?_
    refine lv_if_le (tgt := 19) hx hb dX12_simple_14 (by decide) (fun c423 => (by have n424 : fa7 ≤ 0 := (nI_leI (a := fa7) (b := 0) (by omega) (by omega)).mp c423; omega)) (fun c423 => ?_)
    refine lv_iconst (v := 0) hx hb dX12_simple_17 (by decide) ?_
    have hz425 : at0 ≤ at6 := (by omega)
    have hz426 : at6 ≤ T := (by omega)
    have hz427 : fa7 ≤ 100 := (by omega)
    have hz428 : nd ≤ nd9 := (by omega)
    have hz429 : nd9 + 2 * at0 ≤ nd + 2 * at6 + 100000 * fa7 := (by omega)
    have hz430 : nd9 + 2 * at0 ≤ nd + 2 * at6 + (40 * (21 - ne) + 5) := (by omega)
    have hz431 : wr ≤ wr11 := (by omega)
    have hz432 : wr11 + at0 ≤ wr + at6 := (by omega)
    have hz433 : lk ≤ lk10 := (by omega)
    have hz434 : lk10 ≤ 60 + 100 * fa7 := (by omega)
    have hz435 : at0 + 1 ≤ at6 + fa7 := (by omega)
    have hz436 : 0 ≤ nd9 := (by omega)
    have hz437 : Kp B X13 wr11 T := hkp28
    have hz438 : If (fa7 = 0) (Low B X13 nd wr ∧ Frs K T wr11 X13 nd nd9 20000 [(0, 280)] ∧ X13 9 0 = 32) := (fun e => absurd e (by omega))
    have hP : va_P G.1 pCl (mW G h0 a (upd (upd (upd (upd (upd (upd (upd F 15 (nI fa7)) 16 pl8) 27 (nI nd9)) 31 (nI wr11)) 64 (nI at6)) 65 (nI ne)) 66 (nI lk10)) (updA X13 2 K)) _ := hP
    have hD : va_D A (mW G h0 a (upd (upd (upd (upd (upd (upd (upd F 15 (nI fa7)) 16 pl8) 27 (nI nd9)) 31 (nI wr11)) 64 (nI at6)) 65 (nI ne)) 66 (nI lk10)) (updA X13 2 K)) := mW_D hD
    exact W.iret (v := 0) hx hb hr (fun t9 ht9 hW9 => ⟨⟨_, (at6, fa7, pl8, nd9, lk10, wr11, 0, X13), rfl, ⟨rfl, hz425, hz426, hz427, hz428, hz429, hz430, hz431, hz432, hz433, hz434, hz435, hz436, hz437, hz438⟩, by rw [ht9]; exact hP, hD⟩, hS.F ht9⟩) hS.2.2 dX12_simple_18
theorem dX12_simple_79 : decode cX12_simple 79 = .ok (.iload 4, 2) := by decide +kernel
theorem dX12_simple_81 : decode cX12_simple 81 = .ok (.bipush 7, 2) := by decide +kernel
theorem dX12_simple_83 : decode cX12_simple 83 = .ok (.if_icmp .eq 24, 3) := by decide +kernel
theorem dX12_simple_107 : decode cX12_simple 107 = .ok (.aload_n 0, 1) := by decide +kernel
theorem dX12_simple_108 : decode cX12_simple 108 = .ok (.bipush 33, 2) := by decide +kernel
theorem dX12_simple_110 : decode cX12_simple 110 = .ok (.iload_n 2, 1) := by decide +kernel
theorem dX12_simple_111 : decode cX12_simple 111 = .ok (.iload_n 2, 1) := by decide +kernel
theorem dX12_simple_112 : decode cX12_simple 112 = .ok (.iload_n 3, 1) := by decide +kernel
theorem dX12_simple_113 : decode cX12_simple 113 = .ok (.iconst (-1), 1) := by decide +kernel
theorem dX12_simple_114 : decode cX12_simple 114 = .ok (.invokevirtual 428, 3) := by decide +kernel
theorem dX12_simple_117 : decode cX12_simple 117 = .ok (.ireturn, 1) := by decide +kernel
theorem dX12_simple_86 : decode cX12_simple 86 = .ok (.iload 4, 2) := by decide +kernel
theorem dX12_simple_88 : decode cX12_simple 88 = .ok (.bipush 8, 2) := by decide +kernel
theorem dX12_simple_90 : decode cX12_simple 90 = .ok (.if_icmp .eq 17, 3) := by decide +kernel
theorem dX12_simple_93 : decode cX12_simple 93 = .ok (.iload 4, 2) := by decide +kernel
theorem dX12_simple_95 : decode cX12_simple 95 = .ok (.bipush 14, 2) := by decide +kernel
theorem dX12_simple_97 : decode cX12_simple 97 = .ok (.if_icmp .eq 10, 3) := by decide +kernel
set_option maxHeartbeats 2000000 in
set_option maxRecDepth 100000 in
/-- simple(mayCall), no fault ahead -/
theorem RT_simple1 (l : Launch) (G : pT) (h0 : Nat) (a : Nat → Nat) (F : Nat → Int32) (B : Nat → Nat → Int32) (at0 : Nat) (T : Nat) (n : Nat) (ne : Nat) (nd : Nat) (wr : Nat) (lk : Nat) (K : Nat → Int32) (hat : at0 ≤ T) (hT : T ≤ 5000) (hK : K T = 0 ∨ K T = 3) (hne : ne ≤ 20) (hnd : nd ≤ 2 * at0) (hwr : wr ≤ at0) (hlk : lk ≤ 60) (hy : tkRow (B 19) wr T) (hn : 21 ≤ n + ne) (hEc : Pchoice l G n) (hEh : Pchain l G n) : PM l G pX0 yX12_simple cX12_simple 6 (some .int) ({ frames := (26 * n + 30), cells := 0, slots := 0, locals := (2000 * n + 3000) }) [.ref h0, .int 1] (mW G h0 a (upd (upd (upd (upd (upd (upd F 15 0) 27 (nI nd)) 31 (nI wr)) 64 (nI at0)) 65 (nI ne)) 66 (nI lk)) (updA B 2 K)) (fun (v : Option Value) (u : Nat × Nat × Int32 × Nat × Nat × Nat × Nat × (Nat → Nat → Int32)) => v = some (.int (nI u.2.2.2.2.2.2.1)) ∧ (at0 ≤ u.1) ∧ (u.1 ≤ T) ∧ (u.2.1 ≤ 100) ∧ (nd ≤ u.2.2.2.1) ∧ (u.2.2.2.1 + 2 * at0 ≤ nd + 2 * u.1 + 1 + 100000 * u.2.1) ∧ (u.2.2.2.1 + 2 * at0 ≤ nd + 2 * u.1 + (40 * (21 - ne) + 5)) ∧ (wr ≤ u.2.2.2.2.2.1) ∧ (u.2.2.2.2.2.1 + at0 ≤ wr + u.1) ∧ (lk ≤ u.2.2.2.2.1) ∧ (u.2.2.2.2.1 ≤ 60 + 100 * u.2.1) ∧ (at0 + 1 ≤ u.1 + u.2.1) ∧ (u.2.2.2.2.2.2.1 ≤ u.2.2.2.1) ∧ (Kp B u.2.2.2.2.2.2.2 u.2.2.2.2.2.1 T) ∧ (If (u.2.1 = 0) (Low B u.2.2.2.2.2.2.2 nd wr ∧ Frs K T u.2.2.2.2.2.1 u.2.2.2.2.2.2.2 nd u.2.2.2.1 20000 [(u.2.2.2.2.2.2.1, 280)] ∧ kcl 15 (u.2.2.2.2.2.2.2 9 u.2.2.2.2.2.2.1) = true))) (fun u => (mW G h0 a (upd (upd (upd (upd (upd (upd (upd F 15 (nI u.2.1)) 16 u.2.2.1) 27 (nI u.2.2.2.1)) 31 (nI u.2.2.2.2.2.1)) 64 (nI u.1)) 65 (nI ne)) 66 (nI u.2.2.2.2.1)) (updA u.2.2.2.2.2.2.2 2 K))) := by
  intro sz
  refine Met.ofW (cc := cX12_simple) (maxL := 6) (ret := (some .int)) (by decide) rfl ?_
  intro p e s m args below meth c s₁ B9 hml hv
  obtain ⟨rfl, hsz, hP, hD0, hE, hX⟩ := hv
  have hx := B9.exec
  have hb := B9.bytes
  have hr := B9.returns
  have hts := atoms_spec (ws := Cond.code yX12_simple cX12_simple 6 (some .int) :: pw) B9.pre
  have hq : ∀ w ∈ pw, w.before _ s = true := fun w h => hts w (List.mem_cons_of_mem _ h)
  have hown : s.vm.findClass RX12 = some m.cls := findClass_of_methodNamed B9.named
  have hlocks := B9.notSynchronized
  subst hsz
  have hD := hD0.self (sz := s.heap.size)
  have hA : ∀ q : Nat, s.heap.size ≤ q → va_A (mW G h0 a (upd (upd (upd (upd (upd (upd F 15 0) 27 (nI nd)) 31 (nI wr)) 64 (nI at0)) 65 (nI ne)) 66 (nI lk)) (updA B 2 K)) s.heap.size q := fun q h => Or.inr h
  have hP : va_P G.1 pCl (mW G h0 a (upd (upd (upd (upd (upd (upd F 15 0) 27 (nI nd)) 31 (nI wr)) 64 (nI at0)) 65 (nI ne)) 66 (nI lk)) (updA B 2 K)) s.heap := hP
  generalize va_A (mW G h0 a (upd (upd (upd (upd (upd (upd F 15 0) 27 (nI nd)) 31 (nI wr)) 64 (nI at0)) 65 (nI ne)) 66 (nI lk)) (updA B 2 K)) s.heap.size = A at hD hE hA ⊢
  have hS : va_S A s.heap s.heap [] := va_S.rf
  have hl := lv_entry ([.ref h0, .int 1]) (n := 6) (Nat.le_of_ble_eq_true rfl)
  rw [lg_entry_eq]
  generalize (lg_sl ([.ref h0, .int 1]) ++ List.replicate (6 - (lg_sl ([.ref h0, .int 1])).length) Slot.unset).toArray = ls at hl ⊢
  have hl : lv_has ls 6 [(0, .ref h0), (1, .int 1)] := hl
  have hkp1 : Kp B B wr T := Kp.rfl hy
  have hlo2 : Low B B nd wr := Low.rfl
  refine lv_aload_n hx hb dX12_simple_0 rfl (lv_at hl 0 rfl) ?_
  refine r_get (v := .int (nI at0)) hx hb hown hq hE hP 64 343 tFX12_64 (by decide) pw_1592 rfl dX12_simple_1 ?_
  refine lv_istore_n (lv' := [(2, .int (nI at0)), (0, .ref h0), (1, .int 1)]) hx hb dX12_simple_4 rfl hl (by decide) rfl (fun ls hl => ?_)
  refine lv_aload_n hx hb dX12_simple_5 rfl (lv_at hl 1 rfl) ?_
  have hP : va_P G.1 pCl (mW G h0 a (upd (upd (upd (upd (upd (upd (upd (upd (upd (upd (upd (upd F 15 0) 27 (nI nd)) 31 (nI wr)) 64 (nI at0)) 65 (nI ne)) 66 (nI lk)) 15 0) 27 (nI nd)) 31 (nI wr)) 64 (nI at0)) 65 (nI ne)) 66 (nI lk)) (updA B 2 K)) _ := mW_to (F := F) (l1 := [(15, 0), (27, (nI nd)), (31, (nI wr)), (64, (nI at0)), (65, (nI ne)), (66, (nI lk))]) (l2 := [(15, 0), (27, (nI nd)), (31, (nI wr)), (64, (nI at0)), (65, (nI ne)), (66, (nI lk)), (15, 0), (27, (nI nd)), (31, (nI wr)), (64, (nI at0)), (65, (nI ne)), (66, (nI lk))]) (V := [0, (nI nd), (nI wr), (nI at0), (nI ne), (nI lk), 0, (nI nd), (nI wr), (nI at0), (nI ne), (nI lk), 0, (nI nd), (nI wr), (nI at0), (nI ne), (nI lk)]) rfl rfl rfl hP
  have hD : va_D A (mW G h0 a (upd (upd (upd (upd (upd (upd (upd (upd (upd (upd (upd (upd F 15 0) 27 (nI nd)) 31 (nI wr)) 64 (nI at0)) 65 (nI ne)) 66 (nI lk)) 15 0) 27 (nI nd)) 31 (nI wr)) 64 (nI at0)) 65 (nI ne)) 66 (nI lk)) (updA B 2 K)) := mW_D hD
  refine pc_V0 (G := G) (As := []) (rest := []) hx hb hml hown hq hE hX pX0_al hP hD hS hA hl.1 (hEh h0 a (upd (upd (upd (upd (upd (upd F 15 0) 27 (nI nd)) 31 (nI wr)) 64 (nI at0)) 65 (nI ne)) 66 (nI lk)) B at0 T ne nd wr lk K (by omega) (by omega) hK (by omega) (by omega) (by omega) (by omega) (hkp1).2 (by omega)) (gV pw_1661 pw_1662 pw_1663 pw_1523 pw_1643) hV_X12_chain 0 9 rfl rfl rfl rfl (Nat.le_of_ble_eq_true rfl) dX12_simple_6 ⟨Nat.le_of_ble_eq_true rfl, Nat.le_of_ble_eq_true rfl⟩ ⟨(by show (20 * n + 12) + 1 ≤ (26 * n + 30); omega), (by show 8 + (4 + 11) + (1000 * n + 40 * 12) ≤ (2000 * n + 3000); omega)⟩ (fun v5 u3 H locs hw4 hP hD hS => ?_)
  obtain ⟨at6, fa7, pl8, nd9, lk10, wr11, r12, X13⟩ := u3
  obtain ⟨hw4, h14, h15, h16, h17, h18, h19, h20, h21, h22, h23, h24, h25, h26, h27⟩ := hw4
  have h14 : at0 ≤ at6 := h14
  have h15 : at6 ≤ T := h15
  have h16 : fa7 ≤ 100 := h16
  have h17 : nd ≤ nd9 := h17
  have h18 : nd9 + 2 * at0 ≤ nd + 2 * at6 + 100000 * fa7 := h18
  have h19 : nd9 + 2 * at0 ≤ nd + 2 * at6 + 40 * (21 - ne) := h19
  have h20 : wr ≤ wr11 := h20
  have h21 : wr11 + at0 ≤ wr + at6 := h21
  have h22 : lk ≤ lk10 := h22
  have h23 : lk10 ≤ 60 + 100 * fa7 := h23
  have h24 : at0 + 1 ≤ at6 + fa7 := h24
  have h25 : r12 ≤ nd9 := h25
  have h26 : Kp B X13 wr11 T := h26
  have h27 : If (fa7 = 0) (Low B X13 nd wr ∧ Frs K T wr11 X13 nd nd9 20000 [(r12, (210 + lk10 - (10 * ne + lk)))] ∧ kcl 1 (X13 9 r12) = true) := h27
  obtain rfl : v5 = some (.int (nI r12)) := hw4
  have hP : va_P G.1 pCl (mW G h0 a (upd (upd (upd (upd (upd (upd (upd F 15 (nI fa7)) 16 pl8) 27 (nI nd9)) 31 (nI wr11)) 64 (nI at6)) 65 (nI ne)) 66 (nI lk10)) (updA X13 2 K)) _ := mW_to (F := F) (l1 := [(15, 0), (27, (nI nd)), (31, (nI wr)), (64, (nI at0)), (65, (nI ne)), (66, (nI lk)), (15, (nI fa7)), (16, pl8), (27, (nI nd9)), (31, (nI wr11)), (64, (nI at6)), (65, (nI ne)), (66, (nI lk10))]) (l2 := [(15, (nI fa7)), (16, pl8), (27, (nI nd9)), (31, (nI wr11)), (64, (nI at6)), (65, (nI ne)), (66, (nI lk10))]) (V := [(nI fa7), (nI nd9), (nI wr11), (nI at6), (nI ne), (nI lk10), (nI fa7), pl8, (nI nd9), (nI wr11), (nI at6), (nI ne), (nI lk10), (nI fa7), pl8, (nI nd9), (nI wr11), (nI at6), (nI ne), (nI lk10)]) rfl rfl rfl hP
  have hD : va_D A (mW G h0 a (upd (upd (upd (upd (upd (upd (upd F 15 (nI fa7)) 16 pl8) 27 (nI nd9)) 31 (nI wr11)) 64 (nI at6)) 65 (nI ne)) 66 (nI lk10)) (updA X13 2 K)) := mW_D hD
  refine W.widen (k := 0) (n := 0) (Nat.le_of_ble_eq_true rfl) (Nat.le_of_ble_eq_true rfl) ?_
  refine W.eq (g2 := F0 m 9 ls [.int (nI r12)]) rfl ?_
  have hkp28 : Kp B X13 wr11 T := (Kp.trans hkp1 h26)
  rcases Nat.eq_zero_or_pos fa7 with e29 | e29
  · subst e29
    have hP : va_P G.1 pCl (mW G h0 a (upd (upd (upd (upd (upd (upd (upd F 15 0) 16 pl8) 27 (nI nd9)) 31 (nI wr11)) 64 (nI at6)) 65 (nI ne)) 66 (nI lk10)) (updA X13 2 K)) _ := hP
    have hD : va_D A (mW G h0 a (upd (upd (upd (upd (upd (upd (upd F 15 0) 16 pl8) 27 (nI nd9)) 31 (nI wr11)) 64 (nI at6)) 65 (nI ne)) 66 (nI lk10)) (updA X13 2 K)) := mW_D hD
    obtain ⟨hlw30, hf31, hc32⟩ := h27 rfl
    have hlo33 : Low B X13 nd wr := (Low.trans hlo2 hlw30 (by omega) (by omega))
    have hm34 := Frs.mem hf31
    refine lv_istore_n (lv' := [(3, .int (nI r12)), (2, .int (nI at0)), (0, .ref h0), (1, .int 1)]) hx hb dX12_simple_9 rfl hl (by decide) rfl (fun ls hl => ?_)
    refine lv_aload_n hx hb dX12_simple_10 rfl (lv_at hl 2 rfl) ?_
    refine r_get (v := .int 0) hx hb hown hq hE hP 15 350 tFX12_15 (by decide) pw_1594 rfl dX12_simple_11 ?_
    refine lv_if_le (tgt := 19) hx hb dX12_simple_14 (by decide) (fun c35 => ?_) (fun c35 => absurd c35 (by decide))
    refine lv_aload_n hx hb dX12_simple_19 rfl (lv_at hl 2 rfl) ?_
    refine r_get (v := .ref (a 9)) hx hb hown hq hE hP 17 38 tFX12_17 (by decide) pw_1439 rfl dX12_simple_20 ?_
    refine lv_iload_n hx hb dX12_simple_23 rfl (lv_at hl 0 rfl) ?_
    refine r_ldi (f := (X13 9)) (j := r12) hx hb hE hP 9 (ma_9 G a _) rfl (by omega) (by decide) dX12_simple_24 ?_
    refine lv_istore (lv' := [(4, .int ((X13 9) r12)), (3, .int (nI r12)), (2, .int (nI at0)), (0, .ref h0), (1, .int 1)]) hx hb dX12_simple_25 hl (by decide) rfl (fun ls hl => ?_)
    refine lv_iload hx hb dX12_simple_27 (lv_at hl 0 rfl) ?_
    refine lv_bipush (v := 6) hx hb dX12_simple_29 (by decide) ?_
    refine lv_icmp_eq (tgt := 48) hx hb dX12_simple_31 (by decide) (fun c36 => ?_) (fun c36 => ?_)
    · have hc37 : kcl 12 (X13 9 r12) = true := (by rw [show X13 9 r12 = _ from c36]; decide)
      refine lv_aload_n hx hb dX12_simple_48 rfl (lv_at hl 3 rfl) ?_
      refine r_get (v := .int (nI at6)) hx hb hown hq hE hP 64 343 tFX12_64 (by decide) pw_1592 rfl dX12_simple_49 ?_
      refine lv_istore (lv' := [(5, .int (nI at6)), (4, .int ((X13 9) r12)), (3, .int (nI r12)), (2, .int (nI at0)), (0, .ref h0), (1, .int 1)]) hx hb dX12_simple_52 hl (by decide) rfl (fun ls hl => ?_)
      refine lv_aload_n hx hb dX12_simple_54 rfl (lv_at hl 4 rfl) ?_
      refine lv_bipush (v := 61) hx hb dX12_simple_55 (by decide) ?_
      have hP : va_P G.1 pCl (mW G h0 a (upd (upd (upd (upd (upd (upd (upd (upd (upd F 15 0) 16 pl8) 27 (nI nd9)) 31 (nI wr11)) 64 (nI at6)) 65 (nI ne)) 66 (nI lk10)) 15 (nI 0)) 64 (nI at6)) (updA (updA X13 2 K) 2 K)) _ := mW_to (F := F) (l1 := [(15, 0), (16, pl8), (27, (nI nd9)), (31, (nI wr11)), (64, (nI at6)), (65, (nI ne)), (66, (nI lk10))]) (l2 := [(15, 0), (16, pl8), (27, (nI nd9)), (31, (nI wr11)), (64, (nI at6)), (65, (nI ne)), (66, (nI lk10)), (15, (nI 0)), (64, (nI at6))]) (V := [(nI 0), pl8, (nI nd9), (nI wr11), (nI at6), (nI ne), (nI lk10), (nI 0), pl8, (nI nd9), (nI wr11), (nI at6), (nI ne), (nI lk10), (nI 0), (nI at6)]) rfl rfl (show (updA X13 2 K) = (updA (updA X13 2 K) 2 K) from updsA_eq2 (F := X13) (l1 := [(2, K)]) (l2 := [(2, K), (2, K)]) (V := [K, K, K]) rfl rfl) hP
      have hD : va_D A (mW G h0 a (upd (upd (upd (upd (upd (upd (upd (upd (upd F 15 0) 16 pl8) 27 (nI nd9)) 31 (nI wr11)) 64 (nI at6)) 65 (nI ne)) 66 (nI lk10)) 15 (nI 0)) 64 (nI at6)) (updA (updA X13 2 K) 2 K)) := mW_D hD
      refine pc_V0 (G := G) (As := [.int 61]) (rest := []) hx hb hml hown hq hE hX pX0_al hP hD hS hA hl.1 (R_take l G h0 a (upd (upd (upd (upd (upd (upd (upd F 15 0) 16 pl8) 27 (nI nd9)) 31 (nI wr11)) 64 (nI at6)) 65 (nI ne)) 66 (nI lk10)) (updA X13 2 K) at6 T 0 K 61 (by omega) (by omega) hK (by omega) (by decide) (by decide)) (gV pw_1614 pw_1615 pw_1616 pw_1523 pw_1601) hV_X12_take 0 9 rfl rfl rfl rfl (Nat.le_of_ble_eq_true rfl) dX12_simple_57 ⟨Nat.le_of_ble_eq_true rfl, Nat.le_of_ble_eq_true rfl⟩ ⟨(by show 4 + 1 ≤ (26 * n + 30); omega), (by show 8 + (2 + 11) + 103 ≤ (2000 * n + 3000); omega)⟩ (fun v40 u38 H locs hw39 hP hD hS => ?_)
      obtain ⟨at41, fa42, pl43⟩ := u38
      obtain ⟨hw39, h44, h45, h46, h47, h48, h49, h50, h51⟩ := hw39
      have h44 : at6 ≤ at41 := h44
      have h45 : at41 ≤ T := h45
      have h46 : 0 ≤ fa42 := h46
      have h47 : fa42 ≤ 100 := h47
      have h48 : If (0 < 0) (at41 = at6 ∧ fa42 = 0) := h48
      have h49 : at41 ≤ at6 + 1 := h49
      have h50 : at6 + 1 ≤ at41 + fa42 := h50
      have h51 : If (fa42 = 0) (K at6 = 61) := h51
      obtain rfl : v40 = none := hw39
      have hP : va_P G.1 pCl (mW G h0 a (upd (upd (upd (upd (upd (upd (upd F 15 (nI fa42)) 16 pl43) 27 (nI nd9)) 31 (nI wr11)) 64 (nI at41)) 65 (nI ne)) 66 (nI lk10)) (updA X13 2 K)) _ := mW_to (F := F) (l1 := [(15, 0), (16, pl8), (27, (nI nd9)), (31, (nI wr11)), (64, (nI at6)), (65, (nI ne)), (66, (nI lk10)), (15, (nI fa42)), (16, pl43), (64, (nI at41))]) (l2 := [(15, (nI fa42)), (16, pl43), (27, (nI nd9)), (31, (nI wr11)), (64, (nI at41)), (65, (nI ne)), (66, (nI lk10))]) (V := [(nI fa42), pl43, (nI nd9), (nI wr11), (nI at41), (nI ne), (nI lk10), (nI fa42), pl43, (nI at41), (nI fa42), pl43, (nI nd9), (nI wr11), (nI at41), (nI ne), (nI lk10)]) rfl rfl (show (updA (updA X13 2 K) 2 K) = (updA X13 2 K) from updsA_eq2 (F := X13) (l1 := [(2, K), (2, K)]) (l2 := [(2, K)]) (V := [K, K, K]) rfl rfl) hP
      have hD : va_D A (mW G h0 a (upd (upd (upd (upd (upd (upd (upd F 15 (nI fa42)) 16 pl43) 27 (nI nd9)) 31 (nI wr11)) 64 (nI at41)) 65 (nI ne)) 66 (nI lk10)) (updA X13 2 K)) := mW_D hD
      refine W.widen (k := 0) (n := 0) (Nat.le_of_ble_eq_true rfl) (Nat.le_of_ble_eq_true rfl) ?_
      refine W.eq (g2 := F0 m 60 ls []) rfl ?_
      rcases Nat.eq_zero_or_pos fa42 with e52 | e52
      · subst e52
        have hP : va_P G.1 pCl (mW G h0 a (upd (upd (upd (upd (upd (upd (upd F 15 0) 16 pl43) 27 (nI nd9)) 31 (nI wr11)) 64 (nI at41)) 65 (nI ne)) 66 (nI lk10)) (updA X13 2 K)) _ := hP
        have hD : va_D A (mW G h0 a (upd (upd (upd (upd (upd (upd (upd F 15 0) 16 pl43) 27 (nI nd9)) 31 (nI wr11)) 64 (nI at41)) 65 (nI ne)) 66 (nI lk10)) (updA X13 2 K)) := mW_D hD
        refine lv_aload_n hx hb dX12_simple_60 rfl (lv_at hl 4 rfl) ?_
        refine lv_bipush (v := 32) hx hb dX12_simple_61 (by decide) ?_
        refine lv_iload_n hx hb dX12_simple_63 rfl (lv_at hl 3 rfl) ?_
        refine lv_iload hx hb dX12_simple_64 (lv_at hl 0 rfl) ?_
        refine lv_iload_n hx hb dX12_simple_66 rfl (lv_at hl 2 rfl) ?_
        refine lv_aload_n hx hb dX12_simple_67 rfl (lv_at hl 4 rfl) ?_
        have hP : va_P G.1 pCl (mW G h0 a (upd (upd (upd (upd (upd (upd (upd (upd (upd (upd (upd (upd (upd F 15 0) 16 pl43) 27 (nI nd9)) 31 (nI wr11)) 64 (nI at41)) 65 (nI ne)) 66 (nI lk10)) 15 0) 27 (nI nd9)) 31 (nI wr11)) 64 (nI at41)) 65 (nI ne)) 66 (nI lk10)) (updA X13 2 K)) _ := mW_to (F := F) (l1 := [(15, 0), (16, pl43), (27, (nI nd9)), (31, (nI wr11)), (64, (nI at41)), (65, (nI ne)), (66, (nI lk10))]) (l2 := [(15, 0), (16, pl43), (27, (nI nd9)), (31, (nI wr11)), (64, (nI at41)), (65, (nI ne)), (66, (nI lk10)), (15, 0), (27, (nI nd9)), (31, (nI wr11)), (64, (nI at41)), (65, (nI ne)), (66, (nI lk10))]) (V := [0, pl43, (nI nd9), (nI wr11), (nI at41), (nI ne), (nI lk10), 0, pl43, (nI nd9), (nI wr11), (nI at41), (nI ne), (nI lk10), 0, (nI nd9), (nI wr11), (nI at41), (nI ne), (nI lk10)]) rfl rfl rfl hP
        have hD : va_D A (mW G h0 a (upd (upd (upd (upd (upd (upd (upd (upd (upd (upd (upd (upd (upd F 15 0) 16 pl43) 27 (nI nd9)) 31 (nI wr11)) 64 (nI at41)) 65 (nI ne)) 66 (nI lk10)) 15 0) 27 (nI nd9)) 31 (nI wr11)) 64 (nI at41)) 65 (nI ne)) 66 (nI lk10)) (updA X13 2 K)) := mW_D hD
        refine pc_V0 (G := G) (As := []) (rest := [.int (nI r12), .int (nI at6), .int (nI at0), .int 32, .ref h0]) hx hb hml hown hq hE hX pX0_al hP hD hS hA hl.1 (hEc h0 a (upd (upd (upd (upd (upd (upd (upd F 15 0) 16 pl43) 27 (nI nd9)) 31 (nI wr11)) 64 (nI at41)) 65 (nI ne)) 66 (nI lk10)) X13 at41 T ne nd9 wr11 lk10 K (by omega) (by omega) hK (by omega) (by omega) (by omega) (by omega) (hkp28).2 (by omega)) (gV pw_1640 pw_1641 pw_1642 pw_1523 pw_1656) hV_X12_choice 0 9 rfl rfl rfl rfl (Nat.le_of_ble_eq_true rfl) dX12_simple_68 ⟨Nat.le_of_ble_eq_true rfl, Nat.le_of_ble_eq_true rfl⟩ ⟨(by show (20 * n + 27) + 1 ≤ (26 * n + 30); omega), (by show 8 + (4 + 11) + (1000 * n + 40 * 27) ≤ (2000 * n + 3000); omega)⟩ (fun v55 u53 H locs hw54 hP hD hS => ?_)
        obtain ⟨at56, fa57, pl58, nd59, lk60, wr61, r62, X63⟩ := u53
        obtain ⟨hw54, h64, h65, h66, h67, h68, h69, h70, h71, h72, h73, h74, h75, h76, h77⟩ := hw54
        have h64 : at41 ≤ at56 := h64
        have h65 : at56 ≤ T := h65
        have h66 : fa57 ≤ 100 := h66
        have h67 : nd9 ≤ nd59 := h67
        have h68 : nd59 + 2 * at41 ≤ nd9 + 2 * at56 + 100000 * fa57 := h68
        have h69 : nd59 + 2 * at41 ≤ nd9 + 2 * at56 + 40 * (21 - ne) := h69
        have h70 : wr11 ≤ wr61 := h70
        have h71 : wr61 + at41 ≤ wr11 + at56 := h71
        have h72 : lk10 ≤ lk60 := h72
        have h73 : lk60 ≤ 60 + 100 * fa57 := h73
        have h74 : at41 + 1 ≤ at56 + fa57 := h74
        have h75 : r62 ≤ nd59 := h75
        have h76 : Kp X13 X63 wr61 T := h76
        have h77 : If (fa57 = 0) (Low X13 X63 nd9 wr11 ∧ Frs K T wr61 X63 nd9 nd59 20000 [(r62, (211 + lk60 - (10 * ne + lk10)))] ∧ kcl 1 (X63 9 r62) = true) := h77
        obtain rfl : v55 = some (.int (nI r62)) := hw54
        have hP : va_P G.1 pCl (mW G h0 a (upd (upd (upd (upd (upd (upd (upd F 15 (nI fa57)) 16 pl58) 27 (nI nd59)) 31 (nI wr61)) 64 (nI at56)) 65 (nI ne)) 66 (nI lk60)) (updA X63 2 K)) _ := mW_to (F := F) (l1 := [(15, 0), (16, pl43), (27, (nI nd9)), (31, (nI wr11)), (64, (nI at41)), (65, (nI ne)), (66, (nI lk10)), (15, (nI fa57)), (16, pl58), (27, (nI nd59)), (31, (nI wr61)), (64, (nI at56)), (65, (nI ne)), (66, (nI lk60))]) (l2 := [(15, (nI fa57)), (16, pl58), (27, (nI nd59)), (31, (nI wr61)), (64, (nI at56)), (65, (nI ne)), (66, (nI lk60))]) (V := [(nI fa57), pl58, (nI nd59), (nI wr61), (nI at56), (nI ne), (nI lk60), (nI fa57), pl58, (nI nd59), (nI wr61), (nI at56), (nI ne), (nI lk60), (nI fa57), pl58, (nI nd59), (nI wr61), (nI at56), (nI ne), (nI lk60)]) rfl rfl rfl hP
        have hD : va_D A (mW G h0 a (upd (upd (upd (upd (upd (upd (upd F 15 (nI fa57)) 16 pl58) 27 (nI nd59)) 31 (nI wr61)) 64 (nI at56)) 65 (nI ne)) 66 (nI lk60)) (updA X63 2 K)) := mW_D hD
        refine W.widen (k := 0) (n := 0) (Nat.le_of_ble_eq_true rfl) (Nat.le_of_ble_eq_true rfl) ?_
        refine W.eq (g2 := F0 m 71 ls [.int (nI r62), .int (nI r12), .int (nI at6), .int (nI at0), .int 32, .ref h0]) rfl ?_
        have hkp78 : Kp B X63 wr61 T := (Kp.trans hkp28 h76)
        rcases Nat.eq_zero_or_pos fa57 with e79 | e79
        · subst e79
          have hP : va_P G.1 pCl (mW G h0 a (upd (upd (upd (upd (upd (upd (upd F 15 0) 16 pl58) 27 (nI nd59)) 31 (nI wr61)) 64 (nI at56)) 65 (nI ne)) 66 (nI lk60)) (updA X63 2 K)) _ := hP
          have hD : va_D A (mW G h0 a (upd (upd (upd (upd (upd (upd (upd F 15 0) 16 pl58) 27 (nI nd59)) 31 (nI wr61)) 64 (nI at56)) 65 (nI ne)) 66 (nI lk60)) (updA X63 2 K)) := mW_D hD
          obtain ⟨hlw80, hf81, hc82⟩ := h77 rfl
          have hlo83 : Low B X63 nd wr := (Low.trans hlo33 hlw80 (by omega) (by omega))
          have hf84 : Frs K T wr61 X63 nd nd9 20000 [(r12, (210 + lk10 - (10 * ne + lk)))] := (Frs.same hf31 (by omega) (fun j i q1 q2 q3 q4 => (hlw80.1 j i q1 (by omega) (by omega))))
          have hc85 : kcl 12 (X63 9 r12) = true := by rw [hlw80.1 9 r12 (by omega) (by omega) (by omega)]; exact hc37
          have hm86 := Frs.mem hf81
          have hP : va_P G.1 pCl (mW G h0 a (upd (upd (upd (upd (upd (upd (upd (upd F 15 0) 16 pl58) 27 (nI nd59)) 31 (nI wr61)) 64 (nI at56)) 65 (nI ne)) 66 (nI lk60)) 27 (nI nd59)) (updA X63 2 K)) _ := mW_to (F := F) (l1 := [(15, 0), (16, pl58), (27, (nI nd59)), (31, (nI wr61)), (64, (nI at56)), (65, (nI ne)), (66, (nI lk60))]) (l2 := [(15, 0), (16, pl58), (27, (nI nd59)), (31, (nI wr61)), (64, (nI at56)), (65, (nI ne)), (66, (nI lk60)), (27, (nI nd59))]) (V := [0, pl58, (nI nd59), (nI wr61), (nI at56), (nI ne), (nI lk60), 0, pl58, (nI nd59), (nI wr61), (nI at56), (nI ne), (nI lk60), (nI nd59)]) rfl rfl rfl hP
          have hD : va_D A (mW G h0 a (upd (upd (upd (upd (upd (upd (upd (upd F 15 0) 16 pl58) 27 (nI nd59)) 31 (nI wr61)) 64 (nI at56)) 65 (nI ne)) 66 (nI lk60)) 27 (nI nd59)) (updA X63 2 K)) := mW_D hD
          refine pc_V0 (G := G) (As := [.int 32, .int (nI at0), .int (nI at6), .int (nI r12), .int (nI r62)]) (rest := []) hx hb hml hown hq hE hX pX0_al hP hD hS hA hl.1 (R_nodeB l G h0 a (upd (upd (upd (upd (upd (upd (upd F 15 0) 16 pl58) 27 (nI nd59)) 31 (nI wr61)) 64 (nI at56)) 65 (nI ne)) 66 (nI lk60)) X63 32 (nI at0) (nI at6) (nI r12) (nI r62) nd59 K (by omega)) (gV pw_1650 pw_1651 pw_1652 pw_1523 pw_1589) hV_X12_node 0 9 rfl rfl rfl rfl (Nat.le_of_ble_eq_true rfl) dX12_simple_71 ⟨Nat.le_of_ble_eq_true rfl, Nat.le_of_ble_eq_true rfl⟩ ⟨(by show 2 + 1 ≤ (26 * n + 30); omega), (by show 8 + (7 + 11) + 60 ≤ (2000 * n + 3000); omega)⟩ (fun v89 u87 H locs hw88 hP hD hS => ?_)
          obtain ⟨X90, rfl⟩ : ∃ z, z = u87 := ⟨_, rfl⟩
          obtain ⟨hw88, h91⟩ := hw88
          have h91 : NewN X63 X90 nd59 32 (nI at0) (nI at6) (nI r12) (nI r62) := h91
          obtain rfl : v89 = some (.int (nI nd59)) := hw88
          have hP : va_P G.1 pCl (mW G h0 a (upd (upd (upd (upd (upd (upd (upd F 15 0) 16 pl58) 27 (nI (nd59 + 1))) 31 (nI wr61)) 64 (nI at56)) 65 (nI ne)) 66 (nI lk60)) (updA X90 2 K)) _ := mW_to (F := F) (l1 := [(15, 0), (16, pl58), (27, (nI nd59)), (31, (nI wr61)), (64, (nI at56)), (65, (nI ne)), (66, (nI lk60)), (27, (nI (nd59 + 1)))]) (l2 := [(15, 0), (16, pl58), (27, (nI (nd59 + 1))), (31, (nI wr61)), (64, (nI at56)), (65, (nI ne)), (66, (nI lk60))]) (V := [0, pl58, (nI (nd59 + 1)), (nI wr61), (nI at56), (nI ne), (nI lk60), (nI (nd59 + 1)), 0, pl58, (nI (nd59 + 1)), (nI wr61), (nI at56), (nI ne), (nI lk60)]) rfl rfl rfl hP
          have hD : va_D A (mW G h0 a (upd (upd (upd (upd (upd (upd (upd F 15 0) 16 pl58) 27 (nI (nd59 + 1))) 31 (nI wr61)) 64 (nI at56)) 65 (nI ne)) 66 (nI lk60)) (updA X90 2 K)) := mW_D hD
          refine W.widen (k := 0) (n := 0) (Nat.le_of_ble_eq_true rfl) (Nat.le_of_ble_eq_true rfl) ?_
          refine W.eq (g2 := F0 m 74 ls [.int (nI nd59)]) rfl ?_
          have hkp92 : Kp B X90 wr61 T := (Kp.new hkp78 h91)
          have hlo93 : Low B X90 nd wr := (Low.new hlo83 h91 (by omega))
          have hf94 : Frs K T wr61 X63 nd nd59 20000 [(r12, (210 + lk10 - (10 * ne + lk))), (r62, (211 + lk60 - (10 * ne + lk10)))] := (Frs.join hf84 hf81 (by omega) (by omega) (by omega))
          have hc95 : kcl 12 (X90 9 r12) = true := by rw [h91.2.1 9 r12 (by omega)]; exact hc85
          have hc96 : kcl 1 (X90 9 r62) = true := by rw [h91.2.1 9 r62 (by omega)]; exact hc82
          have hf97 : Frs K T wr61 X90 nd (nd59 + 1) nd59 [(nd59, 280)] := (Frs.new2 (k := 32) hf94 (by omega) (by omega) (by omega) h91 rfl rfl (by omega) rfl (by decide) (by decide) (by omega) (by omega) (fun e => absurd e (by decide)) (by simp) ⟨by decide, by decide, by decide, by decide⟩ ⟨by decide, by decide, by decide, by decide⟩ hc85 hc82 (newOK.m1 (by decide)) (newOK.m1 (by decide)) (by omega) (by omega))
          have hn98 : Nd X90 nd59 32 (nI r12) (nI r62) (-1) (-1) := (NewN.toNd h91)
          have hf99 : Frs K T wr61 X90 nd (nd59 + 1) 20000 [(nd59, 280)] := (Frs.fin (k := 32) hf97 hn98 rfl (by decide) (fun _ => nI_m1 (by omega)) (fun _ => nI_m1 (by omega)) (fun h => absurd h (by decide)) (fun h => absurd h (by decide)))
          have hz100 : at0 ≤ at56 := (by omega)
          have hz101 : at56 ≤ T := (by omega)
          have hz102 : 0 ≤ 100 := (by omega)
          have hz103 : nd ≤ (nd59 + 1) := (by omega)
          have hz104 : (nd59 + 1) + 2 * at0 ≤ nd + 2 * at56 + 1 + 100000 * 0 := (by omega)
          have hz105 : (nd59 + 1) + 2 * at0 ≤ nd + 2 * at56 + (40 * (21 - ne) + 5) := (by omega)
          have hz106 : wr ≤ wr61 := (by omega)
          have hz107 : wr61 + at0 ≤ wr + at56 := (by omega)
          have hz108 : lk ≤ lk60 := (by omega)
          have hz109 : lk60 ≤ 60 + 100 * 0 := (by omega)
          have hz110 : at0 + 1 ≤ at56 + 0 := (by omega)
          have hz111 : nd59 ≤ (nd59 + 1) := (by omega)
          have hz112 : Kp B X90 wr61 T := hkp92
          have hz113 : If (0 = 0) (Low B X90 nd wr ∧ Frs K T wr61 X90 nd (nd59 + 1) 20000 [(nd59, 280)] ∧ kcl 15 (X90 9 nd59) = true) := (fun _ => ⟨hlo93, Frs.up hf99 (by omega), (by rw [hn98.1]; decide)⟩)
          have hP : va_P G.1 pCl (mW G h0 a (upd (upd (upd (upd (upd (upd (upd F 15 (nI 0)) 16 pl58) 27 (nI (nd59 + 1))) 31 (nI wr61)) 64 (nI at56)) 65 (nI ne)) 66 (nI lk60)) (updA X90 2 K)) _ := mW_to (F := F) (l1 := [(15, 0), (16, pl58), (27, (nI (nd59 + 1))), (31, (nI wr61)), (64, (nI at56)), (65, (nI ne)), (66, (nI lk60))]) (l2 := [(15, (nI 0)), (16, pl58), (27, (nI (nd59 + 1))), (31, (nI wr61)), (64, (nI at56)), (65, (nI ne)), (66, (nI lk60))]) (V := [(nI 0), pl58, (nI (nd59 + 1)), (nI wr61), (nI at56), (nI ne), (nI lk60), (nI 0), pl58, (nI (nd59 + 1)), (nI wr61), (nI at56), (nI ne), (nI lk60)]) rfl rfl rfl hP
          have hD : va_D A (mW G h0 a (upd (upd (upd (upd (upd (upd (upd F 15 (nI 0)) 16 pl58) 27 (nI (nd59 + 1))) 31 (nI wr61)) 64 (nI at56)) 65 (nI ne)) 66 (nI lk60)) (updA X90 2 K)) := mW_D hD
          exact W.iret (v := (nI nd59)) hx hb hr (fun t9 ht9 hW9 => ⟨⟨_, (at56, 0, pl58, (nd59 + 1), lk60, wr61, nd59, X90), rfl, ⟨rfl, hz100, hz101, hz102, hz103, hz104, hz105, hz106, hz107, hz108, hz109, hz110, hz111, hz112, hz113⟩, by rw [ht9]; exact hP, hD⟩, hS.F ht9⟩) hS.2.2 dX12_simple_74
        · have e79 := e79
          have hP : va_P G.1 pCl (mW G h0 a (upd (upd (upd (upd (upd (upd (upd (upd F 15 (nI fa57)) 16 pl58) 27 (nI nd59)) 31 (nI wr61)) 64 (nI at56)) 65 (nI ne)) 66 (nI lk60)) 27 (nI nd59)) (updA X63 2 K)) _ := mW_to (F := F) (l1 := [(15, (nI fa57)), (16, pl58), (27, (nI nd59)), (31, (nI wr61)), (64, (nI at56)), (65, (nI ne)), (66, (nI lk60))]) (l2 := [(15, (nI fa57)), (16, pl58), (27, (nI nd59)), (31, (nI wr61)), (64, (nI at56)), (65, (nI ne)), (66, (nI lk60)), (27, (nI nd59))]) (V := [(nI fa57), pl58, (nI nd59), (nI wr61), (nI at56), (nI ne), (nI lk60), (nI fa57), pl58, (nI nd59), (nI wr61), (nI at56), (nI ne), (nI lk60), (nI nd59)]) rfl rfl rfl hP
          have hD : va_D A (mW G h0 a (upd (upd (upd (upd (upd (upd (upd (upd F 15 (nI fa57)) 16 pl58) 27 (nI nd59)) 31 (nI wr61)) 64 (nI at56)) 65 (nI ne)) 66 (nI lk60)) 27 (nI nd59)) (updA X63 2 K)) := mW_D hD
          refine pc_V0 (G := G) (As := [.int 32, .int (nI at0), .int (nI at6), .int (nI r12), .int (nI r62)]) (rest := []) hx hb hml hown hq hE hX pX0_al hP hD hS hA hl.1 (R_nodeB l G h0 a (upd (upd (upd (upd (upd (upd (upd F 15 (nI fa57)) 16 pl58) 27 (nI nd59)) 31 (nI wr61)) 64 (nI at56)) 65 (nI ne)) 66 (nI lk60)) X63 32 (nI at0) (nI at6) (nI r12) (nI r62) nd59 K (by omega)) (gV pw_1650 pw_1651 pw_1652 pw_1523 pw_1589) hV_X12_node 0 9 rfl rfl rfl rfl (Nat.le_of_ble_eq_true rfl) dX12_simple_71 ⟨Nat.le_of_ble_eq_true rfl, Nat.le_of_ble_eq_true rfl⟩ ⟨(by show 2 + 1 ≤ (26 * n + 30); omega), (by show 8 + (7 + 11) + 60 ≤ (2000 * n + 3000); omega)⟩ (fun v116 u114 H locs hw115 hP hD hS => ?_)
          obtain ⟨X117, rfl⟩ : ∃ z, z = u114 := ⟨_, rfl⟩
          obtain ⟨hw115, h118⟩ := hw115
          have h118 : NewN X63 X117 nd59 32 (nI at0) (nI at6) (nI r12) (nI r62) := h118
          obtain rfl : v116 = some (.int (nI nd59)) := hw115
          have hP : va_P G.1 pCl (mW G h0 a (upd (upd (upd (upd (upd (upd (upd F 15 (nI fa57)) 16 pl58) 27 (nI (nd59 + 1))) 31 (nI wr61)) 64 (nI at56)) 65 (nI ne)) 66 (nI lk60)) (updA X117 2 K)) _ := mW_to (F := F) (l1 := [(15, (nI fa57)), (16, pl58), (27, (nI nd59)), (31, (nI wr61)), (64, (nI at56)), (65, (nI ne)), (66, (nI lk60)), (27, (nI (nd59 + 1)))]) (l2 := [(15, (nI fa57)), (16, pl58), (27, (nI (nd59 + 1))), (31, (nI wr61)), (64, (nI at56)), (65, (nI ne)), (66, (nI lk60))]) (V := [(nI fa57), pl58, (nI (nd59 + 1)), (nI wr61), (nI at56), (nI ne), (nI lk60), (nI (nd59 + 1)), (nI fa57), pl58, (nI (nd59 + 1)), (nI wr61), (nI at56), (nI ne), (nI lk60)]) rfl rfl rfl hP
          have hD : va_D A (mW G h0 a (upd (upd (upd (upd (upd (upd (upd F 15 (nI fa57)) 16 pl58) 27 (nI (nd59 + 1))) 31 (nI wr61)) 64 (nI at56)) 65 (nI ne)) 66 (nI lk60)) (updA X117 2 K)) := mW_D hD
          refine W.widen (k := 0) (n := 0) (Nat.le_of_ble_eq_true rfl) (Nat.le_of_ble_eq_true rfl) ?_
          refine W.eq (g2 := F0 m 74 ls [.int (nI nd59)]) rfl ?_
          have hkp119 : Kp B X117 wr61 T := (Kp.new hkp78 h118)
          have hz120 : at0 ≤ at56 := (by omega)
          have hz121 : at56 ≤ T := (by omega)
          have hz122 : fa57 ≤ 100 := (by omega)
          have hz123 : nd ≤ (nd59 + 1) := (by omega)
          have hz124 : (nd59 + 1) + 2 * at0 ≤ nd + 2 * at56 + 1 + 100000 * fa57 := (by omega)
          have hz125 : (nd59 + 1) + 2 * at0 ≤ nd + 2 * at56 + (40 * (21 - ne) + 5) := (by omega)
          have hz126 : wr ≤ wr61 := (by omega)
          have hz127 : wr61 + at0 ≤ wr + at56 := (by omega)
          have hz128 : lk ≤ lk60 := (by omega)
          have hz129 : lk60 ≤ 60 + 100 * fa57 := (by omega)
          have hz130 : at0 + 1 ≤ at56 + fa57 := (by omega)
          have hz131 : nd59 ≤ (nd59 + 1) := (by omega)
          have hz132 : Kp B X117 wr61 T := hkp119
          have hz133 : If (fa57 = 0) (Low B X117 nd wr ∧ Frs K T wr61 X117 nd (nd59 + 1) 20000 [(nd59, 280)] ∧ kcl 15 (X117 9 nd59) = true) := (fun e => absurd e (by omega))
          have hP : va_P G.1 pCl (mW G h0 a (upd (upd (upd (upd (upd (upd (upd F 15 (nI fa57)) 16 pl58) 27 (nI (nd59 + 1))) 31 (nI wr61)) 64 (nI at56)) 65 (nI ne)) 66 (nI lk60)) (updA X117 2 K)) _ := hP
          have hD : va_D A (mW G h0 a (upd (upd (upd (upd (upd (upd (upd F 15 (nI fa57)) 16 pl58) 27 (nI (nd59 + 1))) 31 (nI wr61)) 64 (nI at56)) 65 (nI ne)) 66 (nI lk60)) (updA X117 2 K)) := mW_D hD
          exact W.iret (v := (nI nd59)) hx hb hr (fun t9 ht9 hW9 => ⟨⟨_, (at56, fa57, pl58, (nd59 + 1), lk60, wr61, nd59, X117), rfl, ⟨rfl, hz120, hz121, hz122, hz123, hz124, hz125, hz126, hz127, hz128, hz129, hz130, hz131, hz132, hz133⟩, by rw [ht9]; exact hP, hD⟩, hS.F ht9⟩) hS.2.2 dX12_simple_74
      · have e52 := e52
        refine lv_aload_n hx hb dX12_simple_60 rfl (lv_at hl 4 rfl) ?_
        refine lv_bipush (v := 32) hx hb dX12_simple_61 (by decide) ?_
        refine lv_iload_n hx hb dX12_simple_63 rfl (lv_at hl 3 rfl) ?_
        refine lv_iload hx hb dX12_simple_64 (lv_at hl 0 rfl) ?_
        refine lv_iload_n hx hb dX12_simple_66 rfl (lv_at hl 2 rfl) ?_
        refine lv_aload_n hx hb dX12_simple_67 rfl (lv_at hl 4 rfl) ?_
        have hP : va_P G.1 pCl (mW G h0 a (upd (upd (upd (upd (upd (upd (upd (upd (upd F 15 (nI fa42)) 16 pl43) 27 (nI nd9)) 31 (nI wr11)) 64 (nI at41)) 65 (nI ne)) 66 (nI lk10)) 15 (nI fa42)) 64 (nI at41)) (updA (updA X13 2 K) 2 K)) _ := mW_to (F := F) (l1 := [(15, (nI fa42)), (16, pl43), (27, (nI nd9)), (31, (nI wr11)), (64, (nI at41)), (65, (nI ne)), (66, (nI lk10))]) (l2 := [(15, (nI fa42)), (16, pl43), (27, (nI nd9)), (31, (nI wr11)), (64, (nI at41)), (65, (nI ne)), (66, (nI lk10)), (15, (nI fa42)), (64, (nI at41))]) (V := [(nI fa42), pl43, (nI nd9), (nI wr11), (nI at41), (nI ne), (nI lk10), (nI fa42), pl43, (nI nd9), (nI wr11), (nI at41), (nI ne), (nI lk10), (nI fa42), (nI at41)]) rfl rfl (show (updA X13 2 K) = (updA (updA X13 2 K) 2 K) from updsA_eq2 (F := X13) (l1 := [(2, K)]) (l2 := [(2, K), (2, K)]) (V := [K, K, K]) rfl rfl) hP
        have hD : va_D A (mW G h0 a (upd (upd (upd (upd (upd (upd (upd (upd (upd F 15 (nI fa42)) 16 pl43) 27 (nI nd9)) 31 (nI wr11)) 64 (nI at41)) 65 (nI ne)) 66 (nI lk10)) 15 (nI fa42)) 64 (nI at41)) (updA (updA X13 2 K) 2 K)) := mW_D hD
        refine pc_V0 (G := G) (As := []) (rest := [.int (nI r12), .int (nI at6), .int (nI at0), .int 32, .ref h0]) hx hb hml hown hq hE hX pX0_al hP hD hS hA hl.1 (RF_choice l G h0 a (upd (upd (upd (upd (upd (upd (upd F 15 (nI fa42)) 16 pl43) 27 (nI nd9)) 31 (nI wr11)) 64 (nI at41)) 65 (nI ne)) 66 (nI lk10)) (updA X13 2 K) at41 T fa42 K (by omega) (by omega) hK (by omega) e52) (gV pw_1640 pw_1641 pw_1642 pw_1523 pw_1656) hV_X12_choice 0 9 rfl rfl rfl rfl (Nat.le_of_ble_eq_true rfl) dX12_simple_68 ⟨Nat.le_of_ble_eq_true rfl, Nat.le_of_ble_eq_true rfl⟩ ⟨(by show 16 + 1 ≤ (26 * n + 30); omega), (by show 8 + (4 + 11) + 405 ≤ (2000 * n + 3000); omega)⟩ (fun v136 u134 H locs hw135 hP hD hS => ?_)
        obtain rfl : v136 = some (.int 0) := hw135
        have hP : va_P G.1 pCl (mW G h0 a (upd (upd (upd (upd (upd (upd (upd F 15 (nI fa42)) 16 pl43) 27 (nI nd9)) 31 (nI wr11)) 64 (nI at41)) 65 (nI ne)) 66 (nI lk10)) (updA X13 2 K)) _ := mW_to (F := F) (l1 := [(15, (nI fa42)), (16, pl43), (27, (nI nd9)), (31, (nI wr11)), (64, (nI at41)), (65, (nI ne)), (66, (nI lk10)), (15, (nI fa42)), (64, (nI at41))]) (l2 := [(15, (nI fa42)), (16, pl43), (27, (nI nd9)), (31, (nI wr11)), (64, (nI at41)), (65, (nI ne)), (66, (nI lk10))]) (V := [(nI fa42), pl43, (nI nd9), (nI wr11), (nI at41), (nI ne), (nI lk10), (nI fa42), (nI at41), (nI fa42), pl43, (nI nd9), (nI wr11), (nI at41), (nI ne), (nI lk10)]) rfl rfl (show (updA (updA X13 2 K) 2 K) = (updA X13 2 K) from updsA_eq2 (F := X13) (l1 := [(2, K), (2, K)]) (l2 := [(2, K)]) (V := [K, K, K]) rfl rfl) hP
        have hD : va_D A (mW G h0 a (upd (upd (upd (upd (upd (upd (upd F 15 (nI fa42)) 16 pl43) 27 (nI nd9)) 31 (nI wr11)) 64 (nI at41)) 65 (nI ne)) 66 (nI lk10)) (updA X13 2 K)) := mW_D hD
        refine W.widen (k := 0) (n := 0) (Nat.le_of_ble_eq_true rfl) (Nat.le_of_ble_eq_true rfl) ?_
        refine W.eq (g2 := F0 m 71 ls [.int 0, .int (nI r12), .int (nI at6), .int (nI at0), .int 32, .ref h0]) rfl ?_
        have hP : va_P G.1 pCl (mW G h0 a (upd (upd (upd (upd (upd (upd (upd (upd F 15 (nI fa42)) 16 pl43) 27 (nI nd9)) 31 (nI wr11)) 64 (nI at41)) 65 (nI ne)) 66 (nI lk10)) 27 (nI nd9)) (updA X13 2 K)) _ := mW_to (F := F) (l1 := [(15, (nI fa42)), (16, pl43), (27, (nI nd9)), (31, (nI wr11)), (64, (nI at41)), (65, (nI ne)), (66, (nI lk10))]) (l2 := [(15, (nI fa42)), (16, pl43), (27, (nI nd9)), (31, (nI wr11)), (64, (nI at41)), (65, (nI ne)), (66, (nI lk10)), (27, (nI nd9))]) (V := [(nI fa42), pl43, (nI nd9), (nI wr11), (nI at41), (nI ne), (nI lk10), (nI fa42), pl43, (nI nd9), (nI wr11), (nI at41), (nI ne), (nI lk10), (nI nd9)]) rfl rfl rfl hP
        have hD : va_D A (mW G h0 a (upd (upd (upd (upd (upd (upd (upd (upd F 15 (nI fa42)) 16 pl43) 27 (nI nd9)) 31 (nI wr11)) 64 (nI at41)) 65 (nI ne)) 66 (nI lk10)) 27 (nI nd9)) (updA X13 2 K)) := mW_D hD
        refine pc_V0 (G := G) (As := [.int 32, .int (nI at0), .int (nI at6), .int (nI r12), .int 0]) (rest := []) hx hb hml hown hq hE hX pX0_al hP hD hS hA hl.1 (R_nodeB l G h0 a (upd (upd (upd (upd (upd (upd (upd F 15 (nI fa42)) 16 pl43) 27 (nI nd9)) 31 (nI wr11)) 64 (nI at41)) 65 (nI ne)) 66 (nI lk10)) X13 32 (nI at0) (nI at6) (nI r12) 0 nd9 K (by omega)) (gV pw_1650 pw_1651 pw_1652 pw_1523 pw_1589) hV_X12_node 0 9 rfl rfl rfl rfl (Nat.le_of_ble_eq_true rfl) dX12_simple_71 ⟨Nat.le_of_ble_eq_true rfl, Nat.le_of_ble_eq_true rfl⟩ ⟨(by show 2 + 1 ≤ (26 * n + 30); omega), (by show 8 + (7 + 11) + 60 ≤ (2000 * n + 3000); omega)⟩ (fun v139 u137 H locs hw138 hP hD hS => ?_)
        obtain ⟨X140, rfl⟩ : ∃ z, z = u137 := ⟨_, rfl⟩
        obtain ⟨hw138, h141⟩ := hw138
        have h141 : NewN X13 X140 nd9 32 (nI at0) (nI at6) (nI r12) 0 := h141
        obtain rfl : v139 = some (.int (nI nd9)) := hw138
        have hP : va_P G.1 pCl (mW G h0 a (upd (upd (upd (upd (upd (upd (upd F 15 (nI fa42)) 16 pl43) 27 (nI (nd9 + 1))) 31 (nI wr11)) 64 (nI at41)) 65 (nI ne)) 66 (nI lk10)) (updA X140 2 K)) _ := mW_to (F := F) (l1 := [(15, (nI fa42)), (16, pl43), (27, (nI nd9)), (31, (nI wr11)), (64, (nI at41)), (65, (nI ne)), (66, (nI lk10)), (27, (nI (nd9 + 1)))]) (l2 := [(15, (nI fa42)), (16, pl43), (27, (nI (nd9 + 1))), (31, (nI wr11)), (64, (nI at41)), (65, (nI ne)), (66, (nI lk10))]) (V := [(nI fa42), pl43, (nI (nd9 + 1)), (nI wr11), (nI at41), (nI ne), (nI lk10), (nI (nd9 + 1)), (nI fa42), pl43, (nI (nd9 + 1)), (nI wr11), (nI at41), (nI ne), (nI lk10)]) rfl rfl rfl hP
        have hD : va_D A (mW G h0 a (upd (upd (upd (upd (upd (upd (upd F 15 (nI fa42)) 16 pl43) 27 (nI (nd9 + 1))) 31 (nI wr11)) 64 (nI at41)) 65 (nI ne)) 66 (nI lk10)) (updA X140 2 K)) := mW_D hD
        refine W.widen (k := 0) (n := 0) (Nat.le_of_ble_eq_true rfl) (Nat.le_of_ble_eq_true rfl) ?_
        refine W.eq (g2 := F0 m 74 ls [.int (nI nd9)]) rfl ?_
        have hkp142 : Kp B X140 wr11 T := (Kp.new hkp28 h141)
        have hz143 : at0 ≤ at41 := (by omega)
        have hz144 : at41 ≤ T := (by omega)
        have hz145 : fa42 ≤ 100 := (by omega)
        have hz146 : nd ≤ (nd9 + 1) := (by omega)
        have hz147 : (nd9 + 1) + 2 * at0 ≤ nd + 2 * at41 + 1 + 100000 * fa42 := (by omega)
        have hz148 : (nd9 + 1) + 2 * at0 ≤ nd + 2 * at41 + (40 * (21 - ne) + 5) := (by omega)
        have hz149 : wr ≤ wr11 := (by omega)
        have hz150 : wr11 + at0 ≤ wr + at41 := (by omega)
        have hz151 : lk ≤ lk10 := (by omega)
        have hz152 : lk10 ≤ 60 + 100 * fa42 := (by omega)
        have hz153 : at0 + 1 ≤ at41 + fa42 := (by omega)
        have hz154 : nd9 ≤ (nd9 + 1) := (by omega)
        have hz155 : Kp B X140 wr11 T := hkp142
        have hz156 : If (fa42 = 0) (Low B X140 nd wr ∧ Frs K T wr11 X140 nd (nd9 + 1) 20000 [(nd9, 280)] ∧ kcl 15 (X140 9 nd9) = true) := (fun e => absurd e (by omega))
        have hP : va_P G.1 pCl (mW G h0 a (upd (upd (upd (upd (upd (upd (upd F 15 (nI fa42)) 16 pl43) 27 (nI (nd9 + 1))) 31 (nI wr11)) 64 (nI at41)) 65 (nI ne)) 66 (nI lk10)) (updA X140 2 K)) _ := hP
        have hD : va_D A (mW G h0 a (upd (upd (upd (upd (upd (upd (upd F 15 (nI fa42)) 16 pl43) 27 (nI (nd9 + 1))) 31 (nI wr11)) 64 (nI at41)) 65 (nI ne)) 66 (nI lk10)) (updA X140 2 K)) := mW_D hD
        exact W.iret (v := (nI nd9)) hx hb hr (fun t9 ht9 hW9 => ⟨⟨_, (at41, fa42, pl43, (nd9 + 1), lk10, wr11, nd9, X140), rfl, ⟨rfl, hz143, hz144, hz145, hz146, hz147, hz148, hz149, hz150, hz151, hz152, hz153, hz154, hz155, hz156⟩, by rw [ht9]; exact hP, hD⟩, hS.F ht9⟩) hS.2.2 dX12_simple_74
    · refine lv_iload hx hb dX12_simple_34 (lv_at hl 0 rfl) ?_
      refine lv_bipush (v := 12) hx hb dX12_simple_36 (by decide) ?_
      refine lv_icmp_eq (tgt := 48) hx hb dX12_simple_38 (by decide) (fun c157 => ?_) (fun c157 => ?_)
      · have hc158 : kcl 12 (X13 9 r12) = true := (by rw [show X13 9 r12 = _ from c157]; decide)
        refine lv_aload_n hx hb dX12_simple_48 rfl (lv_at hl 3 rfl) ?_
        refine r_get (v := .int (nI at6)) hx hb hown hq hE hP 64 343 tFX12_64 (by decide) pw_1592 rfl dX12_simple_49 ?_
        refine lv_istore (lv' := [(5, .int (nI at6)), (4, .int ((X13 9) r12)), (3, .int (nI r12)), (2, .int (nI at0)), (0, .ref h0), (1, .int 1)]) hx hb dX12_simple_52 hl (by decide) rfl (fun ls hl => ?_)
        refine lv_aload_n hx hb dX12_simple_54 rfl (lv_at hl 4 rfl) ?_
        refine lv_bipush (v := 61) hx hb dX12_simple_55 (by decide) ?_
        have hP : va_P G.1 pCl (mW G h0 a (upd (upd (upd (upd (upd (upd (upd (upd (upd F 15 0) 16 pl8) 27 (nI nd9)) 31 (nI wr11)) 64 (nI at6)) 65 (nI ne)) 66 (nI lk10)) 15 (nI 0)) 64 (nI at6)) (updA (updA X13 2 K) 2 K)) _ := mW_to (F := F) (l1 := [(15, 0), (16, pl8), (27, (nI nd9)), (31, (nI wr11)), (64, (nI at6)), (65, (nI ne)), (66, (nI lk10))]) (l2 := [(15, 0), (16, pl8), (27, (nI nd9)), (31, (nI wr11)), (64, (nI at6)), (65, (nI ne)), (66, (nI lk10)), (15, (nI 0)), (64, (nI at6))]) (V := [(nI 0), pl8, (nI nd9), (nI wr11), (nI at6), (nI ne), (nI lk10), (nI 0), pl8, (nI nd9), (nI wr11), (nI at6), (nI ne), (nI lk10), (nI 0), (nI at6)]) rfl rfl (show (updA X13 2 K) = (updA (updA X13 2 K) 2 K) from updsA_eq2 (F := X13) (l1 := [(2, K)]) (l2 := [(2, K), (2, K)]) (V := [K, K, K]) rfl rfl) hP
        have hD : va_D A (mW G h0 a (upd (upd (upd (upd (upd (upd (upd (upd (upd F 15 0) 16 pl8) 27 (nI nd9)) 31 (nI wr11)) 64 (nI at6)) 65 (nI ne)) 66 (nI lk10)) 15 (nI 0)) 64 (nI at6)) (updA (updA X13 2 K) 2 K)) := mW_D hD
        refine pc_V0 (G := G) (As := [.int 61]) (rest := []) hx hb hml hown hq hE hX pX0_al hP hD hS hA hl.1 (R_take l G h0 a (upd (upd (upd (upd (upd (upd (upd F 15 0) 16 pl8) 27 (nI nd9)) 31 (nI wr11)) 64 (nI at6)) 65 (nI ne)) 66 (nI lk10)) (updA X13 2 K) at6 T 0 K 61 (by omega) (by omega) hK (by omega) (by decide) (by decide)) (gV pw_1614 pw_1615 pw_1616 pw_1523 pw_1601) hV_X12_take 0 9 rfl rfl rfl rfl (Nat.le_of_ble_eq_true rfl) dX12_simple_57 ⟨Nat.le_of_ble_eq_true rfl, Nat.le_of_ble_eq_true rfl⟩ ⟨(by show 4 + 1 ≤ (26 * n + 30); omega), (by show 8 + (2 + 11) + 103 ≤ (2000 * n + 3000); omega)⟩ (fun v161 u159 H locs hw160 hP hD hS => ?_)
        obtain ⟨at162, fa163, pl164⟩ := u159
        obtain ⟨hw160, h165, h166, h167, h168, h169, h170, h171, h172⟩ := hw160
        have h165 : at6 ≤ at162 := h165
        have h166 : at162 ≤ T := h166
        have h167 : 0 ≤ fa163 := h167
        have h168 : fa163 ≤ 100 := h168
        have h169 : If (0 < 0) (at162 = at6 ∧ fa163 = 0) := h169
        have h170 : at162 ≤ at6 + 1 := h170
        have h171 : at6 + 1 ≤ at162 + fa163 := h171
        have h172 : If (fa163 = 0) (K at6 = 61) := h172
        obtain rfl : v161 = none := hw160
        have hP : va_P G.1 pCl (mW G h0 a (upd (upd (upd (upd (upd (upd (upd F 15 (nI fa163)) 16 pl164) 27 (nI nd9)) 31 (nI wr11)) 64 (nI at162)) 65 (nI ne)) 66 (nI lk10)) (updA X13 2 K)) _ := mW_to (F := F) (l1 := [(15, 0), (16, pl8), (27, (nI nd9)), (31, (nI wr11)), (64, (nI at6)), (65, (nI ne)), (66, (nI lk10)), (15, (nI fa163)), (16, pl164), (64, (nI at162))]) (l2 := [(15, (nI fa163)), (16, pl164), (27, (nI nd9)), (31, (nI wr11)), (64, (nI at162)), (65, (nI ne)), (66, (nI lk10))]) (V := [(nI fa163), pl164, (nI nd9), (nI wr11), (nI at162), (nI ne), (nI lk10), (nI fa163), pl164, (nI at162), (nI fa163), pl164, (nI nd9), (nI wr11), (nI at162), (nI ne), (nI lk10)]) rfl rfl (show (updA (updA X13 2 K) 2 K) = (updA X13 2 K) from updsA_eq2 (F := X13) (l1 := [(2, K), (2, K)]) (l2 := [(2, K)]) (V := [K, K, K]) rfl rfl) hP
        have hD : va_D A (mW G h0 a (upd (upd (upd (upd (upd (upd (upd F 15 (nI fa163)) 16 pl164) 27 (nI nd9)) 31 (nI wr11)) 64 (nI at162)) 65 (nI ne)) 66 (nI lk10)) (updA X13 2 K)) := mW_D hD
        refine W.widen (k := 0) (n := 0) (Nat.le_of_ble_eq_true rfl) (Nat.le_of_ble_eq_true rfl) ?_
        refine W.eq (g2 := F0 m 60 ls []) rfl ?_
        rcases Nat.eq_zero_or_pos fa163 with e173 | e173
        · subst e173
          have hP : va_P G.1 pCl (mW G h0 a (upd (upd (upd (upd (upd (upd (upd F 15 0) 16 pl164) 27 (nI nd9)) 31 (nI wr11)) 64 (nI at162)) 65 (nI ne)) 66 (nI lk10)) (updA X13 2 K)) _ := hP
          have hD : va_D A (mW G h0 a (upd (upd (upd (upd (upd (upd (upd F 15 0) 16 pl164) 27 (nI nd9)) 31 (nI wr11)) 64 (nI at162)) 65 (nI ne)) 66 (nI lk10)) (updA X13 2 K)) := mW_D hD
          refine lv_aload_n hx hb dX12_simple_60 rfl (lv_at hl 4 rfl) ?_
          refine lv_bipush (v := 32) hx hb dX12_simple_61 (by decide) ?_
          refine lv_iload_n hx hb dX12_simple_63 rfl (lv_at hl 3 rfl) ?_
          refine lv_iload hx hb dX12_simple_64 (lv_at hl 0 rfl) ?_
          refine lv_iload_n hx hb dX12_simple_66 rfl (lv_at hl 2 rfl) ?_
          refine lv_aload_n hx hb dX12_simple_67 rfl (lv_at hl 4 rfl) ?_
          have hP : va_P G.1 pCl (mW G h0 a (upd (upd (upd (upd (upd (upd (upd (upd (upd (upd (upd (upd (upd F 15 0) 16 pl164) 27 (nI nd9)) 31 (nI wr11)) 64 (nI at162)) 65 (nI ne)) 66 (nI lk10)) 15 0) 27 (nI nd9)) 31 (nI wr11)) 64 (nI at162)) 65 (nI ne)) 66 (nI lk10)) (updA X13 2 K)) _ := mW_to (F := F) (l1 := [(15, 0), (16, pl164), (27, (nI nd9)), (31, (nI wr11)), (64, (nI at162)), (65, (nI ne)), (66, (nI lk10))]) (l2 := [(15, 0), (16, pl164), (27, (nI nd9)), (31, (nI wr11)), (64, (nI at162)), (65, (nI ne)), (66, (nI lk10)), (15, 0), (27, (nI nd9)), (31, (nI wr11)), (64, (nI at162)), (65, (nI ne)), (66, (nI lk10))]) (V := [0, pl164, (nI nd9), (nI wr11), (nI at162), (nI ne), (nI lk10), 0, pl164, (nI nd9), (nI wr11), (nI at162), (nI ne), (nI lk10), 0, (nI nd9), (nI wr11), (nI at162), (nI ne), (nI lk10)]) rfl rfl rfl hP
          have hD : va_D A (mW G h0 a (upd (upd (upd (upd (upd (upd (upd (upd (upd (upd (upd (upd (upd F 15 0) 16 pl164) 27 (nI nd9)) 31 (nI wr11)) 64 (nI at162)) 65 (nI ne)) 66 (nI lk10)) 15 0) 27 (nI nd9)) 31 (nI wr11)) 64 (nI at162)) 65 (nI ne)) 66 (nI lk10)) (updA X13 2 K)) := mW_D hD
          refine pc_V0 (G := G) (As := []) (rest := [.int (nI r12), .int (nI at6), .int (nI at0), .int 32, .ref h0]) hx hb hml hown hq hE hX pX0_al hP hD hS hA hl.1 (hEc h0 a (upd (upd (upd (upd (upd (upd (upd F 15 0) 16 pl164) 27 (nI nd9)) 31 (nI wr11)) 64 (nI at162)) 65 (nI ne)) 66 (nI lk10)) X13 at162 T ne nd9 wr11 lk10 K (by omega) (by omega) hK (by omega) (by omega) (by omega) (by omega) (hkp28).2 (by omega)) (gV pw_1640 pw_1641 pw_1642 pw_1523 pw_1656) hV_X12_choice 0 9 rfl rfl rfl rfl (Nat.le_of_ble_eq_true rfl) dX12_simple_68 ⟨Nat.le_of_ble_eq_true rfl, Nat.le_of_ble_eq_true rfl⟩ ⟨(by show (20 * n + 27) + 1 ≤ (26 * n + 30); omega), (by show 8 + (4 + 11) + (1000 * n + 40 * 27) ≤ (2000 * n + 3000); omega)⟩ (fun v176 u174 H locs hw175 hP hD hS => ?_)
          obtain ⟨at177, fa178, pl179, nd180, lk181, wr182, r183, X184⟩ := u174
          obtain ⟨hw175, h185, h186, h187, h188, h189, h190, h191, h192, h193, h194, h195, h196, h197, h198⟩ := hw175
          have h185 : at162 ≤ at177 := h185
          have h186 : at177 ≤ T := h186
          have h187 : fa178 ≤ 100 := h187
          have h188 : nd9 ≤ nd180 := h188
          have h189 : nd180 + 2 * at162 ≤ nd9 + 2 * at177 + 100000 * fa178 := h189
          have h190 : nd180 + 2 * at162 ≤ nd9 + 2 * at177 + 40 * (21 - ne) := h190
          have h191 : wr11 ≤ wr182 := h191
          have h192 : wr182 + at162 ≤ wr11 + at177 := h192
          have h193 : lk10 ≤ lk181 := h193
          have h194 : lk181 ≤ 60 + 100 * fa178 := h194
          have h195 : at162 + 1 ≤ at177 + fa178 := h195
          have h196 : r183 ≤ nd180 := h196
          have h197 : Kp X13 X184 wr182 T := h197
          have h198 : If (fa178 = 0) (Low X13 X184 nd9 wr11 ∧ Frs K T wr182 X184 nd9 nd180 20000 [(r183, (211 + lk181 - (10 * ne + lk10)))] ∧ kcl 1 (X184 9 r183) = true) := h198
          obtain rfl : v176 = some (.int (nI r183)) := hw175
          have hP : va_P G.1 pCl (mW G h0 a (upd (upd (upd (upd (upd (upd (upd F 15 (nI fa178)) 16 pl179) 27 (nI nd180)) 31 (nI wr182)) 64 (nI at177)) 65 (nI ne)) 66 (nI lk181)) (updA X184 2 K)) _ := mW_to (F := F) (l1 := [(15, 0), (16, pl164), (27, (nI nd9)), (31, (nI wr11)), (64, (nI at162)), (65, (nI ne)), (66, (nI lk10)), (15, (nI fa178)), (16, pl179), (27, (nI nd180)), (31, (nI wr182)), (64, (nI at177)), (65, (nI ne)), (66, (nI lk181))]) (l2 := [(15, (nI fa178)), (16, pl179), (27, (nI nd180)), (31, (nI wr182)), (64, (nI at177)), (65, (nI ne)), (66, (nI lk181))]) (V := [(nI fa178), pl179, (nI nd180), (nI wr182), (nI at177), (nI ne), (nI lk181), (nI fa178), pl179, (nI nd180), (nI wr182), (nI at177), (nI ne), (nI lk181), (nI fa178), pl179, (nI nd180), (nI wr182), (nI at177), (nI ne), (nI lk181)]) rfl rfl rfl hP
          have hD : va_D A (mW G h0 a (upd (upd (upd (upd (upd (upd (upd F 15 (nI fa178)) 16 pl179) 27 (nI nd180)) 31 (nI wr182)) 64 (nI at177)) 65 (nI ne)) 66 (nI lk181)) (updA X184 2 K)) := mW_D hD
          refine W.widen (k := 0) (n := 0) (Nat.le_of_ble_eq_true rfl) (Nat.le_of_ble_eq_true rfl) ?_
          refine W.eq (g2 := F0 m 71 ls [.int (nI r183), .int (nI r12), .int (nI at6), .int (nI at0), .int 32, .ref h0]) rfl ?_
          have hkp199 : Kp B X184 wr182 T := (Kp.trans hkp28 h197)
          rcases Nat.eq_zero_or_pos fa178 with e200 | e200
          · subst e200
            have hP : va_P G.1 pCl (mW G h0 a (upd (upd (upd (upd (upd (upd (upd F 15 0) 16 pl179) 27 (nI nd180)) 31 (nI wr182)) 64 (nI at177)) 65 (nI ne)) 66 (nI lk181)) (updA X184 2 K)) _ := hP
            have hD : va_D A (mW G h0 a (upd (upd (upd (upd (upd (upd (upd F 15 0) 16 pl179) 27 (nI nd180)) 31 (nI wr182)) 64 (nI at177)) 65 (nI ne)) 66 (nI lk181)) (updA X184 2 K)) := mW_D hD
            obtain ⟨hlw201, hf202, hc203⟩ := h198 rfl
            have hlo204 : Low B X184 nd wr := (Low.trans hlo33 hlw201 (by omega) (by omega))
            have hf205 : Frs K T wr182 X184 nd nd9 20000 [(r12, (210 + lk10 - (10 * ne + lk)))] := (Frs.same hf31 (by omega) (fun j i q1 q2 q3 q4 => (hlw201.1 j i q1 (by omega) (by omega))))
            have hc206 : kcl 12 (X184 9 r12) = true := by rw [hlw201.1 9 r12 (by omega) (by omega) (by omega)]; exact hc158
            have hm207 := Frs.mem hf202
            have hP : va_P G.1 pCl (mW G h0 a (upd (upd (upd (upd (upd (upd (upd (upd F 15 0) 16 pl179) 27 (nI nd180)) 31 (nI wr182)) 64 (nI at177)) 65 (nI ne)) 66 (nI lk181)) 27 (nI nd180)) (updA X184 2 K)) _ := mW_to (F := F) (l1 := [(15, 0), (16, pl179), (27, (nI nd180)), (31, (nI wr182)), (64, (nI at177)), (65, (nI ne)), (66, (nI lk181))]) (l2 := [(15, 0), (16, pl179), (27, (nI nd180)), (31, (nI wr182)), (64, (nI at177)), (65, (nI ne)), (66, (nI lk181)), (27, (nI nd180))]) (V := [0, pl179, (nI nd180), (nI wr182), (nI at177), (nI ne), (nI lk181), 0, pl179, (nI nd180), (nI wr182), (nI at177), (nI ne), (nI lk181), (nI nd180)]) rfl rfl rfl hP
            have hD : va_D A (mW G h0 a (upd (upd (upd (upd (upd (upd (upd (upd F 15 0) 16 pl179) 27 (nI nd180)) 31 (nI wr182)) 64 (nI at177)) 65 (nI ne)) 66 (nI lk181)) 27 (nI nd180)) (updA X184 2 K)) := mW_D hD
            refine pc_V0 (G := G) (As := [.int 32, .int (nI at0), .int (nI at6), .int (nI r12), .int (nI r183)]) (rest := []) hx hb hml hown hq hE hX pX0_al hP hD hS hA hl.1 (R_nodeB l G h0 a (upd (upd (upd (upd (upd (upd (upd F 15 0) 16 pl179) 27 (nI nd180)) 31 (nI wr182)) 64 (nI at177)) 65 (nI ne)) 66 (nI lk181)) X184 32 (nI at0) (nI at6) (nI r12) (nI r183) nd180 K (by omega)) (gV pw_1650 pw_1651 pw_1652 pw_1523 pw_1589) hV_X12_node 0 9 rfl rfl rfl rfl (Nat.le_of_ble_eq_true rfl) dX12_simple_71 ⟨Nat.le_of_ble_eq_true rfl, Nat.le_of_ble_eq_true rfl⟩ ⟨(by show 2 + 1 ≤ (26 * n + 30); omega), (by show 8 + (7 + 11) + 60 ≤ (2000 * n + 3000); omega)⟩ (fun v210 u208 H locs hw209 hP hD hS => ?_)
            obtain ⟨X211, rfl⟩ : ∃ z, z = u208 := ⟨_, rfl⟩
            obtain ⟨hw209, h212⟩ := hw209
            have h212 : NewN X184 X211 nd180 32 (nI at0) (nI at6) (nI r12) (nI r183) := h212
            obtain rfl : v210 = some (.int (nI nd180)) := hw209
            have hP : va_P G.1 pCl (mW G h0 a (upd (upd (upd (upd (upd (upd (upd F 15 0) 16 pl179) 27 (nI (nd180 + 1))) 31 (nI wr182)) 64 (nI at177)) 65 (nI ne)) 66 (nI lk181)) (updA X211 2 K)) _ := mW_to (F := F) (l1 := [(15, 0), (16, pl179), (27, (nI nd180)), (31, (nI wr182)), (64, (nI at177)), (65, (nI ne)), (66, (nI lk181)), (27, (nI (nd180 + 1)))]) (l2 := [(15, 0), (16, pl179), (27, (nI (nd180 + 1))), (31, (nI wr182)), (64, (nI at177)), (65, (nI ne)), (66, (nI lk181))]) (V := [0, pl179, (nI (nd180 + 1)), (nI wr182), (nI at177), (nI ne), (nI lk181), (nI (nd180 + 1)), 0, pl179, (nI (nd180 + 1)), (nI wr182), (nI at177), (nI ne), (nI lk181)]) rfl rfl rfl hP
            have hD : va_D A (mW G h0 a (upd (upd (upd (upd (upd (upd (upd F 15 0) 16 pl179) 27 (nI (nd180 + 1))) 31 (nI wr182)) 64 (nI at177)) 65 (nI ne)) 66 (nI lk181)) (updA X211 2 K)) := mW_D hD
            refine W.widen (k := 0) (n := 0) (Nat.le_of_ble_eq_true rfl) (Nat.le_of_ble_eq_true rfl) ?_
            refine W.eq (g2 := F0 m 74 ls [.int (nI nd180)]) rfl ?_
            have hkp213 : Kp B X211 wr182 T := (Kp.new hkp199 h212)
            have hlo214 : Low B X211 nd wr := (Low.new hlo204 h212 (by omega))
            have hf215 : Frs K T wr182 X184 nd nd180 20000 [(r12, (210 + lk10 - (10 * ne + lk))), (r183, (211 + lk181 - (10 * ne + lk10)))] := (Frs.join hf205 hf202 (by omega) (by omega) (by omega))
            have hc216 : kcl 12 (X211 9 r12) = true := by rw [h212.2.1 9 r12 (by omega)]; exact hc206
            have hc217 : kcl 1 (X211 9 r183) = true := by rw [h212.2.1 9 r183 (by omega)]; exact hc203
            have hf218 : Frs K T wr182 X211 nd (nd180 + 1) nd180 [(nd180, 280)] := (Frs.new2 (k := 32) hf215 (by omega) (by omega) (by omega) h212 rfl rfl (by omega) rfl (by decide) (by decide) (by omega) (by omega) (fun e => absurd e (by decide)) (by simp) ⟨by decide, by decide, by decide, by decide⟩ ⟨by decide, by decide, by decide, by decide⟩ hc206 hc203 (newOK.m1 (by decide)) (newOK.m1 (by decide)) (by omega) (by omega))
            have hn219 : Nd X211 nd180 32 (nI r12) (nI r183) (-1) (-1) := (NewN.toNd h212)
            have hf220 : Frs K T wr182 X211 nd (nd180 + 1) 20000 [(nd180, 280)] := (Frs.fin (k := 32) hf218 hn219 rfl (by decide) (fun _ => nI_m1 (by omega)) (fun _ => nI_m1 (by omega)) (fun h => absurd h (by decide)) (fun h => absurd h (by decide)))
            have hz221 : at0 ≤ at177 := (by omega)
            have hz222 : at177 ≤ T := (by omega)
            have hz223 : 0 ≤ 100 := (by omega)
            have hz224 : nd ≤ (nd180 + 1) := (by omega)
            have hz225 : (nd180 + 1) + 2 * at0 ≤ nd + 2 * at177 + 1 + 100000 * 0 := (by omega)
            have hz226 : (nd180 + 1) + 2 * at0 ≤ nd + 2 * at177 + (40 * (21 - ne) + 5) := (by omega)
            have hz227 : wr ≤ wr182 := (by omega)
            have hz228 : wr182 + at0 ≤ wr + at177 := (by omega)
            have hz229 : lk ≤ lk181 := (by omega)
            have hz230 : lk181 ≤ 60 + 100 * 0 := (by omega)
            have hz231 : at0 + 1 ≤ at177 + 0 := (by omega)
            have hz232 : nd180 ≤ (nd180 + 1) := (by omega)
            have hz233 : Kp B X211 wr182 T := hkp213
            have hz234 : If (0 = 0) (Low B X211 nd wr ∧ Frs K T wr182 X211 nd (nd180 + 1) 20000 [(nd180, 280)] ∧ kcl 15 (X211 9 nd180) = true) := (fun _ => ⟨hlo214, Frs.up hf220 (by omega), (by rw [hn219.1]; decide)⟩)
            have hP : va_P G.1 pCl (mW G h0 a (upd (upd (upd (upd (upd (upd (upd F 15 (nI 0)) 16 pl179) 27 (nI (nd180 + 1))) 31 (nI wr182)) 64 (nI at177)) 65 (nI ne)) 66 (nI lk181)) (updA X211 2 K)) _ := mW_to (F := F) (l1 := [(15, 0), (16, pl179), (27, (nI (nd180 + 1))), (31, (nI wr182)), (64, (nI at177)), (65, (nI ne)), (66, (nI lk181))]) (l2 := [(15, (nI 0)), (16, pl179), (27, (nI (nd180 + 1))), (31, (nI wr182)), (64, (nI at177)), (65, (nI ne)), (66, (nI lk181))]) (V := [(nI 0), pl179, (nI (nd180 + 1)), (nI wr182), (nI at177), (nI ne), (nI lk181), (nI 0), pl179, (nI (nd180 + 1)), (nI wr182), (nI at177), (nI ne), (nI lk181)]) rfl rfl rfl hP
            have hD : va_D A (mW G h0 a (upd (upd (upd (upd (upd (upd (upd F 15 (nI 0)) 16 pl179) 27 (nI (nd180 + 1))) 31 (nI wr182)) 64 (nI at177)) 65 (nI ne)) 66 (nI lk181)) (updA X211 2 K)) := mW_D hD
            exact W.iret (v := (nI nd180)) hx hb hr (fun t9 ht9 hW9 => ⟨⟨_, (at177, 0, pl179, (nd180 + 1), lk181, wr182, nd180, X211), rfl, ⟨rfl, hz221, hz222, hz223, hz224, hz225, hz226, hz227, hz228, hz229, hz230, hz231, hz232, hz233, hz234⟩, by rw [ht9]; exact hP, hD⟩, hS.F ht9⟩) hS.2.2 dX12_simple_74
          · have e200 := e200
            have hP : va_P G.1 pCl (mW G h0 a (upd (upd (upd (upd (upd (upd (upd (upd F 15 (nI fa178)) 16 pl179) 27 (nI nd180)) 31 (nI wr182)) 64 (nI at177)) 65 (nI ne)) 66 (nI lk181)) 27 (nI nd180)) (updA X184 2 K)) _ := mW_to (F := F) (l1 := [(15, (nI fa178)), (16, pl179), (27, (nI nd180)), (31, (nI wr182)), (64, (nI at177)), (65, (nI ne)), (66, (nI lk181))]) (l2 := [(15, (nI fa178)), (16, pl179), (27, (nI nd180)), (31, (nI wr182)), (64, (nI at177)), (65, (nI ne)), (66, (nI lk181)), (27, (nI nd180))]) (V := [(nI fa178), pl179, (nI nd180), (nI wr182), (nI at177), (nI ne), (nI lk181), (nI fa178), pl179, (nI nd180), (nI wr182), (nI at177), (nI ne), (nI lk181), (nI nd180)]) rfl rfl rfl hP
            have hD : va_D A (mW G h0 a (upd (upd (upd (upd (upd (upd (upd (upd F 15 (nI fa178)) 16 pl179) 27 (nI nd180)) 31 (nI wr182)) 64 (nI at177)) 65 (nI ne)) 66 (nI lk181)) 27 (nI nd180)) (updA X184 2 K)) := mW_D hD
            refine pc_V0 (G := G) (As := [.int 32, .int (nI at0), .int (nI at6), .int (nI r12), .int (nI r183)]) (rest := []) hx hb hml hown hq hE hX pX0_al hP hD hS hA hl.1 (R_nodeB l G h0 a (upd (upd (upd (upd (upd (upd (upd F 15 (nI fa178)) 16 pl179) 27 (nI nd180)) 31 (nI wr182)) 64 (nI at177)) 65 (nI ne)) 66 (nI lk181)) X184 32 (nI at0) (nI at6) (nI r12) (nI r183) nd180 K (by omega)) (gV pw_1650 pw_1651 pw_1652 pw_1523 pw_1589) hV_X12_node 0 9 rfl rfl rfl rfl (Nat.le_of_ble_eq_true rfl) dX12_simple_71 ⟨Nat.le_of_ble_eq_true rfl, Nat.le_of_ble_eq_true rfl⟩ ⟨(by show 2 + 1 ≤ (26 * n + 30); omega), (by show 8 + (7 + 11) + 60 ≤ (2000 * n + 3000); omega)⟩ (fun v237 u235 H locs hw236 hP hD hS => ?_)
            obtain ⟨X238, rfl⟩ : ∃ z, z = u235 := ⟨_, rfl⟩
            obtain ⟨hw236, h239⟩ := hw236
            have h239 : NewN X184 X238 nd180 32 (nI at0) (nI at6) (nI r12) (nI r183) := h239
            obtain rfl : v237 = some (.int (nI nd180)) := hw236
            have hP : va_P G.1 pCl (mW G h0 a (upd (upd (upd (upd (upd (upd (upd F 15 (nI fa178)) 16 pl179) 27 (nI (nd180 + 1))) 31 (nI wr182)) 64 (nI at177)) 65 (nI ne)) 66 (nI lk181)) (updA X238 2 K)) _ := mW_to (F := F) (l1 := [(15, (nI fa178)), (16, pl179), (27, (nI nd180)), (31, (nI wr182)), (64, (nI at177)), (65, (nI ne)), (66, (nI lk181)), (27, (nI (nd180 + 1)))]) (l2 := [(15, (nI fa178)), (16, pl179), (27, (nI (nd180 + 1))), (31, (nI wr182)), (64, (nI at177)), (65, (nI ne)), (66, (nI lk181))]) (V := [(nI fa178), pl179, (nI (nd180 + 1)), (nI wr182), (nI at177), (nI ne), (nI lk181), (nI (nd180 + 1)), (nI fa178), pl179, (nI (nd180 + 1)), (nI wr182), (nI at177), (nI ne), (nI lk181)]) rfl rfl rfl hP
            have hD : va_D A (mW G h0 a (upd (upd (upd (upd (upd (upd (upd F 15 (nI fa178)) 16 pl179) 27 (nI (nd180 + 1))) 31 (nI wr182)) 64 (nI at177)) 65 (nI ne)) 66 (nI lk181)) (updA X238 2 K)) := mW_D hD
            refine W.widen (k := 0) (n := 0) (Nat.le_of_ble_eq_true rfl) (Nat.le_of_ble_eq_true rfl) ?_
            refine W.eq (g2 := F0 m 74 ls [.int (nI nd180)]) rfl ?_
            have hkp240 : Kp B X238 wr182 T := (Kp.new hkp199 h239)
            have hz241 : at0 ≤ at177 := (by omega)
            have hz242 : at177 ≤ T := (by omega)
            have hz243 : fa178 ≤ 100 := (by omega)
            have hz244 : nd ≤ (nd180 + 1) := (by omega)
            have hz245 : (nd180 + 1) + 2 * at0 ≤ nd + 2 * at177 + 1 + 100000 * fa178 := (by omega)
            have hz246 : (nd180 + 1) + 2 * at0 ≤ nd + 2 * at177 + (40 * (21 - ne) + 5) := (by omega)
            have hz247 : wr ≤ wr182 := (by omega)
            have hz248 : wr182 + at0 ≤ wr + at177 := (by omega)
            have hz249 : lk ≤ lk181 := (by omega)
            have hz250 : lk181 ≤ 60 + 100 * fa178 := (by omega)
            have hz251 : at0 + 1 ≤ at177 + fa178 := (by omega)
            have hz252 : nd180 ≤ (nd180 + 1) := (by omega)
            have hz253 : Kp B X238 wr182 T := hkp240
            have hz254 : If (fa178 = 0) (Low B X238 nd wr ∧ Frs K T wr182 X238 nd (nd180 + 1) 20000 [(nd180, 280)] ∧ kcl 15 (X238 9 nd180) = true) := (fun e => absurd e (by omega))
            have hP : va_P G.1 pCl (mW G h0 a (upd (upd (upd (upd (upd (upd (upd F 15 (nI fa178)) 16 pl179) 27 (nI (nd180 + 1))) 31 (nI wr182)) 64 (nI at177)) 65 (nI ne)) 66 (nI lk181)) (updA X238 2 K)) _ := hP
            have hD : va_D A (mW G h0 a (upd (upd (upd (upd (upd (upd (upd F 15 (nI fa178)) 16 pl179) 27 (nI (nd180 + 1))) 31 (nI wr182)) 64 (nI at177)) 65 (nI ne)) 66 (nI lk181)) (updA X238 2 K)) := mW_D hD
            exact W.iret (v := (nI nd180)) hx hb hr (fun t9 ht9 hW9 => ⟨⟨_, (at177, fa178, pl179, (nd180 + 1), lk181, wr182, nd180, X238), rfl, ⟨rfl, hz241, hz242, hz243, hz244, hz245, hz246, hz247, hz248, hz249, hz250, hz251, hz252, hz253, hz254⟩, by rw [ht9]; exact hP, hD⟩, hS.F ht9⟩) hS.2.2 dX12_simple_74
        · have e173 := e173
          refine lv_aload_n hx hb dX12_simple_60 rfl (lv_at hl 4 rfl) ?_
          refine lv_bipush (v := 32) hx hb dX12_simple_61 (by decide) ?_
          refine lv_iload_n hx hb dX12_simple_63 rfl (lv_at hl 3 rfl) ?_
          refine lv_iload hx hb dX12_simple_64 (lv_at hl 0 rfl) ?_
          refine lv_iload_n hx hb dX12_simple_66 rfl (lv_at hl 2 rfl) ?_
          refine lv_aload_n hx hb dX12_simple_67 rfl (lv_at hl 4 rfl) ?_
          have hP : va_P G.1 pCl (mW G h0 a (upd (upd (upd (upd (upd (upd (upd (upd (upd F 15 (nI fa163)) 16 pl164) 27 (nI nd9)) 31 (nI wr11)) 64 (nI at162)) 65 (nI ne)) 66 (nI lk10)) 15 (nI fa163)) 64 (nI at162)) (updA (updA X13 2 K) 2 K)) _ := mW_to (F := F) (l1 := [(15, (nI fa163)), (16, pl164), (27, (nI nd9)), (31, (nI wr11)), (64, (nI at162)), (65, (nI ne)), (66, (nI lk10))]) (l2 := [(15, (nI fa163)), (16, pl164), (27, (nI nd9)), (31, (nI wr11)), (64, (nI at162)), (65, (nI ne)), (66, (nI lk10)), (15, (nI fa163)), (64, (nI at162))]) (V := [(nI fa163), pl164, (nI nd9), (nI wr11), (nI at162), (nI ne), (nI lk10), (nI fa163), pl164, (nI nd9), (nI wr11), (nI at162), (nI ne), (nI lk10), (nI fa163), (nI at162)]) rfl rfl (show (updA X13 2 K) = (updA (updA X13 2 K) 2 K) from updsA_eq2 (F := X13) (l1 := [(2, K)]) (l2 := [(2, K), (2, K)]) (V := [K, K, K]) rfl rfl) hP
          have hD : va_D A (mW G h0 a (upd (upd (upd (upd (upd (upd (upd (upd (upd F 15 (nI fa163)) 16 pl164) 27 (nI nd9)) 31 (nI wr11)) 64 (nI at162)) 65 (nI ne)) 66 (nI lk10)) 15 (nI fa163)) 64 (nI at162)) (updA (updA X13 2 K) 2 K)) := mW_D hD
          refine pc_V0 (G := G) (As := []) (rest := [.int (nI r12), .int (nI at6), .int (nI at0), .int 32, .ref h0]) hx hb hml hown hq hE hX pX0_al hP hD hS hA hl.1 (RF_choice l G h0 a (upd (upd (upd (upd (upd (upd (upd F 15 (nI fa163)) 16 pl164) 27 (nI nd9)) 31 (nI wr11)) 64 (nI at162)) 65 (nI ne)) 66 (nI lk10)) (updA X13 2 K) at162 T fa163 K (by omega) (by omega) hK (by omega) e173) (gV pw_1640 pw_1641 pw_1642 pw_1523 pw_1656) hV_X12_choice 0 9 rfl rfl rfl rfl (Nat.le_of_ble_eq_true rfl) dX12_simple_68 ⟨Nat.le_of_ble_eq_true rfl, Nat.le_of_ble_eq_true rfl⟩ ⟨(by show 16 + 1 ≤ (26 * n + 30); omega), (by show 8 + (4 + 11) + 405 ≤ (2000 * n + 3000); omega)⟩ (fun v257 u255 H locs hw256 hP hD hS => ?_)
          obtain rfl : v257 = some (.int 0) := hw256
          have hP : va_P G.1 pCl (mW G h0 a (upd (upd (upd (upd (upd (upd (upd F 15 (nI fa163)) 16 pl164) 27 (nI nd9)) 31 (nI wr11)) 64 (nI at162)) 65 (nI ne)) 66 (nI lk10)) (updA X13 2 K)) _ := mW_to (F := F) (l1 := [(15, (nI fa163)), (16, pl164), (27, (nI nd9)), (31, (nI wr11)), (64, (nI at162)), (65, (nI ne)), (66, (nI lk10)), (15, (nI fa163)), (64, (nI at162))]) (l2 := [(15, (nI fa163)), (16, pl164), (27, (nI nd9)), (31, (nI wr11)), (64, (nI at162)), (65, (nI ne)), (66, (nI lk10))]) (V := [(nI fa163), pl164, (nI nd9), (nI wr11), (nI at162), (nI ne), (nI lk10), (nI fa163), (nI at162), (nI fa163), pl164, (nI nd9), (nI wr11), (nI at162), (nI ne), (nI lk10)]) rfl rfl (show (updA (updA X13 2 K) 2 K) = (updA X13 2 K) from updsA_eq2 (F := X13) (l1 := [(2, K), (2, K)]) (l2 := [(2, K)]) (V := [K, K, K]) rfl rfl) hP
          have hD : va_D A (mW G h0 a (upd (upd (upd (upd (upd (upd (upd F 15 (nI fa163)) 16 pl164) 27 (nI nd9)) 31 (nI wr11)) 64 (nI at162)) 65 (nI ne)) 66 (nI lk10)) (updA X13 2 K)) := mW_D hD
          refine W.widen (k := 0) (n := 0) (Nat.le_of_ble_eq_true rfl) (Nat.le_of_ble_eq_true rfl) ?_
          refine W.eq (g2 := F0 m 71 ls [.int 0, .int (nI r12), .int (nI at6), .int (nI at0), .int 32, .ref h0]) rfl ?_
          have hP : va_P G.1 pCl (mW G h0 a (upd (upd (upd (upd (upd (upd (upd (upd F 15 (nI fa163)) 16 pl164) 27 (nI nd9)) 31 (nI wr11)) 64 (nI at162)) 65 (nI ne)) 66 (nI lk10)) 27 (nI nd9)) (updA X13 2 K)) _ := mW_to (F := F) (l1 := [(15, (nI fa163)), (16, pl164), (27, (nI nd9)), (31, (nI wr11)), (64, (nI at162)), (65, (nI ne)), (66, (nI lk10))]) (l2 := [(15, (nI fa163)), (16, pl164), (27, (nI nd9)), (31, (nI wr11)), (64, (nI at162)), (65, (nI ne)), (66, (nI lk10)), (27, (nI nd9))]) (V := [(nI fa163), pl164, (nI nd9), (nI wr11), (nI at162), (nI ne), (nI lk10), (nI fa163), pl164, (nI nd9), (nI wr11), (nI at162), (nI ne), (nI lk10), (nI nd9)]) rfl rfl rfl hP
          have hD : va_D A (mW G h0 a (upd (upd (upd (upd (upd (upd (upd (upd F 15 (nI fa163)) 16 pl164) 27 (nI nd9)) 31 (nI wr11)) 64 (nI at162)) 65 (nI ne)) 66 (nI lk10)) 27 (nI nd9)) (updA X13 2 K)) := mW_D hD
          refine pc_V0 (G := G) (As := [.int 32, .int (nI at0), .int (nI at6), .int (nI r12), .int 0]) (rest := []) hx hb hml hown hq hE hX pX0_al hP hD hS hA hl.1 (R_nodeB l G h0 a (upd (upd (upd (upd (upd (upd (upd F 15 (nI fa163)) 16 pl164) 27 (nI nd9)) 31 (nI wr11)) 64 (nI at162)) 65 (nI ne)) 66 (nI lk10)) X13 32 (nI at0) (nI at6) (nI r12) 0 nd9 K (by omega)) (gV pw_1650 pw_1651 pw_1652 pw_1523 pw_1589) hV_X12_node 0 9 rfl rfl rfl rfl (Nat.le_of_ble_eq_true rfl) dX12_simple_71 ⟨Nat.le_of_ble_eq_true rfl, Nat.le_of_ble_eq_true rfl⟩ ⟨(by show 2 + 1 ≤ (26 * n + 30); omega), (by show 8 + (7 + 11) + 60 ≤ (2000 * n + 3000); omega)⟩ (fun v260 u258 H locs hw259 hP hD hS => ?_)
          obtain ⟨X261, rfl⟩ : ∃ z, z = u258 := ⟨_, rfl⟩
          obtain ⟨hw259, h262⟩ := hw259
          have h262 : NewN X13 X261 nd9 32 (nI at0) (nI at6) (nI r12) 0 := h262
          obtain rfl : v260 = some (.int (nI nd9)) := hw259
          have hP : va_P G.1 pCl (mW G h0 a (upd (upd (upd (upd (upd (upd (upd F 15 (nI fa163)) 16 pl164) 27 (nI (nd9 + 1))) 31 (nI wr11)) 64 (nI at162)) 65 (nI ne)) 66 (nI lk10)) (updA X261 2 K)) _ := mW_to (F := F) (l1 := [(15, (nI fa163)), (16, pl164), (27, (nI nd9)), (31, (nI wr11)), (64, (nI at162)), (65, (nI ne)), (66, (nI lk10)), (27, (nI (nd9 + 1)))]) (l2 := [(15, (nI fa163)), (16, pl164), (27, (nI (nd9 + 1))), (31, (nI wr11)), (64, (nI at162)), (65, (nI ne)), (66, (nI lk10))]) (V := [(nI fa163), pl164, (nI (nd9 + 1)), (nI wr11), (nI at162), (nI ne), (nI lk10), (nI (nd9 + 1)), (nI fa163), pl164, (nI (nd9 + 1)), (nI wr11), (nI at162), (nI ne), (nI lk10)]) rfl rfl rfl hP
          have hD : va_D A (mW G h0 a (upd (upd (upd (upd (upd (upd (upd F 15 (nI fa163)) 16 pl164) 27 (nI (nd9 + 1))) 31 (nI wr11)) 64 (nI at162)) 65 (nI ne)) 66 (nI lk10)) (updA X261 2 K)) := mW_D hD
          refine W.widen (k := 0) (n := 0) (Nat.le_of_ble_eq_true rfl) (Nat.le_of_ble_eq_true rfl) ?_
          refine W.eq (g2 := F0 m 74 ls [.int (nI nd9)]) rfl ?_
          have hkp263 : Kp B X261 wr11 T := (Kp.new hkp28 h262)
          have hz264 : at0 ≤ at162 := (by omega)
          have hz265 : at162 ≤ T := (by omega)
          have hz266 : fa163 ≤ 100 := (by omega)
          have hz267 : nd ≤ (nd9 + 1) := (by omega)
          have hz268 : (nd9 + 1) + 2 * at0 ≤ nd + 2 * at162 + 1 + 100000 * fa163 := (by omega)
          have hz269 : (nd9 + 1) + 2 * at0 ≤ nd + 2 * at162 + (40 * (21 - ne) + 5) := (by omega)
          have hz270 : wr ≤ wr11 := (by omega)
          have hz271 : wr11 + at0 ≤ wr + at162 := (by omega)
          have hz272 : lk ≤ lk10 := (by omega)
          have hz273 : lk10 ≤ 60 + 100 * fa163 := (by omega)
          have hz274 : at0 + 1 ≤ at162 + fa163 := (by omega)
          have hz275 : nd9 ≤ (nd9 + 1) := (by omega)
          have hz276 : Kp B X261 wr11 T := hkp263
          have hz277 : If (fa163 = 0) (Low B X261 nd wr ∧ Frs K T wr11 X261 nd (nd9 + 1) 20000 [(nd9, 280)] ∧ kcl 15 (X261 9 nd9) = true) := (fun e => absurd e (by omega))
          have hP : va_P G.1 pCl (mW G h0 a (upd (upd (upd (upd (upd (upd (upd F 15 (nI fa163)) 16 pl164) 27 (nI (nd9 + 1))) 31 (nI wr11)) 64 (nI at162)) 65 (nI ne)) 66 (nI lk10)) (updA X261 2 K)) _ := hP
          have hD : va_D A (mW G h0 a (upd (upd (upd (upd (upd (upd (upd F 15 (nI fa163)) 16 pl164) 27 (nI (nd9 + 1))) 31 (nI wr11)) 64 (nI at162)) 65 (nI ne)) 66 (nI lk10)) (updA X261 2 K)) := mW_D hD
          exact W.iret (v := (nI nd9)) hx hb hr (fun t9 ht9 hW9 => ⟨⟨_, (at162, fa163, pl164, (nd9 + 1), lk10, wr11, nd9, X261), rfl, ⟨rfl, hz264, hz265, hz266, hz267, hz268, hz269, hz270, hz271, hz272, hz273, hz274, hz275, hz276, hz277⟩, by rw [ht9]; exact hP, hD⟩, hS.F ht9⟩) hS.2.2 dX12_simple_74
      · refine lv_iload hx hb dX12_simple_41 (lv_at hl 0 rfl) ?_
        refine lv_bipush (v := 15) hx hb dX12_simple_43 (by decide) ?_
        refine lv_icmp_ne (tgt := 75) hx hb dX12_simple_45 (by decide) (fun c278 => ?_) (fun c278 => ?_)
        · refine lv_iload_n hx hb dX12_simple_75 rfl (lv_at hl 4 rfl) ?_
          refine lv_if_eq (tgt := 100) hx hb dX12_simple_76 (by decide) (fun c279 => absurd c279 (by decide)) (fun c279 => ?_)
          refine lv_iload hx hb dX12_simple_79 (lv_at hl 0 rfl) ?_
          refine lv_bipush (v := 7) hx hb dX12_simple_81 (by decide) ?_
          refine lv_icmp_eq (tgt := 107) hx hb dX12_simple_83 (by decide) (fun c280 => ?_) (fun c280 => ?_)
          · have hc281 : kcl 13 (X13 9 r12) = true := (by rw [show X13 9 r12 = _ from c280]; decide)
            refine lv_aload_n hx hb dX12_simple_107 rfl (lv_at hl 3 rfl) ?_
            refine lv_bipush (v := 33) hx hb dX12_simple_108 (by decide) ?_
            refine lv_iload_n hx hb dX12_simple_110 rfl (lv_at hl 2 rfl) ?_
            refine lv_iload_n hx hb dX12_simple_111 rfl (lv_at hl 2 rfl) ?_
            refine lv_iload_n hx hb dX12_simple_112 rfl (lv_at hl 1 rfl) ?_
            refine lv_iconst (v := (-1)) hx hb dX12_simple_113 (by decide) ?_
            have hP : va_P G.1 pCl (mW G h0 a (upd (upd (upd (upd (upd (upd (upd (upd F 15 0) 16 pl8) 27 (nI nd9)) 31 (nI wr11)) 64 (nI at6)) 65 (nI ne)) 66 (nI lk10)) 27 (nI nd9)) (updA X13 2 K)) _ := mW_to (F := F) (l1 := [(15, 0), (16, pl8), (27, (nI nd9)), (31, (nI wr11)), (64, (nI at6)), (65, (nI ne)), (66, (nI lk10))]) (l2 := [(15, 0), (16, pl8), (27, (nI nd9)), (31, (nI wr11)), (64, (nI at6)), (65, (nI ne)), (66, (nI lk10)), (27, (nI nd9))]) (V := [0, pl8, (nI nd9), (nI wr11), (nI at6), (nI ne), (nI lk10), 0, pl8, (nI nd9), (nI wr11), (nI at6), (nI ne), (nI lk10), (nI nd9)]) rfl rfl rfl hP
            have hD : va_D A (mW G h0 a (upd (upd (upd (upd (upd (upd (upd (upd F 15 0) 16 pl8) 27 (nI nd9)) 31 (nI wr11)) 64 (nI at6)) 65 (nI ne)) 66 (nI lk10)) 27 (nI nd9)) (updA X13 2 K)) := mW_D hD
            refine pc_V0 (G := G) (As := [.int 33, .int (nI at0), .int (nI at0), .int (nI r12), .int (-1)]) (rest := []) hx hb hml hown hq hE hX pX0_al hP hD hS hA hl.1 (R_nodeB l G h0 a (upd (upd (upd (upd (upd (upd (upd F 15 0) 16 pl8) 27 (nI nd9)) 31 (nI wr11)) 64 (nI at6)) 65 (nI ne)) 66 (nI lk10)) X13 33 (nI at0) (nI at0) (nI r12) (-1) nd9 K (by omega)) (gV pw_1650 pw_1651 pw_1652 pw_1523 pw_1589) hV_X12_node 0 9 rfl rfl rfl rfl (Nat.le_of_ble_eq_true rfl) dX12_simple_114 ⟨Nat.le_of_ble_eq_true rfl, Nat.le_of_ble_eq_true rfl⟩ ⟨(by show 2 + 1 ≤ (26 * n + 30); omega), (by show 8 + (7 + 11) + 60 ≤ (2000 * n + 3000); omega)⟩ (fun v284 u282 H locs hw283 hP hD hS => ?_)
            obtain ⟨X285, rfl⟩ : ∃ z, z = u282 := ⟨_, rfl⟩
            obtain ⟨hw283, h286⟩ := hw283
            have h286 : NewN X13 X285 nd9 33 (nI at0) (nI at0) (nI r12) (-1) := h286
            obtain rfl : v284 = some (.int (nI nd9)) := hw283
            have hP : va_P G.1 pCl (mW G h0 a (upd (upd (upd (upd (upd (upd (upd F 15 0) 16 pl8) 27 (nI (nd9 + 1))) 31 (nI wr11)) 64 (nI at6)) 65 (nI ne)) 66 (nI lk10)) (updA X285 2 K)) _ := mW_to (F := F) (l1 := [(15, 0), (16, pl8), (27, (nI nd9)), (31, (nI wr11)), (64, (nI at6)), (65, (nI ne)), (66, (nI lk10)), (27, (nI (nd9 + 1)))]) (l2 := [(15, 0), (16, pl8), (27, (nI (nd9 + 1))), (31, (nI wr11)), (64, (nI at6)), (65, (nI ne)), (66, (nI lk10))]) (V := [0, pl8, (nI (nd9 + 1)), (nI wr11), (nI at6), (nI ne), (nI lk10), (nI (nd9 + 1)), 0, pl8, (nI (nd9 + 1)), (nI wr11), (nI at6), (nI ne), (nI lk10)]) rfl rfl rfl hP
            have hD : va_D A (mW G h0 a (upd (upd (upd (upd (upd (upd (upd F 15 0) 16 pl8) 27 (nI (nd9 + 1))) 31 (nI wr11)) 64 (nI at6)) 65 (nI ne)) 66 (nI lk10)) (updA X285 2 K)) := mW_D hD
            refine W.widen (k := 0) (n := 0) (Nat.le_of_ble_eq_true rfl) (Nat.le_of_ble_eq_true rfl) ?_
            refine W.eq (g2 := F0 m 117 ls [.int (nI nd9)]) rfl ?_
            have hkp287 : Kp B X285 wr11 T := (Kp.new hkp28 h286)
            have hlo288 : Low B X285 nd wr := (Low.new hlo33 h286 (by omega))
            have hc289 : kcl 13 (X285 9 r12) = true := by rw [h286.2.1 9 r12 (by omega)]; exact hc281
            have hf290 : Frs K T wr11 X285 nd (nd9 + 1) nd9 [(nd9, 280)] := (Frs.new1 (k := 33) hf31 (by omega) (by omega) (by omega) h286 rfl rfl (by decide) (by decide) (by omega) (by omega) (by decide) (by simp) ⟨by decide, by decide, by decide, by decide⟩ hc281 (newOK.m1 (by decide)) (newOK.m1 (by decide)) (newOK.m1 (by decide)) (by omega))
            have hn291 : Nd X285 nd9 33 (nI r12) (-1) (-1) (-1) := (NewN.toNd h286)
            have hf292 : Frs K T wr11 X285 nd (nd9 + 1) 20000 [(nd9, 280)] := (Frs.fin (k := 33) hf290 hn291 rfl (by decide) (fun _ => nI_m1 (by omega)) (fun h => absurd h (by decide)) (fun h => absurd h (by decide)) (fun h => absurd h (by decide)))
            have hz293 : at0 ≤ at6 := (by omega)
            have hz294 : at6 ≤ T := (by omega)
            have hz295 : 0 ≤ 100 := (by omega)
            have hz296 : nd ≤ (nd9 + 1) := (by omega)
            have hz297 : (nd9 + 1) + 2 * at0 ≤ nd + 2 * at6 + 1 + 100000 * 0 := (by omega)
            have hz298 : (nd9 + 1) + 2 * at0 ≤ nd + 2 * at6 + (40 * (21 - ne) + 5) := (by omega)
            have hz299 : wr ≤ wr11 := (by omega)
            have hz300 : wr11 + at0 ≤ wr + at6 := (by omega)
            have hz301 : lk ≤ lk10 := (by omega)
            have hz302 : lk10 ≤ 60 + 100 * 0 := (by omega)
            have hz303 : at0 + 1 ≤ at6 + 0 := (by omega)
            have hz304 : nd9 ≤ (nd9 + 1) := (by omega)
            have hz305 : Kp B X285 wr11 T := hkp287
            have hz306 : If (0 = 0) (Low B X285 nd wr ∧ Frs K T wr11 X285 nd (nd9 + 1) 20000 [(nd9, 280)] ∧ kcl 15 (X285 9 nd9) = true) := (fun _ => ⟨hlo288, Frs.up hf292 (by omega), (by rw [hn291.1]; decide)⟩)
            have hP : va_P G.1 pCl (mW G h0 a (upd (upd (upd (upd (upd (upd (upd F 15 (nI 0)) 16 pl8) 27 (nI (nd9 + 1))) 31 (nI wr11)) 64 (nI at6)) 65 (nI ne)) 66 (nI lk10)) (updA X285 2 K)) _ := mW_to (F := F) (l1 := [(15, 0), (16, pl8), (27, (nI (nd9 + 1))), (31, (nI wr11)), (64, (nI at6)), (65, (nI ne)), (66, (nI lk10))]) (l2 := [(15, (nI 0)), (16, pl8), (27, (nI (nd9 + 1))), (31, (nI wr11)), (64, (nI at6)), (65, (nI ne)), (66, (nI lk10))]) (V := [(nI 0), pl8, (nI (nd9 + 1)), (nI wr11), (nI at6), (nI ne), (nI lk10), (nI 0), pl8, (nI (nd9 + 1)), (nI wr11), (nI at6), (nI ne), (nI lk10)]) rfl rfl rfl hP
            have hD : va_D A (mW G h0 a (upd (upd (upd (upd (upd (upd (upd F 15 (nI 0)) 16 pl8) 27 (nI (nd9 + 1))) 31 (nI wr11)) 64 (nI at6)) 65 (nI ne)) 66 (nI lk10)) (updA X285 2 K)) := mW_D hD
            exact W.iret (v := (nI nd9)) hx hb hr (fun t9 ht9 hW9 => ⟨⟨_, (at6, 0, pl8, (nd9 + 1), lk10, wr11, nd9, X285), rfl, ⟨rfl, hz293, hz294, hz295, hz296, hz297, hz298, hz299, hz300, hz301, hz302, hz303, hz304, hz305, hz306⟩, by rw [ht9]; exact hP, hD⟩, hS.F ht9⟩) hS.2.2 dX12_simple_117
          · refine lv_iload hx hb dX12_simple_86 (lv_at hl 0 rfl) ?_
            refine lv_bipush (v := 8) hx hb dX12_simple_88 (by decide) ?_
            refine lv_icmp_eq (tgt := 107) hx hb dX12_simple_90 (by decide) (fun c307 => ?_) (fun c307 => ?_)
            · have hc308 : kcl 13 (X13 9 r12) = true := (by rw [show X13 9 r12 = _ from c307]; decide)
              refine lv_aload_n hx hb dX12_simple_107 rfl (lv_at hl 3 rfl) ?_
              refine lv_bipush (v := 33) hx hb dX12_simple_108 (by decide) ?_
              refine lv_iload_n hx hb dX12_simple_110 rfl (lv_at hl 2 rfl) ?_
              refine lv_iload_n hx hb dX12_simple_111 rfl (lv_at hl 2 rfl) ?_
              refine lv_iload_n hx hb dX12_simple_112 rfl (lv_at hl 1 rfl) ?_
              refine lv_iconst (v := (-1)) hx hb dX12_simple_113 (by decide) ?_
              have hP : va_P G.1 pCl (mW G h0 a (upd (upd (upd (upd (upd (upd (upd (upd F 15 0) 16 pl8) 27 (nI nd9)) 31 (nI wr11)) 64 (nI at6)) 65 (nI ne)) 66 (nI lk10)) 27 (nI nd9)) (updA X13 2 K)) _ := mW_to (F := F) (l1 := [(15, 0), (16, pl8), (27, (nI nd9)), (31, (nI wr11)), (64, (nI at6)), (65, (nI ne)), (66, (nI lk10))]) (l2 := [(15, 0), (16, pl8), (27, (nI nd9)), (31, (nI wr11)), (64, (nI at6)), (65, (nI ne)), (66, (nI lk10)), (27, (nI nd9))]) (V := [0, pl8, (nI nd9), (nI wr11), (nI at6), (nI ne), (nI lk10), 0, pl8, (nI nd9), (nI wr11), (nI at6), (nI ne), (nI lk10), (nI nd9)]) rfl rfl rfl hP
              have hD : va_D A (mW G h0 a (upd (upd (upd (upd (upd (upd (upd (upd F 15 0) 16 pl8) 27 (nI nd9)) 31 (nI wr11)) 64 (nI at6)) 65 (nI ne)) 66 (nI lk10)) 27 (nI nd9)) (updA X13 2 K)) := mW_D hD
              refine pc_V0 (G := G) (As := [.int 33, .int (nI at0), .int (nI at0), .int (nI r12), .int (-1)]) (rest := []) hx hb hml hown hq hE hX pX0_al hP hD hS hA hl.1 (R_nodeB l G h0 a (upd (upd (upd (upd (upd (upd (upd F 15 0) 16 pl8) 27 (nI nd9)) 31 (nI wr11)) 64 (nI at6)) 65 (nI ne)) 66 (nI lk10)) X13 33 (nI at0) (nI at0) (nI r12) (-1) nd9 K (by omega)) (gV pw_1650 pw_1651 pw_1652 pw_1523 pw_1589) hV_X12_node 0 9 rfl rfl rfl rfl (Nat.le_of_ble_eq_true rfl) dX12_simple_114 ⟨Nat.le_of_ble_eq_true rfl, Nat.le_of_ble_eq_true rfl⟩ ⟨(by show 2 + 1 ≤ (26 * n + 30); omega), (by show 8 + (7 + 11) + 60 ≤ (2000 * n + 3000); omega)⟩ (fun v311 u309 H locs hw310 hP hD hS => ?_)
              obtain ⟨X312, rfl⟩ : ∃ z, z = u309 := ⟨_, rfl⟩
              obtain ⟨hw310, h313⟩ := hw310
              have h313 : NewN X13 X312 nd9 33 (nI at0) (nI at0) (nI r12) (-1) := h313
              obtain rfl : v311 = some (.int (nI nd9)) := hw310
              have hP : va_P G.1 pCl (mW G h0 a (upd (upd (upd (upd (upd (upd (upd F 15 0) 16 pl8) 27 (nI (nd9 + 1))) 31 (nI wr11)) 64 (nI at6)) 65 (nI ne)) 66 (nI lk10)) (updA X312 2 K)) _ := mW_to (F := F) (l1 := [(15, 0), (16, pl8), (27, (nI nd9)), (31, (nI wr11)), (64, (nI at6)), (65, (nI ne)), (66, (nI lk10)), (27, (nI (nd9 + 1)))]) (l2 := [(15, 0), (16, pl8), (27, (nI (nd9 + 1))), (31, (nI wr11)), (64, (nI at6)), (65, (nI ne)), (66, (nI lk10))]) (V := [0, pl8, (nI (nd9 + 1)), (nI wr11), (nI at6), (nI ne), (nI lk10), (nI (nd9 + 1)), 0, pl8, (nI (nd9 + 1)), (nI wr11), (nI at6), (nI ne), (nI lk10)]) rfl rfl rfl hP
              have hD : va_D A (mW G h0 a (upd (upd (upd (upd (upd (upd (upd F 15 0) 16 pl8) 27 (nI (nd9 + 1))) 31 (nI wr11)) 64 (nI at6)) 65 (nI ne)) 66 (nI lk10)) (updA X312 2 K)) := mW_D hD
              refine W.widen (k := 0) (n := 0) (Nat.le_of_ble_eq_true rfl) (Nat.le_of_ble_eq_true rfl) ?_
              refine W.eq (g2 := F0 m 117 ls [.int (nI nd9)]) rfl ?_
              have hkp314 : Kp B X312 wr11 T := (Kp.new hkp28 h313)
              have hlo315 : Low B X312 nd wr := (Low.new hlo33 h313 (by omega))
              have hc316 : kcl 13 (X312 9 r12) = true := by rw [h313.2.1 9 r12 (by omega)]; exact hc308
              have hf317 : Frs K T wr11 X312 nd (nd9 + 1) nd9 [(nd9, 280)] := (Frs.new1 (k := 33) hf31 (by omega) (by omega) (by omega) h313 rfl rfl (by decide) (by decide) (by omega) (by omega) (by decide) (by simp) ⟨by decide, by decide, by decide, by decide⟩ hc308 (newOK.m1 (by decide)) (newOK.m1 (by decide)) (newOK.m1 (by decide)) (by omega))
              have hn318 : Nd X312 nd9 33 (nI r12) (-1) (-1) (-1) := (NewN.toNd h313)
              have hf319 : Frs K T wr11 X312 nd (nd9 + 1) 20000 [(nd9, 280)] := (Frs.fin (k := 33) hf317 hn318 rfl (by decide) (fun _ => nI_m1 (by omega)) (fun h => absurd h (by decide)) (fun h => absurd h (by decide)) (fun h => absurd h (by decide)))
              have hz320 : at0 ≤ at6 := (by omega)
              have hz321 : at6 ≤ T := (by omega)
              have hz322 : 0 ≤ 100 := (by omega)
              have hz323 : nd ≤ (nd9 + 1) := (by omega)
              have hz324 : (nd9 + 1) + 2 * at0 ≤ nd + 2 * at6 + 1 + 100000 * 0 := (by omega)
              have hz325 : (nd9 + 1) + 2 * at0 ≤ nd + 2 * at6 + (40 * (21 - ne) + 5) := (by omega)
              have hz326 : wr ≤ wr11 := (by omega)
              have hz327 : wr11 + at0 ≤ wr + at6 := (by omega)
              have hz328 : lk ≤ lk10 := (by omega)
              have hz329 : lk10 ≤ 60 + 100 * 0 := (by omega)
              have hz330 : at0 + 1 ≤ at6 + 0 := (by omega)
              have hz331 : nd9 ≤ (nd9 + 1) := (by omega)
              have hz332 : Kp B X312 wr11 T := hkp314
              have hz333 : If (0 = 0) (Low B X312 nd wr ∧ Frs K T wr11 X312 nd (nd9 + 1) 20000 [(nd9, 280)] ∧ kcl 15 (X312 9 nd9) = true) := (fun _ => ⟨hlo315, Frs.up hf319 (by omega), (by rw [hn318.1]; decide)⟩)
              have hP : va_P G.1 pCl (mW G h0 a (upd (upd (upd (upd (upd (upd (upd F 15 (nI 0)) 16 pl8) 27 (nI (nd9 + 1))) 31 (nI wr11)) 64 (nI at6)) 65 (nI ne)) 66 (nI lk10)) (updA X312 2 K)) _ := mW_to (F := F) (l1 := [(15, 0), (16, pl8), (27, (nI (nd9 + 1))), (31, (nI wr11)), (64, (nI at6)), (65, (nI ne)), (66, (nI lk10))]) (l2 := [(15, (nI 0)), (16, pl8), (27, (nI (nd9 + 1))), (31, (nI wr11)), (64, (nI at6)), (65, (nI ne)), (66, (nI lk10))]) (V := [(nI 0), pl8, (nI (nd9 + 1)), (nI wr11), (nI at6), (nI ne), (nI lk10), (nI 0), pl8, (nI (nd9 + 1)), (nI wr11), (nI at6), (nI ne), (nI lk10)]) rfl rfl rfl hP
              have hD : va_D A (mW G h0 a (upd (upd (upd (upd (upd (upd (upd F 15 (nI 0)) 16 pl8) 27 (nI (nd9 + 1))) 31 (nI wr11)) 64 (nI at6)) 65 (nI ne)) 66 (nI lk10)) (updA X312 2 K)) := mW_D hD
              exact W.iret (v := (nI nd9)) hx hb hr (fun t9 ht9 hW9 => ⟨⟨_, (at6, 0, pl8, (nd9 + 1), lk10, wr11, nd9, X312), rfl, ⟨rfl, hz320, hz321, hz322, hz323, hz324, hz325, hz326, hz327, hz328, hz329, hz330, hz331, hz332, hz333⟩, by rw [ht9]; exact hP, hD⟩, hS.F ht9⟩) hS.2.2 dX12_simple_117
            · refine lv_iload hx hb dX12_simple_93 (lv_at hl 0 rfl) ?_
              refine lv_bipush (v := 14) hx hb dX12_simple_95 (by decide) ?_
              refine lv_icmp_eq (tgt := 107) hx hb dX12_simple_97 (by decide) (fun c334 => ?_) (fun c334 => ?_)
              · have hc335 : kcl 13 (X13 9 r12) = true := (by rw [show X13 9 r12 = _ from c334]; decide)
                refine lv_aload_n hx hb dX12_simple_107 rfl (lv_at hl 3 rfl) ?_
                refine lv_bipush (v := 33) hx hb dX12_simple_108 (by decide) ?_
                refine lv_iload_n hx hb dX12_simple_110 rfl (lv_at hl 2 rfl) ?_
                refine lv_iload_n hx hb dX12_simple_111 rfl (lv_at hl 2 rfl) ?_
                refine lv_iload_n hx hb dX12_simple_112 rfl (lv_at hl 1 rfl) ?_
                refine lv_iconst (v := (-1)) hx hb dX12_simple_113 (by decide) ?_
                have hP : va_P G.1 pCl (mW G h0 a (upd (upd (upd (upd (upd (upd (upd (upd F 15 0) 16 pl8) 27 (nI nd9)) 31 (nI wr11)) 64 (nI at6)) 65 (nI ne)) 66 (nI lk10)) 27 (nI nd9)) (updA X13 2 K)) _ := mW_to (F := F) (l1 := [(15, 0), (16, pl8), (27, (nI nd9)), (31, (nI wr11)), (64, (nI at6)), (65, (nI ne)), (66, (nI lk10))]) (l2 := [(15, 0), (16, pl8), (27, (nI nd9)), (31, (nI wr11)), (64, (nI at6)), (65, (nI ne)), (66, (nI lk10)), (27, (nI nd9))]) (V := [0, pl8, (nI nd9), (nI wr11), (nI at6), (nI ne), (nI lk10), 0, pl8, (nI nd9), (nI wr11), (nI at6), (nI ne), (nI lk10), (nI nd9)]) rfl rfl rfl hP
                have hD : va_D A (mW G h0 a (upd (upd (upd (upd (upd (upd (upd (upd F 15 0) 16 pl8) 27 (nI nd9)) 31 (nI wr11)) 64 (nI at6)) 65 (nI ne)) 66 (nI lk10)) 27 (nI nd9)) (updA X13 2 K)) := mW_D hD
                refine pc_V0 (G := G) (As := [.int 33, .int (nI at0), .int (nI at0), .int (nI r12), .int (-1)]) (rest := []) hx hb hml hown hq hE hX pX0_al hP hD hS hA hl.1 (R_nodeB l G h0 a (upd (upd (upd (upd (upd (upd (upd F 15 0) 16 pl8) 27 (nI nd9)) 31 (nI wr11)) 64 (nI at6)) 65 (nI ne)) 66 (nI lk10)) X13 33 (nI at0) (nI at0) (nI r12) (-1) nd9 K (by omega)) (gV pw_1650 pw_1651 pw_1652 pw_1523 pw_1589) hV_X12_node 0 9 rfl rfl rfl rfl (Nat.le_of_ble_eq_true rfl) dX12_simple_114 ⟨Nat.le_of_ble_eq_true rfl, Nat.le_of_ble_eq_true rfl⟩ ⟨(by show 2 + 1 ≤ (26 * n + 30); omega), (by show 8 + (7 + 11) + 60 ≤ (2000 * n + 3000); omega)⟩ (fun v338 u336 H locs hw337 hP hD hS => ?_)
                obtain ⟨X339, rfl⟩ : ∃ z, z = u336 := ⟨_, rfl⟩
                obtain ⟨hw337, h340⟩ := hw337
                have h340 : NewN X13 X339 nd9 33 (nI at0) (nI at0) (nI r12) (-1) := h340
                obtain rfl : v338 = some (.int (nI nd9)) := hw337
                have hP : va_P G.1 pCl (mW G h0 a (upd (upd (upd (upd (upd (upd (upd F 15 0) 16 pl8) 27 (nI (nd9 + 1))) 31 (nI wr11)) 64 (nI at6)) 65 (nI ne)) 66 (nI lk10)) (updA X339 2 K)) _ := mW_to (F := F) (l1 := [(15, 0), (16, pl8), (27, (nI nd9)), (31, (nI wr11)), (64, (nI at6)), (65, (nI ne)), (66, (nI lk10)), (27, (nI (nd9 + 1)))]) (l2 := [(15, 0), (16, pl8), (27, (nI (nd9 + 1))), (31, (nI wr11)), (64, (nI at6)), (65, (nI ne)), (66, (nI lk10))]) (V := [0, pl8, (nI (nd9 + 1)), (nI wr11), (nI at6), (nI ne), (nI lk10), (nI (nd9 + 1)), 0, pl8, (nI (nd9 + 1)), (nI wr11), (nI at6), (nI ne), (nI lk10)]) rfl rfl rfl hP
                have hD : va_D A (mW G h0 a (upd (upd (upd (upd (upd (upd (upd F 15 0) 16 pl8) 27 (nI (nd9 + 1))) 31 (nI wr11)) 64 (nI at6)) 65 (nI ne)) 66 (nI lk10)) (updA X339 2 K)) := mW_D hD
                refine W.widen (k := 0) (n := 0) (Nat.le_of_ble_eq_true rfl) (Nat.le_of_ble_eq_true rfl) ?_
                refine W.eq (g2 := F0 m 117 ls [.int (nI nd9)]) rfl ?_
                have hkp341 : Kp B X339 wr11 T := (Kp.new hkp28 h340)
                have hlo342 : Low B X339 nd wr := (Low.new hlo33 h340 (by omega))
                have hc343 : kcl 13 (X339 9 r12) = true := by rw [h340.2.1 9 r12 (by omega)]; exact hc335
                have hf344 : Frs K T wr11 X339 nd (nd9 + 1) nd9 [(nd9, 280)] := (Frs.new1 (k := 33) hf31 (by omega) (by omega) (by omega) h340 rfl rfl (by decide) (by decide) (by omega) (by omega) (by decide) (by simp) ⟨by decide, by decide, by decide, by decide⟩ hc335 (newOK.m1 (by decide)) (newOK.m1 (by decide)) (newOK.m1 (by decide)) (by omega))
                have hn345 : Nd X339 nd9 33 (nI r12) (-1) (-1) (-1) := (NewN.toNd h340)
                have hf346 : Frs K T wr11 X339 nd (nd9 + 1) 20000 [(nd9, 280)] := (Frs.fin (k := 33) hf344 hn345 rfl (by decide) (fun _ => nI_m1 (by omega)) (fun h => absurd h (by decide)) (fun h => absurd h (by decide)) (fun h => absurd h (by decide)))
                have hz347 : at0 ≤ at6 := (by omega)
                have hz348 : at6 ≤ T := (by omega)
                have hz349 : 0 ≤ 100 := (by omega)
                have hz350 : nd ≤ (nd9 + 1) := (by omega)
                have hz351 : (nd9 + 1) + 2 * at0 ≤ nd + 2 * at6 + 1 + 100000 * 0 := (by omega)
                have hz352 : (nd9 + 1) + 2 * at0 ≤ nd + 2 * at6 + (40 * (21 - ne) + 5) := (by omega)
                have hz353 : wr ≤ wr11 := (by omega)
                have hz354 : wr11 + at0 ≤ wr + at6 := (by omega)
                have hz355 : lk ≤ lk10 := (by omega)
                have hz356 : lk10 ≤ 60 + 100 * 0 := (by omega)
                have hz357 : at0 + 1 ≤ at6 + 0 := (by omega)
                have hz358 : nd9 ≤ (nd9 + 1) := (by omega)
                have hz359 : Kp B X339 wr11 T := hkp341
                have hz360 : If (0 = 0) (Low B X339 nd wr ∧ Frs K T wr11 X339 nd (nd9 + 1) 20000 [(nd9, 280)] ∧ kcl 15 (X339 9 nd9) = true) := (fun _ => ⟨hlo342, Frs.up hf346 (by omega), (by rw [hn345.1]; decide)⟩)
                have hP : va_P G.1 pCl (mW G h0 a (upd (upd (upd (upd (upd (upd (upd F 15 (nI 0)) 16 pl8) 27 (nI (nd9 + 1))) 31 (nI wr11)) 64 (nI at6)) 65 (nI ne)) 66 (nI lk10)) (updA X339 2 K)) _ := mW_to (F := F) (l1 := [(15, 0), (16, pl8), (27, (nI (nd9 + 1))), (31, (nI wr11)), (64, (nI at6)), (65, (nI ne)), (66, (nI lk10))]) (l2 := [(15, (nI 0)), (16, pl8), (27, (nI (nd9 + 1))), (31, (nI wr11)), (64, (nI at6)), (65, (nI ne)), (66, (nI lk10))]) (V := [(nI 0), pl8, (nI (nd9 + 1)), (nI wr11), (nI at6), (nI ne), (nI lk10), (nI 0), pl8, (nI (nd9 + 1)), (nI wr11), (nI at6), (nI ne), (nI lk10)]) rfl rfl rfl hP
                have hD : va_D A (mW G h0 a (upd (upd (upd (upd (upd (upd (upd F 15 (nI 0)) 16 pl8) 27 (nI (nd9 + 1))) 31 (nI wr11)) 64 (nI at6)) 65 (nI ne)) 66 (nI lk10)) (updA X339 2 K)) := mW_D hD
                exact W.iret (v := (nI nd9)) hx hb hr (fun t9 ht9 hW9 => ⟨⟨_, (at6, 0, pl8, (nd9 + 1), lk10, wr11, nd9, X339), rfl, ⟨rfl, hz347, hz348, hz349, hz350, hz351, hz352, hz353, hz354, hz355, hz356, hz357, hz358, hz359, hz360⟩, by rw [ht9]; exact hP, hD⟩, hS.F ht9⟩) hS.2.2 dX12_simple_117
              · refine lv_aload_n hx hb dX12_simple_100 rfl (lv_at hl 3 rfl) ?_
                refine lv_iconst (v := 1) hx hb dX12_simple_101 (by decide) ?_
                have hP : va_P G.1 pCl (mW G h0 a (upd (upd (upd (upd (upd (upd (upd (upd (upd F 15 0) 16 pl8) 27 (nI nd9)) 31 (nI wr11)) 64 (nI at6)) 65 (nI ne)) 66 (nI lk10)) 15 (nI 0)) 64 (nI at6)) (updA (updA X13 2 K) 2 K)) _ := mW_to (F := F) (l1 := [(15, 0), (16, pl8), (27, (nI nd9)), (31, (nI wr11)), (64, (nI at6)), (65, (nI ne)), (66, (nI lk10))]) (l2 := [(15, 0), (16, pl8), (27, (nI nd9)), (31, (nI wr11)), (64, (nI at6)), (65, (nI ne)), (66, (nI lk10)), (15, (nI 0)), (64, (nI at6))]) (V := [(nI 0), pl8, (nI nd9), (nI wr11), (nI at6), (nI ne), (nI lk10), (nI 0), pl8, (nI nd9), (nI wr11), (nI at6), (nI ne), (nI lk10), (nI 0), (nI at6)]) rfl rfl (show (updA X13 2 K) = (updA (updA X13 2 K) 2 K) from updsA_eq2 (F := X13) (l1 := [(2, K)]) (l2 := [(2, K), (2, K)]) (V := [K, K, K]) rfl rfl) hP
                have hD : va_D A (mW G h0 a (upd (upd (upd (upd (upd (upd (upd (upd (upd F 15 0) 16 pl8) 27 (nI nd9)) 31 (nI wr11)) 64 (nI at6)) 65 (nI ne)) 66 (nI lk10)) 15 (nI 0)) 64 (nI at6)) (updA (updA X13 2 K) 2 K)) := mW_D hD
                refine pc_V0 (G := G) (As := [.int (nI 1)]) (rest := []) hx hb hml hown hq hE hX pX0_al hP hD hS hA hl.1 (R_bad l G h0 a (upd (upd (upd (upd (upd (upd (upd F 15 0) 16 pl8) 27 (nI nd9)) 31 (nI wr11)) 64 (nI at6)) 65 (nI ne)) 66 (nI lk10)) (updA X13 2 K) at6 T 0 K 1 (by omega) (by omega) hK (by omega) (by omega) (by omega)) (gV pw_1602 pw_1603 pw_1604 pw_1523 pw_1596) hV_X12_bad 0 9 rfl rfl rfl rfl (Nat.le_of_ble_eq_true rfl) dX12_simple_102 ⟨Nat.le_of_ble_eq_true rfl, Nat.le_of_ble_eq_true rfl⟩ ⟨(by show 3 + 1 ≤ (26 * n + 30); omega), (by show 8 + (2 + 11) + 82 ≤ (2000 * n + 3000); omega)⟩ (fun v363 u361 H locs hw362 hP hD hS => ?_)
                obtain ⟨fa364, pl365⟩ := u361
                obtain ⟨hw362, h366, h367, h368, h369⟩ := hw362
                have h366 : 0 ≤ fa364 := h366
                have h367 : fa364 ≤ 0 + 1 := h367
                have h368 : 0 < fa364 := h368
                have h369 : If (0 < 0) (fa364 = 0) := h369
                obtain rfl : v363 = none := hw362
                have hP : va_P G.1 pCl (mW G h0 a (upd (upd (upd (upd (upd (upd (upd F 15 (nI fa364)) 16 pl365) 27 (nI nd9)) 31 (nI wr11)) 64 (nI at6)) 65 (nI ne)) 66 (nI lk10)) (updA X13 2 K)) _ := mW_to (F := F) (l1 := [(15, 0), (16, pl8), (27, (nI nd9)), (31, (nI wr11)), (64, (nI at6)), (65, (nI ne)), (66, (nI lk10)), (15, (nI fa364)), (16, pl365), (64, (nI at6))]) (l2 := [(15, (nI fa364)), (16, pl365), (27, (nI nd9)), (31, (nI wr11)), (64, (nI at6)), (65, (nI ne)), (66, (nI lk10))]) (V := [(nI fa364), pl365, (nI nd9), (nI wr11), (nI at6), (nI ne), (nI lk10), (nI fa364), pl365, (nI at6), (nI fa364), pl365, (nI nd9), (nI wr11), (nI at6), (nI ne), (nI lk10)]) rfl rfl (show (updA (updA X13 2 K) 2 K) = (updA X13 2 K) from updsA_eq2 (F := X13) (l1 := [(2, K), (2, K)]) (l2 := [(2, K)]) (V := [K, K, K]) rfl rfl) hP
                have hD : va_D A (mW G h0 a (upd (upd (upd (upd (upd (upd (upd F 15 (nI fa364)) 16 pl365) 27 (nI nd9)) 31 (nI wr11)) 64 (nI at6)) 65 (nI ne)) 66 (nI lk10)) (updA X13 2 K)) := mW_D hD
                refine W.widen (k := 0) (n := 0) (Nat.le_of_ble_eq_true rfl) (Nat.le_of_ble_eq_true rfl) ?_
                refine W.eq (g2 := F0 m 105 ls []) rfl ?_
                refine lv_iconst (v := 0) hx hb dX12_simple_105 (by decide) ?_
                have hz370 : at0 ≤ at6 := (by omega)
                have hz371 : at6 ≤ T := (by omega)
                have hz372 : fa364 ≤ 100 := (by omega)
                have hz373 : nd ≤ nd9 := (by omega)
                have hz374 : nd9 + 2 * at0 ≤ nd + 2 * at6 + 1 + 100000 * fa364 := (by omega)
                have hz375 : nd9 + 2 * at0 ≤ nd + 2 * at6 + (40 * (21 - ne) + 5) := (by omega)
                have hz376 : wr ≤ wr11 := (by omega)
                have hz377 : wr11 + at0 ≤ wr + at6 := (by omega)
                have hz378 : lk ≤ lk10 := (by omega)
                have hz379 : lk10 ≤ 60 + 100 * fa364 := (by omega)
                have hz380 : at0 + 1 ≤ at6 + fa364 := (by omega)
                have hz381 : 0 ≤ nd9 := (by omega)
                have hz382 : Kp B X13 wr11 T := hkp28
                have hz383 : If (fa364 = 0) (Low B X13 nd wr ∧ Frs K T wr11 X13 nd nd9 20000 [(0, 280)] ∧ kcl 15 (X13 9 0) = true) := (fun e => absurd e (by omega))
                have hP : va_P G.1 pCl (mW G h0 a (upd (upd (upd (upd (upd (upd (upd F 15 (nI fa364)) 16 pl365) 27 (nI nd9)) 31 (nI wr11)) 64 (nI at6)) 65 (nI ne)) 66 (nI lk10)) (updA X13 2 K)) _ := hP
                have hD : va_D A (mW G h0 a (upd (upd (upd (upd (upd (upd (upd F 15 (nI fa364)) 16 pl365) 27 (nI nd9)) 31 (nI wr11)) 64 (nI at6)) 65 (nI ne)) 66 (nI lk10)) (updA X13 2 K)) := mW_D hD
                exact W.iret (v := 0) hx hb hr (fun t9 ht9 hW9 => ⟨⟨_, (at6, fa364, pl365, nd9, lk10, wr11, 0, X13), rfl, ⟨rfl, hz370, hz371, hz372, hz373, hz374, hz375, hz376, hz377, hz378, hz379, hz380, hz381, hz382, hz383⟩, by rw [ht9]; exact hP, hD⟩, hS.F ht9⟩) hS.2.2 dX12_simple_106
        · have hc384 : kcl 12 (X13 9 r12) = true := (by rw [show X13 9 r12 = _ from c278]; decide)
          refine lv_aload_n hx hb dX12_simple_48 rfl (lv_at hl 3 rfl) ?_
          refine r_get (v := .int (nI at6)) hx hb hown hq hE hP 64 343 tFX12_64 (by decide) pw_1592 rfl dX12_simple_49 ?_
          refine lv_istore (lv' := [(5, .int (nI at6)), (4, .int ((X13 9) r12)), (3, .int (nI r12)), (2, .int (nI at0)), (0, .ref h0), (1, .int 1)]) hx hb dX12_simple_52 hl (by decide) rfl (fun ls hl => ?_)
          refine lv_aload_n hx hb dX12_simple_54 rfl (lv_at hl 4 rfl) ?_
          refine lv_bipush (v := 61) hx hb dX12_simple_55 (by decide) ?_
          have hP : va_P G.1 pCl (mW G h0 a (upd (upd (upd (upd (upd (upd (upd (upd (upd F 15 0) 16 pl8) 27 (nI nd9)) 31 (nI wr11)) 64 (nI at6)) 65 (nI ne)) 66 (nI lk10)) 15 (nI 0)) 64 (nI at6)) (updA (updA X13 2 K) 2 K)) _ := mW_to (F := F) (l1 := [(15, 0), (16, pl8), (27, (nI nd9)), (31, (nI wr11)), (64, (nI at6)), (65, (nI ne)), (66, (nI lk10))]) (l2 := [(15, 0), (16, pl8), (27, (nI nd9)), (31, (nI wr11)), (64, (nI at6)), (65, (nI ne)), (66, (nI lk10)), (15, (nI 0)), (64, (nI at6))]) (V := [(nI 0), pl8, (nI nd9), (nI wr11), (nI at6), (nI ne), (nI lk10), (nI 0), pl8, (nI nd9), (nI wr11), (nI at6), (nI ne), (nI lk10), (nI 0), (nI at6)]) rfl rfl (show (updA X13 2 K) = (updA (updA X13 2 K) 2 K) from updsA_eq2 (F := X13) (l1 := [(2, K)]) (l2 := [(2, K), (2, K)]) (V := [K, K, K]) rfl rfl) hP
          have hD : va_D A (mW G h0 a (upd (upd (upd (upd (upd (upd (upd (upd (upd F 15 0) 16 pl8) 27 (nI nd9)) 31 (nI wr11)) 64 (nI at6)) 65 (nI ne)) 66 (nI lk10)) 15 (nI 0)) 64 (nI at6)) (updA (updA X13 2 K) 2 K)) := mW_D hD
          refine pc_V0 (G := G) (As := [.int 61]) (rest := []) hx hb hml hown hq hE hX pX0_al hP hD hS hA hl.1 (R_take l G h0 a (upd (upd (upd (upd (upd (upd (upd F 15 0) 16 pl8) 27 (nI nd9)) 31 (nI wr11)) 64 (nI at6)) 65 (nI ne)) 66 (nI lk10)) (updA X13 2 K) at6 T 0 K 61 (by omega) (by omega) hK (by omega) (by decide) (by decide)) (gV pw_1614 pw_1615 pw_1616 pw_1523 pw_1601) hV_X12_take 0 9 rfl rfl rfl rfl (Nat.le_of_ble_eq_true rfl) dX12_simple_57 ⟨Nat.le_of_ble_eq_true rfl, Nat.le_of_ble_eq_true rfl⟩ ⟨(by show 4 + 1 ≤ (26 * n + 30); omega), (by show 8 + (2 + 11) + 103 ≤ (2000 * n + 3000); omega)⟩ (fun v387 u385 H locs hw386 hP hD hS => ?_)
          obtain ⟨at388, fa389, pl390⟩ := u385
          obtain ⟨hw386, h391, h392, h393, h394, h395, h396, h397, h398⟩ := hw386
          have h391 : at6 ≤ at388 := h391
          have h392 : at388 ≤ T := h392
          have h393 : 0 ≤ fa389 := h393
          have h394 : fa389 ≤ 100 := h394
          have h395 : If (0 < 0) (at388 = at6 ∧ fa389 = 0) := h395
          have h396 : at388 ≤ at6 + 1 := h396
          have h397 : at6 + 1 ≤ at388 + fa389 := h397
          have h398 : If (fa389 = 0) (K at6 = 61) := h398
          obtain rfl : v387 = none := hw386
          have hP : va_P G.1 pCl (mW G h0 a (upd (upd (upd (upd (upd (upd (upd F 15 (nI fa389)) 16 pl390) 27 (nI nd9)) 31 (nI wr11)) 64 (nI at388)) 65 (nI ne)) 66 (nI lk10)) (updA X13 2 K)) _ := mW_to (F := F) (l1 := [(15, 0), (16, pl8), (27, (nI nd9)), (31, (nI wr11)), (64, (nI at6)), (65, (nI ne)), (66, (nI lk10)), (15, (nI fa389)), (16, pl390), (64, (nI at388))]) (l2 := [(15, (nI fa389)), (16, pl390), (27, (nI nd9)), (31, (nI wr11)), (64, (nI at388)), (65, (nI ne)), (66, (nI lk10))]) (V := [(nI fa389), pl390, (nI nd9), (nI wr11), (nI at388), (nI ne), (nI lk10), (nI fa389), pl390, (nI at388), (nI fa389), pl390, (nI nd9), (nI wr11), (nI at388), (nI ne), (nI lk10)]) rfl rfl (show (updA (updA X13 2 K) 2 K) = (updA X13 2 K) from updsA_eq2 (F := X13) (l1 := [(2, K), (2, K)]) (l2 := [(2, K)]) (V := [K, K, K]) rfl rfl) hP
          have hD : va_D A (mW G h0 a (upd (upd (upd (upd (upd (upd (upd F 15 (nI fa389)) 16 pl390) 27 (nI nd9)) 31 (nI wr11)) 64 (nI at388)) 65 (nI ne)) 66 (nI lk10)) (updA X13 2 K)) := mW_D hD
          refine W.widen (k := 0) (n := 0) (Nat.le_of_ble_eq_true rfl) (Nat.le_of_ble_eq_true rfl) ?_
          refine W.eq (g2 := F0 m 60 ls []) rfl ?_
          rcases Nat.eq_zero_or_pos fa389 with e399 | e399
          · subst e399
            have hP : va_P G.1 pCl (mW G h0 a (upd (upd (upd (upd (upd (upd (upd F 15 0) 16 pl390) 27 (nI nd9)) 31 (nI wr11)) 64 (nI at388)) 65 (nI ne)) 66 (nI lk10)) (updA X13 2 K)) _ := hP
            have hD : va_D A (mW G h0 a (upd (upd (upd (upd (upd (upd (upd F 15 0) 16 pl390) 27 (nI nd9)) 31 (nI wr11)) 64 (nI at388)) 65 (nI ne)) 66 (nI lk10)) (updA X13 2 K)) := mW_D hD
            refine lv_aload_n hx hb dX12_simple_60 rfl (lv_at hl 4 rfl) ?_
            refine lv_bipush (v := 32) hx hb dX12_simple_61 (by decide) ?_
            refine lv_iload_n hx hb dX12_simple_63 rfl (lv_at hl 3 rfl) ?_
            refine lv_iload hx hb dX12_simple_64 (lv_at hl 0 rfl) ?_
            refine lv_iload_n hx hb dX12_simple_66 rfl (lv_at hl 2 rfl) ?_
            refine lv_aload_n hx hb dX12_simple_67 rfl (lv_at hl 4 rfl) ?_
            have hP : va_P G.1 pCl (mW G h0 a (upd (upd (upd (upd (upd (upd (upd (upd (upd (upd (upd (upd (upd F 15 0) 16 pl390) 27 (nI nd9)) 31 (nI wr11)) 64 (nI at388)) 65 (nI ne)) 66 (nI lk10)) 15 0) 27 (nI nd9)) 31 (nI wr11)) 64 (nI at388)) 65 (nI ne)) 66 (nI lk10)) (updA X13 2 K)) _ := mW_to (F := F) (l1 := [(15, 0), (16, pl390), (27, (nI nd9)), (31, (nI wr11)), (64, (nI at388)), (65, (nI ne)), (66, (nI lk10))]) (l2 := [(15, 0), (16, pl390), (27, (nI nd9)), (31, (nI wr11)), (64, (nI at388)), (65, (nI ne)), (66, (nI lk10)), (15, 0), (27, (nI nd9)), (31, (nI wr11)), (64, (nI at388)), (65, (nI ne)), (66, (nI lk10))]) (V := [0, pl390, (nI nd9), (nI wr11), (nI at388), (nI ne), (nI lk10), 0, pl390, (nI nd9), (nI wr11), (nI at388), (nI ne), (nI lk10), 0, (nI nd9), (nI wr11), (nI at388), (nI ne), (nI lk10)]) rfl rfl rfl hP
            have hD : va_D A (mW G h0 a (upd (upd (upd (upd (upd (upd (upd (upd (upd (upd (upd (upd (upd F 15 0) 16 pl390) 27 (nI nd9)) 31 (nI wr11)) 64 (nI at388)) 65 (nI ne)) 66 (nI lk10)) 15 0) 27 (nI nd9)) 31 (nI wr11)) 64 (nI at388)) 65 (nI ne)) 66 (nI lk10)) (updA X13 2 K)) := mW_D hD
            refine pc_V0 (G := G) (As := []) (rest := [.int (nI r12), .int (nI at6), .int (nI at0), .int 32, .ref h0]) hx hb hml hown hq hE hX pX0_al hP hD hS hA hl.1 (hEc h0 a (upd (upd (upd (upd (upd (upd (upd F 15 0) 16 pl390) 27 (nI nd9)) 31 (nI wr11)) 64 (nI at388)) 65 (nI ne)) 66 (nI lk10)) X13 at388 T ne nd9 wr11 lk10 K (by omega) (by omega) hK (by omega) (by omega) (by omega) (by omega) (hkp28).2 (by omega)) (gV pw_1640 pw_1641 pw_1642 pw_1523 pw_1656) hV_X12_choice 0 9 rfl rfl rfl rfl (Nat.le_of_ble_eq_true rfl) dX12_simple_68 ⟨Nat.le_of_ble_eq_true rfl, Nat.le_of_ble_eq_true rfl⟩ ⟨(by show (20 * n + 27) + 1 ≤ (26 * n + 30); omega), (by show 8 + (4 + 11) + (1000 * n + 40 * 27) ≤ (2000 * n + 3000); omega)⟩ (fun v402 u400 H locs hw401 hP hD hS => ?_)
            obtain ⟨at403, fa404, pl405, nd406, lk407, wr408, r409, X410⟩ := u400
            obtain ⟨hw401, h411, h412, h413, h414, h415, h416, h417, h418, h419, h420, h421, h422, h423, h424⟩ := hw401
            have h411 : at388 ≤ at403 := h411
            have h412 : at403 ≤ T := h412
            have h413 : fa404 ≤ 100 := h413
            have h414 : nd9 ≤ nd406 := h414
            have h415 : nd406 + 2 * at388 ≤ nd9 + 2 * at403 + 100000 * fa404 := h415
            have h416 : nd406 + 2 * at388 ≤ nd9 + 2 * at403 + 40 * (21 - ne) := h416
            have h417 : wr11 ≤ wr408 := h417
            have h418 : wr408 + at388 ≤ wr11 + at403 := h418
            have h419 : lk10 ≤ lk407 := h419
            have h420 : lk407 ≤ 60 + 100 * fa404 := h420
            have h421 : at388 + 1 ≤ at403 + fa404 := h421
            have h422 : r409 ≤ nd406 := h422
            have h423 : Kp X13 X410 wr408 T := h423
            have h424 : If (fa404 = 0) (Low X13 X410 nd9 wr11 ∧ Frs K T wr408 X410 nd9 nd406 20000 [(r409, (211 + lk407 - (10 * ne + lk10)))] ∧ kcl 1 (X410 9 r409) = true) := h424
            obtain rfl : v402 = some (.int (nI r409)) := hw401
            have hP : va_P G.1 pCl (mW G h0 a (upd (upd (upd (upd (upd (upd (upd F 15 (nI fa404)) 16 pl405) 27 (nI nd406)) 31 (nI wr408)) 64 (nI at403)) 65 (nI ne)) 66 (nI lk407)) (updA X410 2 K)) _ := mW_to (F := F) (l1 := [(15, 0), (16, pl390), (27, (nI nd9)), (31, (nI wr11)), (64, (nI at388)), (65, (nI ne)), (66, (nI lk10)), (15, (nI fa404)), (16, pl405), (27, (nI nd406)), (31, (nI wr408)), (64, (nI at403)), (65, (nI ne)), (66, (nI lk407))]) (l2 := [(15, (nI fa404)), (16, pl405), (27, (nI nd406)), (31, (nI wr408)), (64, (nI at403)), (65, (nI ne)), (66, (nI lk407))]) (V := [(nI fa404), pl405, (nI nd406), (nI wr408), (nI at403), (nI ne), (nI lk407), (nI fa404), pl405, (nI nd406), (nI wr408), (nI at403), (nI ne), (nI lk407), (nI fa404), pl405, (nI nd406), (nI wr408), (nI at403), (nI ne), (nI lk407)]) rfl rfl rfl hP
            have hD : va_D A (mW G h0 a (upd (upd (upd (upd (upd (upd (upd F 15 (nI fa404)) 16 pl405) 27 (nI nd406)) 31 (nI wr408)) 64 (nI at403)) 65 (nI ne)) 66 (nI lk407)) (updA X410 2 K)) := mW_D hD
            refine W.widen (k := 0) (n := 0) (Nat.le_of_ble_eq_true rfl) (Nat.le_of_ble_eq_true rfl) ?_
            refine W.eq (g2 := F0 m 71 ls [.int (nI r409), .int (nI r12), .int (nI at6), .int (nI at0), .int 32, .ref h0]) rfl ?_
            have hkp425 : Kp B X410 wr408 T := (Kp.trans hkp28 h423)
            rcases Nat.eq_zero_or_pos fa404 with e426 | e426
            · subst e426
              have hP : va_P G.1 pCl (mW G h0 a (upd (upd (upd (upd (upd (upd (upd F 15 0) 16 pl405) 27 (nI nd406)) 31 (nI wr408)) 64 (nI at403)) 65 (nI ne)) 66 (nI lk407)) (updA X410 2 K)) _ := hP
              have hD : va_D A (mW G h0 a (upd (upd (upd (upd (upd (upd (upd F 15 0) 16 pl405) 27 (nI nd406)) 31 (nI wr408)) 64 (nI at403)) 65 (nI ne)) 66 (nI lk407)) (updA X410 2 K)) := mW_D hD
              obtain ⟨hlw427, hf428, hc429⟩ := h424 rfl
              have hlo430 : Low B X410 nd wr := (Low.trans hlo33 hlw427 (by omega) (by omega))
              have hf431 : Frs K T wr408 X410 nd nd9 20000 [(r12, (210 + lk10 - (10 * ne + lk)))] := (Frs.same hf31 (by omega) (fun j i q1 q2 q3 q4 => (hlw427.1 j i q1 (by omega) (by omega))))
              have hc432 : kcl 12 (X410 9 r12) = true := by rw [hlw427.1 9 r12 (by omega) (by omega) (by omega)]; exact hc384
              have hm433 := Frs.mem hf428
              have hP : va_P G.1 pCl (mW G h0 a (upd (upd (upd (upd (upd (upd (upd (upd F 15 0) 16 pl405) 27 (nI nd406)) 31 (nI wr408)) 64 (nI at403)) 65 (nI ne)) 66 (nI lk407)) 27 (nI nd406)) (updA X410 2 K)) _ := mW_to (F := F) (l1 := [(15, 0), (16, pl405), (27, (nI nd406)), (31, (nI wr408)), (64, (nI at403)), (65, (nI ne)), (66, (nI lk407))]) (l2 := [(15, 0), (16, pl405), (27, (nI nd406)), (31, (nI wr408)), (64, (nI at403)), (65, (nI ne)), (66, (nI lk407)), (27, (nI nd406))]) (V := [0, pl405, (nI nd406), (nI wr408), (nI at403), (nI ne), (nI lk407), 0, pl405, (nI nd406), (nI wr408), (nI at403), (nI ne), (nI lk407), (nI nd406)]) rfl rfl rfl hP
              have hD : va_D A (mW G h0 a (upd (upd (upd (upd (upd (upd (upd (upd F 15 0) 16 pl405) 27 (nI nd406)) 31 (nI wr408)) 64 (nI at403)) 65 (nI ne)) 66 (nI lk407)) 27 (nI nd406)) (updA X410 2 K)) := mW_D hD
              refine pc_V0 (G := G) (As := [.int 32, .int (nI at0), .int (nI at6), .int (nI r12), .int (nI r409)]) (rest := []) hx hb hml hown hq hE hX pX0_al hP hD hS hA hl.1 (R_nodeB l G h0 a (upd (upd (upd (upd (upd (upd (upd F 15 0) 16 pl405) 27 (nI nd406)) 31 (nI wr408)) 64 (nI at403)) 65 (nI ne)) 66 (nI lk407)) X410 32 (nI at0) (nI at6) (nI r12) (nI r409) nd406 K (by omega)) (gV pw_1650 pw_1651 pw_1652 pw_1523 pw_1589) hV_X12_node 0 9 rfl rfl rfl rfl (Nat.le_of_ble_eq_true rfl) dX12_simple_71 ⟨Nat.le_of_ble_eq_true rfl, Nat.le_of_ble_eq_true rfl⟩ ⟨(by show 2 + 1 ≤ (26 * n + 30); omega), (by show 8 + (7 + 11) + 60 ≤ (2000 * n + 3000); omega)⟩ (fun v436 u434 H locs hw435 hP hD hS => ?_)
              obtain ⟨X437, rfl⟩ : ∃ z, z = u434 := ⟨_, rfl⟩
              obtain ⟨hw435, h438⟩ := hw435
              have h438 : NewN X410 X437 nd406 32 (nI at0) (nI at6) (nI r12) (nI r409) := h438
              obtain rfl : v436 = some (.int (nI nd406)) := hw435
              have hP : va_P G.1 pCl (mW G h0 a (upd (upd (upd (upd (upd (upd (upd F 15 0) 16 pl405) 27 (nI (nd406 + 1))) 31 (nI wr408)) 64 (nI at403)) 65 (nI ne)) 66 (nI lk407)) (updA X437 2 K)) _ := mW_to (F := F) (l1 := [(15, 0), (16, pl405), (27, (nI nd406)), (31, (nI wr408)), (64, (nI at403)), (65, (nI ne)), (66, (nI lk407)), (27, (nI (nd406 + 1)))]) (l2 := [(15, 0), (16, pl405), (27, (nI (nd406 + 1))), (31, (nI wr408)), (64, (nI at403)), (65, (nI ne)), (66, (nI lk407))]) (V := [0, pl405, (nI (nd406 + 1)), (nI wr408), (nI at403), (nI ne), (nI lk407), (nI (nd406 + 1)), 0, pl405, (nI (nd406 + 1)), (nI wr408), (nI at403), (nI ne), (nI lk407)]) rfl rfl rfl hP
              have hD : va_D A (mW G h0 a (upd (upd (upd (upd (upd (upd (upd F 15 0) 16 pl405) 27 (nI (nd406 + 1))) 31 (nI wr408)) 64 (nI at403)) 65 (nI ne)) 66 (nI lk407)) (updA X437 2 K)) := mW_D hD
              refine W.widen (k := 0) (n := 0) (Nat.le_of_ble_eq_true rfl) (Nat.le_of_ble_eq_true rfl) ?_
              refine W.eq (g2 := F0 m 74 ls [.int (nI nd406)]) rfl ?_
              have hkp439 : Kp B X437 wr408 T := (Kp.new hkp425 h438)
              have hlo440 : Low B X437 nd wr := (Low.new hlo430 h438 (by omega))
              have hf441 : Frs K T wr408 X410 nd nd406 20000 [(r12, (210 + lk10 - (10 * ne + lk))), (r409, (211 + lk407 - (10 * ne + lk10)))] := (Frs.join hf431 hf428 (by omega) (by omega) (by omega))
              have hc442 : kcl 12 (X437 9 r12) = true := by rw [h438.2.1 9 r12 (by omega)]; exact hc432
              have hc443 : kcl 1 (X437 9 r409) = true := by rw [h438.2.1 9 r409 (by omega)]; exact hc429
              have hf444 : Frs K T wr408 X437 nd (nd406 + 1) nd406 [(nd406, 280)] := (Frs.new2 (k := 32) hf441 (by omega) (by omega) (by omega) h438 rfl rfl (by omega) rfl (by decide) (by decide) (by omega) (by omega) (fun e => absurd e (by decide)) (by simp) ⟨by decide, by decide, by decide, by decide⟩ ⟨by decide, by decide, by decide, by decide⟩ hc432 hc429 (newOK.m1 (by decide)) (newOK.m1 (by decide)) (by omega) (by omega))
              have hn445 : Nd X437 nd406 32 (nI r12) (nI r409) (-1) (-1) := (NewN.toNd h438)
              have hf446 : Frs K T wr408 X437 nd (nd406 + 1) 20000 [(nd406, 280)] := (Frs.fin (k := 32) hf444 hn445 rfl (by decide) (fun _ => nI_m1 (by omega)) (fun _ => nI_m1 (by omega)) (fun h => absurd h (by decide)) (fun h => absurd h (by decide)))
              have hz447 : at0 ≤ at403 := (by omega)
              have hz448 : at403 ≤ T := (by omega)
              have hz449 : 0 ≤ 100 := (by omega)
              have hz450 : nd ≤ (nd406 + 1) := (by omega)
              have hz451 : (nd406 + 1) + 2 * at0 ≤ nd + 2 * at403 + 1 + 100000 * 0 := (by omega)
              have hz452 : (nd406 + 1) + 2 * at0 ≤ nd + 2 * at403 + (40 * (21 - ne) + 5) := (by omega)
              have hz453 : wr ≤ wr408 := (by omega)
              have hz454 : wr408 + at0 ≤ wr + at403 := (by omega)
              have hz455 : lk ≤ lk407 := (by omega)
              have hz456 : lk407 ≤ 60 + 100 * 0 := (by omega)
              have hz457 : at0 + 1 ≤ at403 + 0 := (by omega)
              have hz458 : nd406 ≤ (nd406 + 1) := (by omega)
              have hz459 : Kp B X437 wr408 T := hkp439
              have hz460 : If (0 = 0) (Low B X437 nd wr ∧ Frs K T wr408 X437 nd (nd406 + 1) 20000 [(nd406, 280)] ∧ kcl 15 (X437 9 nd406) = true) := (fun _ => ⟨hlo440, Frs.up hf446 (by omega), (by rw [hn445.1]; decide)⟩)
              have hP : va_P G.1 pCl (mW G h0 a (upd (upd (upd (upd (upd (upd (upd F 15 (nI 0)) 16 pl405) 27 (nI (nd406 + 1))) 31 (nI wr408)) 64 (nI at403)) 65 (nI ne)) 66 (nI lk407)) (updA X437 2 K)) _ := mW_to (F := F) (l1 := [(15, 0), (16, pl405), (27, (nI (nd406 + 1))), (31, (nI wr408)), (64, (nI at403)), (65, (nI ne)), (66, (nI lk407))]) (l2 := [(15, (nI 0)), (16, pl405), (27, (nI (nd406 + 1))), (31, (nI wr408)), (64, (nI at403)), (65, (nI ne)), (66, (nI lk407))]) (V := [(nI 0), pl405, (nI (nd406 + 1)), (nI wr408), (nI at403), (nI ne), (nI lk407), (nI 0), pl405, (nI (nd406 + 1)), (nI wr408), (nI at403), (nI ne), (nI lk407)]) rfl rfl rfl hP
              have hD : va_D A (mW G h0 a (upd (upd (upd (upd (upd (upd (upd F 15 (nI 0)) 16 pl405) 27 (nI (nd406 + 1))) 31 (nI wr408)) 64 (nI at403)) 65 (nI ne)) 66 (nI lk407)) (updA X437 2 K)) := mW_D hD
              exact W.iret (v := (nI nd406)) hx hb hr (fun t9 ht9 hW9 => ⟨⟨_, (at403, 0, pl405, (nd406 + 1), lk407, wr408, nd406, X437), rfl, ⟨rfl, hz447, hz448, hz449, hz450, hz451, hz452, hz453, hz454, hz455, hz456, hz457, hz458, hz459, hz460⟩, by rw [ht9]; exact hP, hD⟩, hS.F ht9⟩) hS.2.2 dX12_simple_74
            · have e426 := e426
              have hP : va_P G.1 pCl (mW G h0 a (upd (upd (upd (upd (upd (upd (upd (upd F 15 (nI fa404)) 16 pl405) 27 (nI nd406)) 31 (nI wr408)) 64 (nI at403)) 65 (nI ne)) 66 (nI lk407)) 27 (nI nd406)) (updA X410 2 K)) _ := mW_to (F := F) (l1 := [(15, (nI fa404)), (16, pl405), (27, (nI nd406)), (31, (nI wr408)), (64, (nI at403)), (65, (nI ne)), (66, (nI lk407))]) (l2 := [(15, (nI fa404)), (16, pl405), (27, (nI nd406)), (31, (nI wr408)), (64, (nI at403)), (65, (nI ne)), (66, (nI lk407)), (27, (nI nd406))]) (V := [(nI fa404), pl405, (nI nd406), (nI wr408), (nI at403), (nI ne), (nI lk407), (nI fa404), pl405, (nI nd406), (nI wr408), (nI at403), (nI ne), (nI lk407), (nI nd406)]) rfl rfl rfl hP
              have hD : va_D A (mW G h0 a (upd (upd (upd (upd (upd (upd (upd (upd F 15 (nI fa404)) 16 pl405) 27 (nI nd406)) 31 (nI wr408)) 64 (nI at403)) 65 (nI ne)) 66 (nI lk407)) 27 (nI nd406)) (updA X410 2 K)) := mW_D hD
              refine pc_V0 (G := G) (As := [.int 32, .int (nI at0), .int (nI at6), .int (nI r12), .int (nI r409)]) (rest := []) hx hb hml hown hq hE hX pX0_al hP hD hS hA hl.1 (R_nodeB l G h0 a (upd (upd (upd (upd (upd (upd (upd F 15 (nI fa404)) 16 pl405) 27 (nI nd406)) 31 (nI wr408)) 64 (nI at403)) 65 (nI ne)) 66 (nI lk407)) X410 32 (nI at0) (nI at6) (nI r12) (nI r409) nd406 K (by omega)) (gV pw_1650 pw_1651 pw_1652 pw_1523 pw_1589) hV_X12_node 0 9 rfl rfl rfl rfl (Nat.le_of_ble_eq_true rfl) dX12_simple_71 ⟨Nat.le_of_ble_eq_true rfl, Nat.le_of_ble_eq_true rfl⟩ ⟨(by show 2 + 1 ≤ (26 * n + 30); omega), (by show 8 + (7 + 11) + 60 ≤ (2000 * n + 3000); omega)⟩ (fun v463 u461 H locs hw462 hP hD hS => ?_)
              obtain ⟨X464, rfl⟩ : ∃ z, z = u461 := ⟨_, rfl⟩
              obtain ⟨hw462, h465⟩ := hw462
              have h465 : NewN X410 X464 nd406 32 (nI at0) (nI at6) (nI r12) (nI r409) := h465
              obtain rfl : v463 = some (.int (nI nd406)) := hw462
              have hP : va_P G.1 pCl (mW G h0 a (upd (upd (upd (upd (upd (upd (upd F 15 (nI fa404)) 16 pl405) 27 (nI (nd406 + 1))) 31 (nI wr408)) 64 (nI at403)) 65 (nI ne)) 66 (nI lk407)) (updA X464 2 K)) _ := mW_to (F := F) (l1 := [(15, (nI fa404)), (16, pl405), (27, (nI nd406)), (31, (nI wr408)), (64, (nI at403)), (65, (nI ne)), (66, (nI lk407)), (27, (nI (nd406 + 1)))]) (l2 := [(15, (nI fa404)), (16, pl405), (27, (nI (nd406 + 1))), (31, (nI wr408)), (64, (nI at403)), (65, (nI ne)), (66, (nI lk407))]) (V := [(nI fa404), pl405, (nI (nd406 + 1)), (nI wr408), (nI at403), (nI ne), (nI lk407), (nI (nd406 + 1)), (nI fa404), pl405, (nI (nd406 + 1)), (nI wr408), (nI at403), (nI ne), (nI lk407)]) rfl rfl rfl hP
              have hD : va_D A (mW G h0 a (upd (upd (upd (upd (upd (upd (upd F 15 (nI fa404)) 16 pl405) 27 (nI (nd406 + 1))) 31 (nI wr408)) 64 (nI at403)) 65 (nI ne)) 66 (nI lk407)) (updA X464 2 K)) := mW_D hD
              refine W.widen (k := 0) (n := 0) (Nat.le_of_ble_eq_true rfl) (Nat.le_of_ble_eq_true rfl) ?_
              refine W.eq (g2 := F0 m 74 ls [.int (nI nd406)]) rfl ?_
              have hkp466 : Kp B X464 wr408 T := (Kp.new hkp425 h465)
              have hz467 : at0 ≤ at403 := (by omega)
              have hz468 : at403 ≤ T := (by omega)
              have hz469 : fa404 ≤ 100 := (by omega)
              have hz470 : nd ≤ (nd406 + 1) := (by omega)
              have hz471 : (nd406 + 1) + 2 * at0 ≤ nd + 2 * at403 + 1 + 100000 * fa404 := (by omega)
              have hz472 : (nd406 + 1) + 2 * at0 ≤ nd + 2 * at403 + (40 * (21 - ne) + 5) := (by omega)
              have hz473 : wr ≤ wr408 := (by omega)
              have hz474 : wr408 + at0 ≤ wr + at403 := (by omega)
              have hz475 : lk ≤ lk407 := (by omega)
              have hz476 : lk407 ≤ 60 + 100 * fa404 := (by omega)
              have hz477 : at0 + 1 ≤ at403 + fa404 := (by omega)
              have hz478 : nd406 ≤ (nd406 + 1) := (by omega)
              have hz479 : Kp B X464 wr408 T := hkp466
              have hz480 : If (fa404 = 0) (Low B X464 nd wr ∧ Frs K T wr408 X464 nd (nd406 + 1) 20000 [(nd406, 280)] ∧ kcl 15 (X464 9 nd406) = true) := (fun e => absurd e (by omega))
              have hP : va_P G.1 pCl (mW G h0 a (upd (upd (upd (upd (upd (upd (upd F 15 (nI fa404)) 16 pl405) 27 (nI (nd406 + 1))) 31 (nI wr408)) 64 (nI at403)) 65 (nI ne)) 66 (nI lk407)) (updA X464 2 K)) _ := hP
              have hD : va_D A (mW G h0 a (upd (upd (upd (upd (upd (upd (upd F 15 (nI fa404)) 16 pl405) 27 (nI (nd406 + 1))) 31 (nI wr408)) 64 (nI at403)) 65 (nI ne)) 66 (nI lk407)) (updA X464 2 K)) := mW_D hD
              exact W.iret (v := (nI nd406)) hx hb hr (fun t9 ht9 hW9 => ⟨⟨_, (at403, fa404, pl405, (nd406 + 1), lk407, wr408, nd406, X464), rfl, ⟨rfl, hz467, hz468, hz469, hz470, hz471, hz472, hz473, hz474, hz475, hz476, hz477, hz478, hz479, hz480⟩, by rw [ht9]; exact hP, hD⟩, hS.F ht9⟩) hS.2.2 dX12_simple_74
          · have e399 := e399
            refine lv_aload_n hx hb dX12_simple_60 rfl (lv_at hl 4 rfl) ?_
            refine lv_bipush (v := 32) hx hb dX12_simple_61 (by decide) ?_
            refine lv_iload_n hx hb dX12_simple_63 rfl (lv_at hl 3 rfl) ?_
            refine lv_iload hx hb dX12_simple_64 (lv_at hl 0 rfl) ?_
            refine lv_iload_n hx hb dX12_simple_66 rfl (lv_at hl 2 rfl) ?_
            refine lv_aload_n hx hb dX12_simple_67 rfl (lv_at hl 4 rfl) ?_
            have hP : va_P G.1 pCl (mW G h0 a (upd (upd (upd (upd (upd (upd (upd (upd (upd F 15 (nI fa389)) 16 pl390) 27 (nI nd9)) 31 (nI wr11)) 64 (nI at388)) 65 (nI ne)) 66 (nI lk10)) 15 (nI fa389)) 64 (nI at388)) (updA (updA X13 2 K) 2 K)) _ := mW_to (F := F) (l1 := [(15, (nI fa389)), (16, pl390), (27, (nI nd9)), (31, (nI wr11)), (64, (nI at388)), (65, (nI ne)), (66, (nI lk10))]) (l2 := [(15, (nI fa389)), (16, pl390), (27, (nI nd9)), (31, (nI wr11)), (64, (nI at388)), (65, (nI ne)), (66, (nI lk10)), (15, (nI fa389)), (64, (nI at388))]) (V := [(nI fa389), pl390, (nI nd9), (nI wr11), (nI at388), (nI ne), (nI lk10), (nI fa389), pl390, (nI nd9), (nI wr11), (nI at388), (nI ne), (nI lk10), (nI fa389), (nI at388)]) rfl rfl (show (updA X13 2 K) = (updA (updA X13 2 K) 2 K) from updsA_eq2 (F := X13) (l1 := [(2, K)]) (l2 := [(2, K), (2, K)]) (V := [K, K, K]) rfl rfl) hP
            have hD : va_D A (mW G h0 a (upd (upd (upd (upd (upd (upd (upd (upd (upd F 15 (nI fa389)) 16 pl390) 27 (nI nd9)) 31 (nI wr11)) 64 (nI at388)) 65 (nI ne)) 66 (nI lk10)) 15 (nI fa389)) 64 (nI at388)) (updA (updA X13 2 K) 2 K)) := mW_D hD
            refine pc_V0 (G := G) (As := []) (rest := [.int (nI r12), .int (nI at6), .int (nI at0), .int 32, .ref h0]) hx hb hml hown hq hE hX pX0_al hP hD hS hA hl.1 (RF_choice l G h0 a (upd (upd (upd (upd (upd (upd (upd F 15 (nI fa389)) 16 pl390) 27 (nI nd9)) 31 (nI wr11)) 64 (nI at388)) 65 (nI ne)) 66 (nI lk10)) (updA X13 2 K) at388 T fa389 K (by omega) (by omega) hK (by omega) e399) (gV pw_1640 pw_1641 pw_1642 pw_1523 pw_1656) hV_X12_choice 0 9 rfl rfl rfl rfl (Nat.le_of_ble_eq_true rfl) dX12_simple_68 ⟨Nat.le_of_ble_eq_true rfl, Nat.le_of_ble_eq_true rfl⟩ ⟨(by show 16 + 1 ≤ (26 * n + 30); omega), (by show 8 + (4 + 11) + 405 ≤ (2000 * n + 3000); omega)⟩ (fun v483 u481 H locs hw482 hP hD hS => ?_)
            obtain rfl : v483 = some (.int 0) := hw482
            have hP : va_P G.1 pCl (mW G h0 a (upd (upd (upd (upd (upd (upd (upd F 15 (nI fa389)) 16 pl390) 27 (nI nd9)) 31 (nI wr11)) 64 (nI at388)) 65 (nI ne)) 66 (nI lk10)) (updA X13 2 K)) _ := mW_to (F := F) (l1 := [(15, (nI fa389)), (16, pl390), (27, (nI nd9)), (31, (nI wr11)), (64, (nI at388)), (65, (nI ne)), (66, (nI lk10)), (15, (nI fa389)), (64, (nI at388))]) (l2 := [(15, (nI fa389)), (16, pl390), (27, (nI nd9)), (31, (nI wr11)), (64, (nI at388)), (65, (nI ne)), (66, (nI lk10))]) (V := [(nI fa389), pl390, (nI nd9), (nI wr11), (nI at388), (nI ne), (nI lk10), (nI fa389), (nI at388), (nI fa389), pl390, (nI nd9), (nI wr11), (nI at388), (nI ne), (nI lk10)]) rfl rfl (show (updA (updA X13 2 K) 2 K) = (updA X13 2 K) from updsA_eq2 (F := X13) (l1 := [(2, K), (2, K)]) (l2 := [(2, K)]) (V := [K, K, K]) rfl rfl) hP
            have hD : va_D A (mW G h0 a (upd (upd (upd (upd (upd (upd (upd F 15 (nI fa389)) 16 pl390) 27 (nI nd9)) 31 (nI wr11)) 64 (nI at388)) 65 (nI ne)) 66 (nI lk10)) (updA X13 2 K)) := mW_D hD
            refine W.widen (k := 0) (n := 0) (Nat.le_of_ble_eq_true rfl) (Nat.le_of_ble_eq_true rfl) ?_
            refine W.eq (g2 := F0 m 71 ls [.int 0, .int (nI r12), .int (nI at6), .int (nI at0), .int 32, .ref h0]) rfl ?_
            have hP : va_P G.1 pCl (mW G h0 a (upd (upd (upd (upd (upd (upd (upd (upd F 15 (nI fa389)) 16 pl390) 27 (nI nd9)) 31 (nI wr11)) 64 (nI at388)) 65 (nI ne)) 66 (nI lk10)) 27 (nI nd9)) (updA X13 2 K)) _ := mW_to (F := F) (l1 := [(15, (nI fa389)), (16, pl390), (27, (nI nd9)), (31, (nI wr11)), (64, (nI at388)), (65, (nI ne)), (66, (nI lk10))]) (l2 := [(15, (nI fa389)), (16, pl390), (27, (nI nd9)), (31, (nI wr11)), (64, (nI at388)), (65, (nI ne)), (66, (nI lk10)), (27, (nI nd9))]) (V := [(nI fa389), pl390, (nI nd9), (nI wr11), (nI at388), (nI ne), (nI lk10), (nI fa389), pl390, (nI nd9), (nI wr11), (nI at388), (nI ne), (nI lk10), (nI nd9)]) rfl rfl rfl hP
            have hD : va_D A (mW G h0 a (upd (upd (upd (upd (upd (upd (upd (upd F 15 (nI fa389)) 16 pl390) 27 (nI nd9)) 31 (nI wr11)) 64 (nI at388)) 65 (nI ne)) 66 (nI lk10)) 27 (nI nd9)) (updA X13 2 K)) := mW_D hD
            refine pc_V0 (G := G) (As := [.int 32, .int (nI at0), .int (nI at6), .int (nI r12), .int 0]) (rest := []) hx hb hml hown hq hE hX pX0_al hP hD hS hA hl.1 (R_nodeB l G h0 a (upd (upd (upd (upd (upd (upd (upd F 15 (nI fa389)) 16 pl390) 27 (nI nd9)) 31 (nI wr11)) 64 (nI at388)) 65 (nI ne)) 66 (nI lk10)) X13 32 (nI at0) (nI at6) (nI r12) 0 nd9 K (by omega)) (gV pw_1650 pw_1651 pw_1652 pw_1523 pw_1589) hV_X12_node 0 9 rfl rfl rfl rfl (Nat.le_of_ble_eq_true rfl) dX12_simple_71 ⟨Nat.le_of_ble_eq_true rfl, Nat.le_of_ble_eq_true rfl⟩ ⟨(by show 2 + 1 ≤ (26 * n + 30); omega), (by show 8 + (7 + 11) + 60 ≤ (2000 * n + 3000); omega)⟩ (fun v486 u484 H locs hw485 hP hD hS => ?_)
            obtain ⟨X487, rfl⟩ : ∃ z, z = u484 := ⟨_, rfl⟩
            obtain ⟨hw485, h488⟩ := hw485
            have h488 : NewN X13 X487 nd9 32 (nI at0) (nI at6) (nI r12) 0 := h488
            obtain rfl : v486 = some (.int (nI nd9)) := hw485
            have hP : va_P G.1 pCl (mW G h0 a (upd (upd (upd (upd (upd (upd (upd F 15 (nI fa389)) 16 pl390) 27 (nI (nd9 + 1))) 31 (nI wr11)) 64 (nI at388)) 65 (nI ne)) 66 (nI lk10)) (updA X487 2 K)) _ := mW_to (F := F) (l1 := [(15, (nI fa389)), (16, pl390), (27, (nI nd9)), (31, (nI wr11)), (64, (nI at388)), (65, (nI ne)), (66, (nI lk10)), (27, (nI (nd9 + 1)))]) (l2 := [(15, (nI fa389)), (16, pl390), (27, (nI (nd9 + 1))), (31, (nI wr11)), (64, (nI at388)), (65, (nI ne)), (66, (nI lk10))]) (V := [(nI fa389), pl390, (nI (nd9 + 1)), (nI wr11), (nI at388), (nI ne), (nI lk10), (nI (nd9 + 1)), (nI fa389), pl390, (nI (nd9 + 1)), (nI wr11), (nI at388), (nI ne), (nI lk10)]) rfl rfl rfl hP
            have hD : va_D A (mW G h0 a (upd (upd (upd (upd (upd (upd (upd F 15 (nI fa389)) 16 pl390) 27 (nI (nd9 + 1))) 31 (nI wr11)) 64 (nI at388)) 65 (nI ne)) 66 (nI lk10)) (updA X487 2 K)) := mW_D hD
            refine W.widen (k := 0) (n := 0) (Nat.le_of_ble_eq_true rfl) (Nat.le_of_ble_eq_true rfl) ?_
            refine W.eq (g2 := F0 m 74 ls [.int (nI nd9)]) rfl ?_
            have hkp489 : Kp B X487 wr11 T := (Kp.new hkp28 h488)
            have hz490 : at0 ≤ at388 := (by omega)
            have hz491 : at388 ≤ T := (by omega)
            have hz492 : fa389 ≤ 100 := (by omega)
            have hz493 : nd ≤ (nd9 + 1) := (by omega)
            have hz494 : (nd9 + 1) + 2 * at0 ≤ nd + 2 * at388 + 1 + 100000 * fa389 := (by omega)
            have hz495 : (nd9 + 1) + 2 * at0 ≤ nd + 2 * at388 + (40 * (21 - ne) + 5) := (by omega)
            have hz496 : wr ≤ wr11 := (by omega)
            have hz497 : wr11 + at0 ≤ wr + at388 := (by omega)
            have hz498 : lk ≤ lk10 := (by omega)
            have hz499 : lk10 ≤ 60 + 100 * fa389 := (by omega)
            have hz500 : at0 + 1 ≤ at388 + fa389 := (by omega)
            have hz501 : nd9 ≤ (nd9 + 1) := (by omega)
            have hz502 : Kp B X487 wr11 T := hkp489
            have hz503 : If (fa389 = 0) (Low B X487 nd wr ∧ Frs K T wr11 X487 nd (nd9 + 1) 20000 [(nd9, 280)] ∧ kcl 15 (X487 9 nd9) = true) := (fun e => absurd e (by omega))
            have hP : va_P G.1 pCl (mW G h0 a (upd (upd (upd (upd (upd (upd (upd F 15 (nI fa389)) 16 pl390) 27 (nI (nd9 + 1))) 31 (nI wr11)) 64 (nI at388)) 65 (nI ne)) 66 (nI lk10)) (updA X487 2 K)) _ := hP
            have hD : va_D A (mW G h0 a (upd (upd (upd (upd (upd (upd (upd F 15 (nI fa389)) 16 pl390) 27 (nI (nd9 + 1))) 31 (nI wr11)) 64 (nI at388)) 65 (nI ne)) 66 (nI lk10)) (updA X487 2 K)) := mW_D hD
            exact W.iret (v := (nI nd9)) hx hb hr (fun t9 ht9 hW9 => ⟨⟨_, (at388, fa389, pl390, (nd9 + 1), lk10, wr11, nd9, X487), rfl, ⟨rfl, hz490, hz491, hz492, hz493, hz494, hz495, hz496, hz497, hz498, hz499, hz500, hz501, hz502, hz503⟩, by rw [ht9]; exact hP, hD⟩, hS.F ht9⟩) hS.2.2 dX12_simple_74
  · have e29 := e29
    refine lv_istore_n (lv' := [(3, .int (nI r12)), (2, .int (nI at0)), (0, .ref h0), (1, .int 1)]) hx hb dX12_simple_9 rfl hl (by decide) rfl (fun ls hl => ?_)
    refine lv_aload_n hx hb dX12_simple_10 rfl (lv_at hl 2 rfl) ?_
    refine r_get (v := .int (nI fa7)) hx hb hown hq hE hP 15 350 tFX12_15 (by decide) pw_1594 rfl dX12_simple_11 ?_
    refine lv_if_le (tgt := 19) hx hb dX12_simple_14 (by decide) (fun c504 => (by have n505 : fa7 ≤ 0 := (nI_leI (a := fa7) (b := 0) (by omega) (by omega)).mp c504; omega)) (fun c504 => ?_)
    refine lv_iconst (v := 0) hx hb dX12_simple_17 (by decide) ?_
    have hz506 : at0 ≤ at6 := (by omega)
    have hz507 : at6 ≤ T := (by omega)
    have hz508 : fa7 ≤ 100 := (by omega)
    have hz509 : nd ≤ nd9 := (by omega)
    have hz510 : nd9 + 2 * at0 ≤ nd + 2 * at6 + 1 + 100000 * fa7 := (by omega)
    have hz511 : nd9 + 2 * at0 ≤ nd + 2 * at6 + (40 * (21 - ne) + 5) := (by omega)
    have hz512 : wr ≤ wr11 := (by omega)
    have hz513 : wr11 + at0 ≤ wr + at6 := (by omega)
    have hz514 : lk ≤ lk10 := (by omega)
    have hz515 : lk10 ≤ 60 + 100 * fa7 := (by omega)
    have hz516 : at0 + 1 ≤ at6 + fa7 := (by omega)
    have hz517 : 0 ≤ nd9 := (by omega)
    have hz518 : Kp B X13 wr11 T := hkp28
    have hz519 : If (fa7 = 0) (Low B X13 nd wr ∧ Frs K T wr11 X13 nd nd9 20000 [(0, 280)] ∧ kcl 15 (X13 9 0) = true) := (fun e => absurd e (by omega))
    have hP : va_P G.1 pCl (mW G h0 a (upd (upd (upd (upd (upd (upd (upd F 15 (nI fa7)) 16 pl8) 27 (nI nd9)) 31 (nI wr11)) 64 (nI at6)) 65 (nI ne)) 66 (nI lk10)) (updA X13 2 K)) _ := hP
    have hD : va_D A (mW G h0 a (upd (upd (upd (upd (upd (upd (upd F 15 (nI fa7)) 16 pl8) 27 (nI nd9)) 31 (nI wr11)) 64 (nI at6)) 65 (nI ne)) 66 (nI lk10)) (updA X13 2 K)) := mW_D hD
    exact W.iret (v := 0) hx hb hr (fun t9 ht9 hW9 => ⟨⟨_, (at6, fa7, pl8, nd9, lk10, wr11, 0, X13), rfl, ⟨rfl, hz506, hz507, hz508, hz509, hz510, hz511, hz512, hz513, hz514, hz515, hz516, hz517, hz518, hz519⟩, by rw [ht9]; exact hP, hD⟩, hS.F ht9⟩) hS.2.2 dX12_simple_18

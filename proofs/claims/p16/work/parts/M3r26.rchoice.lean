theorem dX12_choice_17 : decode cX12_choice 17 = .ok (.aload_n 0, 1) := by decide +kernel
theorem dX12_choice_18 : decode cX12_choice 18 = .ok (.getfield 343, 3) := by decide +kernel
theorem dX12_choice_21 : decode cX12_choice 21 = .ok (.istore_n 2, 1) := by decide +kernel
theorem dX12_choice_22 : decode cX12_choice 22 = .ok (.aload_n 0, 1) := by decide +kernel
theorem dX12_choice_23 : decode cX12_choice 23 = .ok (.invokevirtual 441, 3) := by decide +kernel
theorem dX12_choice_26 : decode cX12_choice 26 = .ok (.aload_n 0, 1) := by decide +kernel
theorem dX12_choice_27 : decode cX12_choice 27 = .ok (.dup, 1) := by decide +kernel
theorem dX12_choice_28 : decode cX12_choice 28 = .ok (.getfield 343, 3) := by decide +kernel
theorem dX12_choice_31 : decode cX12_choice 31 = .ok (.iconst 1, 1) := by decide +kernel
theorem dX12_choice_32 : decode cX12_choice 32 = .ok (.iadd, 1) := by decide +kernel
theorem dX12_choice_33 : decode cX12_choice 33 = .ok (.putfield 343, 3) := by decide +kernel
theorem dX12_choice_36 : decode cX12_choice 36 = .ok (.aload_n 0, 1) := by decide +kernel
theorem dX12_choice_37 : decode cX12_choice 37 = .ok (.bipush 23, 2) := by decide +kernel
theorem dX12_choice_39 : decode cX12_choice 39 = .ok (.aload_n 0, 1) := by decide +kernel
theorem dX12_choice_40 : decode cX12_choice 40 = .ok (.getfield 41, 3) := by decide +kernel
theorem dX12_choice_43 : decode cX12_choice 43 = .ok (.iload_n 1, 1) := by decide +kernel
theorem dX12_choice_44 : decode cX12_choice 44 = .ok (.iaload, 1) := by decide +kernel
theorem dX12_choice_45 : decode cX12_choice 45 = .ok (.iload_n 2, 1) := by decide +kernel
theorem dX12_choice_46 : decode cX12_choice 46 = .ok (.iload_n 1, 1) := by decide +kernel
theorem dX12_choice_47 : decode cX12_choice 47 = .ok (.aload_n 0, 1) := by decide +kernel
theorem dX12_choice_48 : decode cX12_choice 48 = .ok (.invokevirtual 447, 3) := by decide +kernel
theorem dX12_choice_51 : decode cX12_choice 51 = .ok (.invokevirtual 428, 3) := by decide +kernel
theorem dX12_choice_54 : decode cX12_choice 54 = .ok (.istore_n 3, 1) := by decide +kernel
theorem dX12_choice_55 : decode cX12_choice 55 = .ok (.aload_n 0, 1) := by decide +kernel
theorem dX12_choice_56 : decode cX12_choice 56 = .ok (.bipush 58, 2) := by decide +kernel
theorem dX12_choice_58 : decode cX12_choice 58 = .ok (.invokevirtual 369, 3) := by decide +kernel
theorem dX12_choice_61 : decode cX12_choice 61 = .ok (.aload_n 0, 1) := by decide +kernel
theorem dX12_choice_62 : decode cX12_choice 62 = .ok (.getfield 53, 3) := by decide +kernel
theorem dX12_choice_65 : decode cX12_choice 65 = .ok (.iload_n 3, 1) := by decide +kernel
theorem dX12_choice_66 : decode cX12_choice 66 = .ok (.aload_n 0, 1) := by decide +kernel
theorem dX12_choice_67 : decode cX12_choice 67 = .ok (.invokevirtual 447, 3) := by decide +kernel
theorem dX12_choice_70 : decode cX12_choice 70 = .ok (.iastore, 1) := by decide +kernel
theorem dX12_choice_71 : decode cX12_choice 71 = .ok (.aload_n 0, 1) := by decide +kernel
theorem dX12_choice_72 : decode cX12_choice 72 = .ok (.dup, 1) := by decide +kernel
theorem dX12_choice_73 : decode cX12_choice 73 = .ok (.getfield 366, 3) := by decide +kernel
theorem dX12_choice_76 : decode cX12_choice 76 = .ok (.iconst 1, 1) := by decide +kernel
theorem dX12_choice_77 : decode cX12_choice 77 = .ok (.isub, 1) := by decide +kernel
theorem dX12_choice_78 : decode cX12_choice 78 = .ok (.putfield 366, 3) := by decide +kernel
theorem dX12_choice_81 : decode cX12_choice 81 = .ok (.iload_n 3, 1) := by decide +kernel
theorem dX12_choice_82 : decode cX12_choice 82 = .ok (.ireturn, 1) := by decide +kernel
set_option maxHeartbeats 2000000 in
set_option maxRecDepth 100000 in
/-- choice(), no fault ahead -/
theorem RT_choice (l : Launch) (G : pT) (h0 : Nat) (a : Nat → Nat) (F : Nat → Int32) (B : Nat → Nat → Int32) (at0 : Nat) (T : Nat) (n : Nat) (ne : Nat) (nd : Nat) (wr : Nat) (lk : Nat) (K : Nat → Int32) (hat : at0 ≤ T) (hT : T ≤ 5000) (hK : K T = 0 ∨ K T = 3) (hne : ne ≤ 20) (hnd : nd ≤ 2 * at0) (hwr : wr ≤ at0) (hlk : lk ≤ 60) (hy : tkRow (B 19) wr T) (hn : 21 ≤ n + ne) (ihc : Pchoice l G (n - 1)) (hl0 : Plevel l G n 0) : PM l G pX0 yX12_choice cX12_choice 4 (some .int) ({ frames := (20 * n + 27), cells := 0, slots := 0, locals := (1000 * n + 40 * 27) }) [.ref h0] (mW G h0 a (upd (upd (upd (upd (upd (upd F 15 0) 27 (nI nd)) 31 (nI wr)) 64 (nI at0)) 65 (nI ne)) 66 (nI lk)) (updA B 2 K)) (fun (v : Option Value) (u : Nat × Nat × Int32 × Nat × Nat × Nat × Nat × (Nat → Nat → Int32)) => v = some (.int (nI u.2.2.2.2.2.2.1)) ∧ (at0 ≤ u.1) ∧ (u.1 ≤ T) ∧ (u.2.1 ≤ 100) ∧ (nd ≤ u.2.2.2.1) ∧ (u.2.2.2.1 + 2 * at0 ≤ nd + 2 * u.1 + 100000 * u.2.1) ∧ (u.2.2.2.1 + 2 * at0 ≤ nd + 2 * u.1 + 40 * (21 - ne)) ∧ (wr ≤ u.2.2.2.2.2.1) ∧ (u.2.2.2.2.2.1 + at0 ≤ wr + u.1) ∧ (lk ≤ u.2.2.2.2.1) ∧ (u.2.2.2.2.1 ≤ 60 + 100 * u.2.1) ∧ (at0 + 1 ≤ u.1 + u.2.1) ∧ (u.2.2.2.2.2.2.1 ≤ u.2.2.2.1) ∧ (Kp B u.2.2.2.2.2.2.2 u.2.2.2.2.2.1 T) ∧ (If (u.2.1 = 0) (Low B u.2.2.2.2.2.2.2 nd wr ∧ Frs K T u.2.2.2.2.2.1 u.2.2.2.2.2.2.2 nd u.2.2.2.1 20000 [(u.2.2.2.2.2.2.1, (211 + u.2.2.2.2.1 - (10 * ne + lk)))] ∧ kcl 1 (u.2.2.2.2.2.2.2 9 u.2.2.2.2.2.2.1) = true))) (fun u => (mW G h0 a (upd (upd (upd (upd (upd (upd (upd F 15 (nI u.2.1)) 16 u.2.2.1) 27 (nI u.2.2.2.1)) 31 (nI u.2.2.2.2.2.1)) 64 (nI u.1)) 65 (nI ne)) 66 (nI u.2.2.2.2.1)) (updA u.2.2.2.2.2.2.2 2 K))) := by
  intro sz
  refine Met.ofW (cc := cX12_choice) (maxL := 4) (ret := (some .int)) (by decide) rfl ?_
  intro p e s m args below meth c s₁ B9 hml hv
  obtain ⟨rfl, hsz, hP, hD0, hE, hX⟩ := hv
  have hx := B9.exec
  have hb := B9.bytes
  have hr := B9.returns
  have hts := atoms_spec (ws := Cond.code yX12_choice cX12_choice 4 (some .int) :: pw) B9.pre
  have hq : ∀ w ∈ pw, w.before _ s = true := fun w h => hts w (List.mem_cons_of_mem _ h)
  have hown : s.vm.findClass RX12 = some m.cls := findClass_of_methodNamed B9.named
  have hlocks := B9.notSynchronized
  subst hsz
  have hD := hD0.self (sz := s.heap.size)
  have hA : ∀ q : Nat, s.heap.size ≤ q → va_A (mW G h0 a (upd (upd (upd (upd (upd (upd F 15 0) 27 (nI nd)) 31 (nI wr)) 64 (nI at0)) 65 (nI ne)) 66 (nI lk)) (updA B 2 K)) s.heap.size q := fun q h => Or.inr h
  have hP : va_P G.1 pCl (mW G h0 a (upd (upd (upd (upd (upd (upd F 15 0) 27 (nI nd)) 31 (nI wr)) 64 (nI at0)) 65 (nI ne)) 66 (nI lk)) (updA B 2 K)) s.heap := hP
  generalize va_A (mW G h0 a (upd (upd (upd (upd (upd (upd F 15 0) 27 (nI nd)) 31 (nI wr)) 64 (nI at0)) 65 (nI ne)) 66 (nI lk)) (updA B 2 K)) s.heap.size = A at hD hE hA ⊢
  have hS : va_S A s.heap s.heap [] := va_S.rf
  have hl := lv_entry ([.ref h0]) (n := 4) (Nat.le_of_ble_eq_true rfl)
  rw [lg_entry_eq]
  generalize (lg_sl ([.ref h0]) ++ List.replicate (4 - (lg_sl ([.ref h0])).length) Slot.unset).toArray = ls at hl ⊢
  have hl : lv_has ls 4 [(0, .ref h0)] := hl
  have hkp1 : Kp B B wr T := Kp.rfl hy
  have hlo2 : Low B B nd wr := Low.rfl
  refine lv_aload_n hx hb dX12_choice_0 rfl (lv_at hl 0 rfl) ?_
  refine lv_iconst (v := 0) hx hb dX12_choice_1 (by decide) ?_
  have hP : va_P G.1 pCl (mW G h0 a (upd (upd (upd (upd (upd (upd (upd (upd (upd (upd (upd (upd F 15 0) 27 (nI nd)) 31 (nI wr)) 64 (nI at0)) 65 (nI ne)) 66 (nI lk)) 15 0) 27 (nI nd)) 31 (nI wr)) 64 (nI at0)) 65 (nI ne)) 66 (nI lk)) (updA B 2 K)) _ := mW_to (F := F) (l1 := [(15, 0), (27, (nI nd)), (31, (nI wr)), (64, (nI at0)), (65, (nI ne)), (66, (nI lk))]) (l2 := [(15, 0), (27, (nI nd)), (31, (nI wr)), (64, (nI at0)), (65, (nI ne)), (66, (nI lk)), (15, 0), (27, (nI nd)), (31, (nI wr)), (64, (nI at0)), (65, (nI ne)), (66, (nI lk))]) (V := [0, (nI nd), (nI wr), (nI at0), (nI ne), (nI lk), 0, (nI nd), (nI wr), (nI at0), (nI ne), (nI lk), 0, (nI nd), (nI wr), (nI at0), (nI ne), (nI lk)]) rfl rfl rfl hP
  have hD : va_D A (mW G h0 a (upd (upd (upd (upd (upd (upd (upd (upd (upd (upd (upd (upd F 15 0) 27 (nI nd)) 31 (nI wr)) 64 (nI at0)) 65 (nI ne)) 66 (nI lk)) 15 0) 27 (nI nd)) 31 (nI wr)) 64 (nI at0)) 65 (nI ne)) 66 (nI lk)) (updA B 2 K)) := mW_D hD
  refine pc_V0 (G := G) (As := [.int (nI 0)]) (rest := []) hx hb hml hown hq hE hX pX0_al hP hD hS hA hl.1 (hl0 h0 a (upd (upd (upd (upd (upd (upd F 15 0) 27 (nI nd)) 31 (nI wr)) 64 (nI at0)) 65 (nI ne)) 66 (nI lk)) B at0 T ne nd wr lk K (by omega) (by omega) hK (by omega) (by omega) (by omega) (by omega) (hkp1).2 (by omega) (by omega)) (gV pw_1657 pw_1658 pw_1659 pw_1523 pw_1667) hV_X12_level 0 9 rfl rfl rfl rfl (Nat.le_of_ble_eq_true rfl) dX12_choice_2 ⟨Nat.le_of_ble_eq_true rfl, Nat.le_of_ble_eq_true rfl⟩ ⟨(by show (20 * n + (26 - 0)) + 1 ≤ (20 * n + 27); omega), (by show 8 + (6 + 11) + (1000 * n + 40 * (26 - 0)) ≤ (1000 * n + 40 * 27); omega)⟩ (fun v5 u3 H locs hw4 hP hD hS => ?_)
  obtain ⟨at6, fa7, pl8, nd9, lk10, wr11, r12, X13⟩ := u3
  obtain ⟨hw4, h14, h15, h16, h17, h18, h19, h20, h21, h22, h23, h24, h25, h26, h27⟩ := hw4
  have h14 : at0 ≤ at6 := h14
  have h15 : at6 ≤ T := h15
  have h16 : fa7 ≤ 100 := h16
  have h17 : nd ≤ nd9 := h17
  have h18 : nd9 + 2 * at0 ≤ nd + 2 * at6 + 100000 * fa7 := h18
  have h19 : nd9 + 2 * at0 ≤ nd + 2 * at6 + 40 * (21 - ne) := h19
  have h20 : wr ≤ wr11 := h20
  have h21 : wr11 + at0 ≤ wr + at6 := h21
  have h22 : lk ≤ lk10 := h22
  have h23 : lk10 ≤ 60 + 100 * fa7 := h23
  have h24 : at0 + 1 ≤ at6 + fa7 := h24
  have h25 : r12 ≤ nd9 := h25
  have h26 : Kp B X13 wr11 T := h26
  have h27 : If (fa7 = 0) (Low B X13 nd wr ∧ Frs K T wr11 X13 nd nd9 20000 [(r12, (210 + lk10 - (10 * ne + lk)))] ∧ kcl 1 (X13 9 r12) = true) := h27
  obtain rfl : v5 = some (.int (nI r12)) := hw4
  have hP : va_P G.1 pCl (mW G h0 a (upd (upd (upd (upd (upd (upd (upd F 15 (nI fa7)) 16 pl8) 27 (nI nd9)) 31 (nI wr11)) 64 (nI at6)) 65 (nI ne)) 66 (nI lk10)) (updA X13 2 K)) _ := mW_to (F := F) (l1 := [(15, 0), (27, (nI nd)), (31, (nI wr)), (64, (nI at0)), (65, (nI ne)), (66, (nI lk)), (15, (nI fa7)), (16, pl8), (27, (nI nd9)), (31, (nI wr11)), (64, (nI at6)), (65, (nI ne)), (66, (nI lk10))]) (l2 := [(15, (nI fa7)), (16, pl8), (27, (nI nd9)), (31, (nI wr11)), (64, (nI at6)), (65, (nI ne)), (66, (nI lk10))]) (V := [(nI fa7), (nI nd9), (nI wr11), (nI at6), (nI ne), (nI lk10), (nI fa7), pl8, (nI nd9), (nI wr11), (nI at6), (nI ne), (nI lk10), (nI fa7), pl8, (nI nd9), (nI wr11), (nI at6), (nI ne), (nI lk10)]) rfl rfl rfl hP
  have hD : va_D A (mW G h0 a (upd (upd (upd (upd (upd (upd (upd F 15 (nI fa7)) 16 pl8) 27 (nI nd9)) 31 (nI wr11)) 64 (nI at6)) 65 (nI ne)) 66 (nI lk10)) (updA X13 2 K)) := mW_D hD
  refine W.widen (k := 0) (n := 0) (Nat.le_of_ble_eq_true rfl) (Nat.le_of_ble_eq_true rfl) ?_
  refine W.eq (g2 := F0 m 5 ls [.int (nI r12)]) rfl ?_
  have hkp28 : Kp B X13 wr11 T := (Kp.trans hkp1 h26)
  rcases Nat.eq_zero_or_pos fa7 with e29 | e29
  · subst e29
    have hP : va_P G.1 pCl (mW G h0 a (upd (upd (upd (upd (upd (upd (upd F 15 0) 16 pl8) 27 (nI nd9)) 31 (nI wr11)) 64 (nI at6)) 65 (nI ne)) 66 (nI lk10)) (updA X13 2 K)) _ := hP
    have hD : va_D A (mW G h0 a (upd (upd (upd (upd (upd (upd (upd F 15 0) 16 pl8) 27 (nI nd9)) 31 (nI wr11)) 64 (nI at6)) 65 (nI ne)) 66 (nI lk10)) (updA X13 2 K)) := mW_D hD
    obtain ⟨hlw30, hf31, hc32⟩ := h27 rfl
    have hlo33 : Low B X13 nd wr := (Low.trans hlo2 hlw30 (by omega) (by omega))
    have hm34 := Frs.mem hf31
    refine lv_istore_n (lv' := [(1, .int (nI r12)), (0, .ref h0)]) hx hb dX12_choice_5 rfl hl (by decide) rfl (fun ls hl => ?_)
    refine lv_aload_n hx hb dX12_choice_6 rfl (lv_at hl 1 rfl) ?_
    refine lv_bipush (v := 63) hx hb dX12_choice_7 (by decide) ?_
    have hP : va_P G.1 pCl (mW G h0 a (upd (upd (upd (upd (upd (upd (upd (upd (upd F 15 0) 16 pl8) 27 (nI nd9)) 31 (nI wr11)) 64 (nI at6)) 65 (nI ne)) 66 (nI lk10)) 15 (nI 0)) 64 (nI at6)) (updA (updA X13 2 K) 2 K)) _ := mW_to (F := F) (l1 := [(15, 0), (16, pl8), (27, (nI nd9)), (31, (nI wr11)), (64, (nI at6)), (65, (nI ne)), (66, (nI lk10))]) (l2 := [(15, 0), (16, pl8), (27, (nI nd9)), (31, (nI wr11)), (64, (nI at6)), (65, (nI ne)), (66, (nI lk10)), (15, (nI 0)), (64, (nI at6))]) (V := [(nI 0), pl8, (nI nd9), (nI wr11), (nI at6), (nI ne), (nI lk10), (nI 0), pl8, (nI nd9), (nI wr11), (nI at6), (nI ne), (nI lk10), (nI 0), (nI at6)]) rfl rfl (show (updA X13 2 K) = (updA (updA X13 2 K) 2 K) from updsA_eq2 (F := X13) (l1 := [(2, K)]) (l2 := [(2, K), (2, K)]) (V := [K, K, K]) rfl rfl) hP
    have hD : va_D A (mW G h0 a (upd (upd (upd (upd (upd (upd (upd (upd (upd F 15 0) 16 pl8) 27 (nI nd9)) 31 (nI wr11)) 64 (nI at6)) 65 (nI ne)) 66 (nI lk10)) 15 (nI 0)) 64 (nI at6)) (updA (updA X13 2 K) 2 K)) := mW_D hD
    refine pc_V0 (G := G) (As := [.int 63]) (rest := []) hx hb hml hown hq hE hX pX0_al hP hD hS hA hl.1 (R_is l G h0 a (upd (upd (upd (upd (upd (upd (upd F 15 0) 16 pl8) 27 (nI nd9)) 31 (nI wr11)) 64 (nI at6)) 65 (nI ne)) 66 (nI lk10)) (updA X13 2 K) at6 T 0 K 63 (by omega) (by omega) hK (by omega)) (gV pw_1606 pw_1607 pw_1608 pw_1523 pw_1600) hV_X12_is 0 9 rfl rfl rfl rfl (Nat.le_of_ble_eq_true rfl) dX12_choice_9 ⟨Nat.le_of_ble_eq_true rfl, Nat.le_of_ble_eq_true rfl⟩ ⟨(by show 2 + 1 ≤ (20 * n + 27); omega), (by show 8 + (2 + 11) + 60 ≤ (1000 * n + 40 * 27); omega)⟩ (fun v37 u35 H locs hw36 hP hD hS => ?_)
    obtain ⟨r38, rfl⟩ : ∃ z, z = u35 := ⟨_, rfl⟩
    obtain ⟨hw36, h39, h40, h41, h42⟩ := hw36
    have h39 : r38 ≤ 1 := h39
    have h40 : 0 + 100 * r38 ≤ 100 := h40
    have h41 : If (r38 = 1) (K at6 = 63) := h41
    have h42 : If (r38 = 0) (0 = 0 → ¬ K at6 = 63) := h42
    obtain rfl : v37 = some (.int (nI r38)) := hw36
    have hP : va_P G.1 pCl (mW G h0 a (upd (upd (upd (upd (upd (upd (upd F 15 0) 16 pl8) 27 (nI nd9)) 31 (nI wr11)) 64 (nI at6)) 65 (nI ne)) 66 (nI lk10)) (updA X13 2 K)) _ := mW_to (F := F) (l1 := [(15, 0), (16, pl8), (27, (nI nd9)), (31, (nI wr11)), (64, (nI at6)), (65, (nI ne)), (66, (nI lk10)), (15, (nI 0)), (64, (nI at6))]) (l2 := [(15, 0), (16, pl8), (27, (nI nd9)), (31, (nI wr11)), (64, (nI at6)), (65, (nI ne)), (66, (nI lk10))]) (V := [0, pl8, (nI nd9), (nI wr11), (nI at6), (nI ne), (nI lk10), 0, (nI at6), 0, pl8, (nI nd9), (nI wr11), (nI at6), (nI ne), (nI lk10)]) rfl rfl (show (updA (updA X13 2 K) 2 K) = (updA X13 2 K) from updsA_eq2 (F := X13) (l1 := [(2, K), (2, K)]) (l2 := [(2, K)]) (V := [K, K, K]) rfl rfl) hP
    have hD : va_D A (mW G h0 a (upd (upd (upd (upd (upd (upd (upd F 15 0) 16 pl8) 27 (nI nd9)) 31 (nI wr11)) 64 (nI at6)) 65 (nI ne)) 66 (nI lk10)) (updA X13 2 K)) := mW_D hD
    refine W.widen (k := 0) (n := 0) (Nat.le_of_ble_eq_true rfl) (Nat.le_of_ble_eq_true rfl) ?_
    refine W.eq (g2 := F0 m 12 ls [.int (nI r38)]) rfl ?_
    refine lv_if_ne (tgt := 17) hx hb dX12_choice_12 (by decide) (fun c43 => ?_) (fun c43 => ?_)
    · have n44 : ¬ (r38 = 0) := fun h9 => c43 ((nI_eq (a := r38) (b := 0) (by omega) (by omega)).mpr h9)
      have n45 : at6 < T := tk_lt (by omega) hK (h41 (by omega)) (by decide) (by decide)
      refine lv_aload_n hx hb dX12_choice_17 rfl (lv_at hl 1 rfl) ?_
      refine r_get (v := .int (nI at6)) hx hb hown hq hE hP 64 343 tFX12_64 (by decide) pw_1592 rfl dX12_choice_18 ?_
      refine lv_istore_n (lv' := [(2, .int (nI at6)), (1, .int (nI r12)), (0, .ref h0)]) hx hb dX12_choice_21 rfl hl (by decide) rfl (fun ls hl => ?_)
      refine lv_aload_n hx hb dX12_choice_22 rfl (lv_at hl 2 rfl) ?_
      have hP : va_P G.1 pCl (mW G h0 a (upd (upd (upd (upd (upd (upd (upd (upd (upd (upd F 15 0) 16 pl8) 27 (nI nd9)) 31 (nI wr11)) 64 (nI at6)) 65 (nI ne)) 66 (nI lk10)) 15 (nI 0)) 64 (nI at6)) 65 (nI ne)) (updA (updA X13 2 K) 2 K)) _ := mW_to (F := F) (l1 := [(15, 0), (16, pl8), (27, (nI nd9)), (31, (nI wr11)), (64, (nI at6)), (65, (nI ne)), (66, (nI lk10))]) (l2 := [(15, 0), (16, pl8), (27, (nI nd9)), (31, (nI wr11)), (64, (nI at6)), (65, (nI ne)), (66, (nI lk10)), (15, (nI 0)), (64, (nI at6)), (65, (nI ne))]) (V := [(nI 0), pl8, (nI nd9), (nI wr11), (nI at6), (nI ne), (nI lk10), (nI 0), pl8, (nI nd9), (nI wr11), (nI at6), (nI ne), (nI lk10), (nI 0), (nI at6), (nI ne)]) rfl rfl (show (updA X13 2 K) = (updA (updA X13 2 K) 2 K) from updsA_eq2 (F := X13) (l1 := [(2, K)]) (l2 := [(2, K), (2, K)]) (V := [K, K, K]) rfl rfl) hP
      have hD : va_D A (mW G h0 a (upd (upd (upd (upd (upd (upd (upd (upd (upd (upd F 15 0) 16 pl8) 27 (nI nd9)) 31 (nI wr11)) 64 (nI at6)) 65 (nI ne)) 66 (nI lk10)) 15 (nI 0)) 64 (nI at6)) 65 (nI ne)) (updA (updA X13 2 K) 2 K)) := mW_D hD
      refine pc_V0 (G := G) (As := []) (rest := []) hx hb hml hown hq hE hX pX0_al hP hD hS hA hl.1 (R_deeper l G h0 a (upd (upd (upd (upd (upd (upd (upd F 15 0) 16 pl8) 27 (nI nd9)) 31 (nI wr11)) 64 (nI at6)) 65 (nI ne)) 66 (nI lk10)) (updA X13 2 K) at6 T 0 K ne (by omega) (by omega) hK (by omega) (by omega)) (gV pw_1637 pw_1638 pw_1639 pw_1523 pw_1611) hV_X12_deeper 0 9 rfl rfl rfl rfl (Nat.le_of_ble_eq_true rfl) dX12_choice_23 ⟨Nat.le_of_ble_eq_true rfl, Nat.le_of_ble_eq_true rfl⟩ ⟨(by show 4 + 1 ≤ (20 * n + 27); omega), (by show 8 + (1 + 11) + 103 ≤ (1000 * n + 40 * 27); omega)⟩ (fun v48 u46 H locs hw47 hP hD hS => ?_)
      obtain ⟨fa49, pl50⟩ := u46
      obtain ⟨hw47, h51, h52, h53, h54⟩ := hw47
      have h51 : 0 ≤ fa49 := h51
      have h52 : fa49 ≤ 100 := h52
      have h53 : If (0 < 0) (fa49 = 0) := h53
      have h54 : If (ne ≤ 20) (ne + 1 ≤ 20 + fa49) := h54
      obtain rfl : v48 = none := hw47
      have hP : va_P G.1 pCl (mW G h0 a (upd (upd (upd (upd (upd (upd (upd F 15 (nI fa49)) 16 pl50) 27 (nI nd9)) 31 (nI wr11)) 64 (nI at6)) 65 (nI (ne + 1))) 66 (nI lk10)) (updA X13 2 K)) _ := mW_to (F := F) (l1 := [(15, 0), (16, pl8), (27, (nI nd9)), (31, (nI wr11)), (64, (nI at6)), (65, (nI ne)), (66, (nI lk10)), (15, (nI fa49)), (16, pl50), (64, (nI at6)), (65, (nI (ne + 1)))]) (l2 := [(15, (nI fa49)), (16, pl50), (27, (nI nd9)), (31, (nI wr11)), (64, (nI at6)), (65, (nI (ne + 1))), (66, (nI lk10))]) (V := [(nI fa49), pl50, (nI nd9), (nI wr11), (nI at6), (nI (ne + 1)), (nI lk10), (nI fa49), pl50, (nI at6), (nI (ne + 1)), (nI fa49), pl50, (nI nd9), (nI wr11), (nI at6), (nI (ne + 1)), (nI lk10)]) rfl rfl (show (updA (updA X13 2 K) 2 K) = (updA X13 2 K) from updsA_eq2 (F := X13) (l1 := [(2, K), (2, K)]) (l2 := [(2, K)]) (V := [K, K, K]) rfl rfl) hP
      have hD : va_D A (mW G h0 a (upd (upd (upd (upd (upd (upd (upd F 15 (nI fa49)) 16 pl50) 27 (nI nd9)) 31 (nI wr11)) 64 (nI at6)) 65 (nI (ne + 1))) 66 (nI lk10)) (updA X13 2 K)) := mW_D hD
      refine W.widen (k := 0) (n := 0) (Nat.le_of_ble_eq_true rfl) (Nat.le_of_ble_eq_true rfl) ?_
      refine W.eq (g2 := F0 m 26 ls []) rfl ?_
      rcases Nat.eq_zero_or_pos fa49 with e55 | e55
      · subst e55
        have hP : va_P G.1 pCl (mW G h0 a (upd (upd (upd (upd (upd (upd (upd F 15 0) 16 pl50) 27 (nI nd9)) 31 (nI wr11)) 64 (nI at6)) 65 (nI (ne + 1))) 66 (nI lk10)) (updA X13 2 K)) _ := hP
        have hD : va_D A (mW G h0 a (upd (upd (upd (upd (upd (upd (upd F 15 0) 16 pl50) 27 (nI nd9)) 31 (nI wr11)) 64 (nI at6)) 65 (nI (ne + 1))) 66 (nI lk10)) (updA X13 2 K)) := mW_D hD
        have n56 : ne + 1 ≤ 20 := (h54 (by omega))
        refine lv_aload_n hx hb dX12_choice_26 rfl (lv_at hl 2 rfl) ?_
        refine lv_dup hx hb dX12_choice_27 rfl ?_
        refine r_get (v := .int (nI at6)) hx hb hown hq hE hP 64 343 tFX12_64 (by decide) pw_1592 rfl dX12_choice_28 ?_
        refine lv_iconst (v := 1) hx hb dX12_choice_31 (by decide) ?_
        refine lv_iadd hx hb dX12_choice_32 ?_
        refine lv_topi (fun x57 e58 => ?_)
        obtain rfl : x57 = nI (at6 + 1) := e58.trans (nI_add (at6) (1))
        refine r_put (v := (nI (at6 + 1))) (ty := .int) hx hb hown hq hE hP hD hS 64 343 tFX12_64 (by decide) pw_1592 (by decide) rfl rfl (ms_64 a _ _) dX12_choice_33 (fun H locs hP hD hS => ?_)
        refine lv_aload_n hx hb dX12_choice_36 rfl (lv_at hl 2 rfl) ?_
        refine lv_bipush (v := 23) hx hb dX12_choice_37 (by decide) ?_
        refine lv_aload_n hx hb dX12_choice_39 rfl (lv_at hl 2 rfl) ?_
        refine r_get (v := .ref (a 10)) hx hb hown hq hE hP 18 41 tFX12_18 (by decide) pw_1440 rfl dX12_choice_40 ?_
        refine lv_iload_n hx hb dX12_choice_43 rfl (lv_at hl 1 rfl) ?_
        refine r_ldi (f := (X13 10)) (j := r12) hx hb hE hP 10 (ma_10 G a _) rfl (by omega) (by decide) dX12_choice_44 ?_
        obtain ⟨t59, h60, e61⟩ := Frs.first (n := r12) hf31 (by omega) (by omega)
        refine lv_topi (fun x62 e63 => ?_)
        obtain rfl : x62 = nI t59 := e63.trans e61
        refine lv_iload_n hx hb dX12_choice_45 rfl (lv_at hl 0 rfl) ?_
        refine lv_iload_n hx hb dX12_choice_46 rfl (lv_at hl 1 rfl) ?_
        refine lv_aload_n hx hb dX12_choice_47 rfl (lv_at hl 2 rfl) ?_
        have hP : va_P G.1 pCl (mW G h0 a (upd (upd (upd (upd (upd (upd (upd (upd (upd (upd (upd (upd (upd F 15 0) 16 pl50) 27 (nI nd9)) 31 (nI wr11)) 64 (nI (at6 + 1))) 65 (nI (ne + 1))) 66 (nI lk10)) 15 0) 27 (nI nd9)) 31 (nI wr11)) 64 (nI (at6 + 1))) 65 (nI (ne + 1))) 66 (nI lk10)) (updA X13 2 K)) _ := mW_to (F := F) (l1 := [(15, 0), (16, pl50), (27, (nI nd9)), (31, (nI wr11)), (64, (nI at6)), (65, (nI (ne + 1))), (66, (nI lk10)), (64, (nI (at6 + 1)))]) (l2 := [(15, 0), (16, pl50), (27, (nI nd9)), (31, (nI wr11)), (64, (nI (at6 + 1))), (65, (nI (ne + 1))), (66, (nI lk10)), (15, 0), (27, (nI nd9)), (31, (nI wr11)), (64, (nI (at6 + 1))), (65, (nI (ne + 1))), (66, (nI lk10))]) (V := [0, pl50, (nI nd9), (nI wr11), (nI (at6 + 1)), (nI (ne + 1)), (nI lk10), (nI (at6 + 1)), 0, pl50, (nI nd9), (nI wr11), (nI (at6 + 1)), (nI (ne + 1)), (nI lk10), 0, (nI nd9), (nI wr11), (nI (at6 + 1)), (nI (ne + 1)), (nI lk10)]) rfl rfl rfl hP
        have hD : va_D A (mW G h0 a (upd (upd (upd (upd (upd (upd (upd (upd (upd (upd (upd (upd (upd F 15 0) 16 pl50) 27 (nI nd9)) 31 (nI wr11)) 64 (nI (at6 + 1))) 65 (nI (ne + 1))) 66 (nI lk10)) 15 0) 27 (nI nd9)) 31 (nI wr11)) 64 (nI (at6 + 1))) 65 (nI (ne + 1))) 66 (nI lk10)) (updA X13 2 K)) := mW_D hD
        refine pc_V0 (G := G) (As := []) (rest := [.int (nI r12), .int (nI at6), .int (nI t59), .int 23, .ref h0]) hx hb hml hown hq hE hX pX0_al hP hD hS hA hl.1 (ihc h0 a (upd (upd (upd (upd (upd (upd (upd F 15 0) 16 pl50) 27 (nI nd9)) 31 (nI wr11)) 64 (nI (at6 + 1))) 65 (nI (ne + 1))) 66 (nI lk10)) X13 (at6 + 1) T (ne + 1) nd9 wr11 lk10 K (by omega) (by omega) hK (by omega) (by omega) (by omega) (by omega) (hkp28).2 (by omega)) (gV pw_1640 pw_1641 pw_1642 pw_1523 pw_1656) hV_X12_choice 0 9 rfl rfl rfl rfl (Nat.le_of_ble_eq_true rfl) dX12_choice_48 ⟨Nat.le_of_ble_eq_true rfl, Nat.le_of_ble_eq_true rfl⟩ ⟨(by show (20 * (n - 1) + 27) + 1 ≤ (20 * n + 27); omega), (by show 8 + (4 + 11) + (1000 * (n - 1) + 40 * 27) ≤ (1000 * n + 40 * 27); omega)⟩ (fun v66 u64 H locs hw65 hP hD hS => ?_)
        obtain ⟨at67, fa68, pl69, nd70, lk71, wr72, r73, X74⟩ := u64
        obtain ⟨hw65, h75, h76, h77, h78, h79, h80, h81, h82, h83, h84, h85, h86, h87, h88⟩ := hw65
        have h75 : (at6 + 1) ≤ at67 := h75
        have h76 : at67 ≤ T := h76
        have h77 : fa68 ≤ 100 := h77
        have h78 : nd9 ≤ nd70 := h78
        have h79 : nd70 + 2 * (at6 + 1) ≤ nd9 + 2 * at67 + 100000 * fa68 := h79
        have h80 : nd70 + 2 * (at6 + 1) ≤ nd9 + 2 * at67 + 40 * (21 - (ne + 1)) := h80
        have h81 : wr11 ≤ wr72 := h81
        have h82 : wr72 + (at6 + 1) ≤ wr11 + at67 := h82
        have h83 : lk10 ≤ lk71 := h83
        have h84 : lk71 ≤ 60 + 100 * fa68 := h84
        have h85 : (at6 + 1) + 1 ≤ at67 + fa68 := h85
        have h86 : r73 ≤ nd70 := h86
        have h87 : Kp X13 X74 wr72 T := h87
        have h88 : If (fa68 = 0) (Low X13 X74 nd9 wr11 ∧ Frs K T wr72 X74 nd9 nd70 20000 [(r73, (211 + lk71 - (10 * (ne + 1) + lk10)))] ∧ kcl 1 (X74 9 r73) = true) := h88
        obtain rfl : v66 = some (.int (nI r73)) := hw65
        have hP : va_P G.1 pCl (mW G h0 a (upd (upd (upd (upd (upd (upd (upd F 15 (nI fa68)) 16 pl69) 27 (nI nd70)) 31 (nI wr72)) 64 (nI at67)) 65 (nI (ne + 1))) 66 (nI lk71)) (updA X74 2 K)) _ := mW_to (F := F) (l1 := [(15, 0), (16, pl50), (27, (nI nd9)), (31, (nI wr11)), (64, (nI (at6 + 1))), (65, (nI (ne + 1))), (66, (nI lk10)), (15, (nI fa68)), (16, pl69), (27, (nI nd70)), (31, (nI wr72)), (64, (nI at67)), (65, (nI (ne + 1))), (66, (nI lk71))]) (l2 := [(15, (nI fa68)), (16, pl69), (27, (nI nd70)), (31, (nI wr72)), (64, (nI at67)), (65, (nI (ne + 1))), (66, (nI lk71))]) (V := [(nI fa68), pl69, (nI nd70), (nI wr72), (nI at67), (nI (ne + 1)), (nI lk71), (nI fa68), pl69, (nI nd70), (nI wr72), (nI at67), (nI (ne + 1)), (nI lk71), (nI fa68), pl69, (nI nd70), (nI wr72), (nI at67), (nI (ne + 1)), (nI lk71)]) rfl rfl rfl hP
        have hD : va_D A (mW G h0 a (upd (upd (upd (upd (upd (upd (upd F 15 (nI fa68)) 16 pl69) 27 (nI nd70)) 31 (nI wr72)) 64 (nI at67)) 65 (nI (ne + 1))) 66 (nI lk71)) (updA X74 2 K)) := mW_D hD
        refine W.widen (k := 0) (n := 0) (Nat.le_of_ble_eq_true rfl) (Nat.le_of_ble_eq_true rfl) ?_
        refine W.eq (g2 := F0 m 51 ls [.int (nI r73), .int (nI r12), .int (nI at6), .int (nI t59), .int 23, .ref h0]) rfl ?_
        have hkp89 : Kp B X74 wr72 T := (Kp.trans hkp28 h87)
        rcases Nat.eq_zero_or_pos fa68 with e90 | e90
        · subst e90
          have hP : va_P G.1 pCl (mW G h0 a (upd (upd (upd (upd (upd (upd (upd F 15 0) 16 pl69) 27 (nI nd70)) 31 (nI wr72)) 64 (nI at67)) 65 (nI (ne + 1))) 66 (nI lk71)) (updA X74 2 K)) _ := hP
          have hD : va_D A (mW G h0 a (upd (upd (upd (upd (upd (upd (upd F 15 0) 16 pl69) 27 (nI nd70)) 31 (nI wr72)) 64 (nI at67)) 65 (nI (ne + 1))) 66 (nI lk71)) (updA X74 2 K)) := mW_D hD
          obtain ⟨hlw91, hf92, hc93⟩ := h88 rfl
          have hlo94 : Low B X74 nd wr := (Low.trans hlo33 hlw91 (by omega) (by omega))
          have hf95 : Frs K T wr72 X74 nd nd9 20000 [(r12, (210 + lk10 - (10 * ne + lk)))] := (Frs.same hf31 (by omega) (fun j i q1 q2 q3 q4 => (hlw91.1 j i q1 (by omega) (by omega))))
          have hc96 : kcl 1 (X74 9 r12) = true := by rw [hlw91.1 9 r12 (by omega) (by omega) (by omega)]; exact hc32
          have hm97 := Frs.mem hf92
          have hP : va_P G.1 pCl (mW G h0 a (upd (upd (upd (upd (upd (upd (upd (upd F 15 0) 16 pl69) 27 (nI nd70)) 31 (nI wr72)) 64 (nI at67)) 65 (nI (ne + 1))) 66 (nI lk71)) 27 (nI nd70)) (updA X74 2 K)) _ := mW_to (F := F) (l1 := [(15, 0), (16, pl69), (27, (nI nd70)), (31, (nI wr72)), (64, (nI at67)), (65, (nI (ne + 1))), (66, (nI lk71))]) (l2 := [(15, 0), (16, pl69), (27, (nI nd70)), (31, (nI wr72)), (64, (nI at67)), (65, (nI (ne + 1))), (66, (nI lk71)), (27, (nI nd70))]) (V := [0, pl69, (nI nd70), (nI wr72), (nI at67), (nI (ne + 1)), (nI lk71), 0, pl69, (nI nd70), (nI wr72), (nI at67), (nI (ne + 1)), (nI lk71), (nI nd70)]) rfl rfl rfl hP
          have hD : va_D A (mW G h0 a (upd (upd (upd (upd (upd (upd (upd (upd F 15 0) 16 pl69) 27 (nI nd70)) 31 (nI wr72)) 64 (nI at67)) 65 (nI (ne + 1))) 66 (nI lk71)) 27 (nI nd70)) (updA X74 2 K)) := mW_D hD
          refine pc_V0 (G := G) (As := [.int 23, .int (nI t59), .int (nI at6), .int (nI r12), .int (nI r73)]) (rest := []) hx hb hml hown hq hE hX pX0_al hP hD hS hA hl.1 (R_nodeB l G h0 a (upd (upd (upd (upd (upd (upd (upd F 15 0) 16 pl69) 27 (nI nd70)) 31 (nI wr72)) 64 (nI at67)) 65 (nI (ne + 1))) 66 (nI lk71)) X74 23 (nI t59) (nI at6) (nI r12) (nI r73) nd70 K (by omega)) (gV pw_1650 pw_1651 pw_1652 pw_1523 pw_1589) hV_X12_node 0 9 rfl rfl rfl rfl (Nat.le_of_ble_eq_true rfl) dX12_choice_51 ⟨Nat.le_of_ble_eq_true rfl, Nat.le_of_ble_eq_true rfl⟩ ⟨(by show 2 + 1 ≤ (20 * n + 27); omega), (by show 8 + (7 + 11) + 60 ≤ (1000 * n + 40 * 27); omega)⟩ (fun v100 u98 H locs hw99 hP hD hS => ?_)
          obtain ⟨X101, rfl⟩ : ∃ z, z = u98 := ⟨_, rfl⟩
          obtain ⟨hw99, h102⟩ := hw99
          have h102 : NewN X74 X101 nd70 23 (nI t59) (nI at6) (nI r12) (nI r73) := h102
          obtain rfl : v100 = some (.int (nI nd70)) := hw99
          have hP : va_P G.1 pCl (mW G h0 a (upd (upd (upd (upd (upd (upd (upd F 15 0) 16 pl69) 27 (nI (nd70 + 1))) 31 (nI wr72)) 64 (nI at67)) 65 (nI (ne + 1))) 66 (nI lk71)) (updA X101 2 K)) _ := mW_to (F := F) (l1 := [(15, 0), (16, pl69), (27, (nI nd70)), (31, (nI wr72)), (64, (nI at67)), (65, (nI (ne + 1))), (66, (nI lk71)), (27, (nI (nd70 + 1)))]) (l2 := [(15, 0), (16, pl69), (27, (nI (nd70 + 1))), (31, (nI wr72)), (64, (nI at67)), (65, (nI (ne + 1))), (66, (nI lk71))]) (V := [0, pl69, (nI (nd70 + 1)), (nI wr72), (nI at67), (nI (ne + 1)), (nI lk71), (nI (nd70 + 1)), 0, pl69, (nI (nd70 + 1)), (nI wr72), (nI at67), (nI (ne + 1)), (nI lk71)]) rfl rfl rfl hP
          have hD : va_D A (mW G h0 a (upd (upd (upd (upd (upd (upd (upd F 15 0) 16 pl69) 27 (nI (nd70 + 1))) 31 (nI wr72)) 64 (nI at67)) 65 (nI (ne + 1))) 66 (nI lk71)) (updA X101 2 K)) := mW_D hD
          refine W.widen (k := 0) (n := 0) (Nat.le_of_ble_eq_true rfl) (Nat.le_of_ble_eq_true rfl) ?_
          refine W.eq (g2 := F0 m 54 ls [.int (nI nd70)]) rfl ?_
          have hkp103 : Kp B X101 wr72 T := (Kp.new hkp89 h102)
          have hlo104 : Low B X101 nd wr := (Low.new hlo94 h102 (by omega))
          have hf105 : Frs K T wr72 X74 nd nd70 20000 [(r12, (210 + lk10 - (10 * ne + lk))), (r73, (211 + lk71 - (10 * (ne + 1) + lk10)))] := (Frs.join hf95 hf92 (by omega) (by omega) (by omega))
          have hc106 : kcl 1 (X101 9 r12) = true := by rw [h102.2.1 9 r12 (by omega)]; exact hc96
          have hc107 : kcl 1 (X101 9 r73) = true := by rw [h102.2.1 9 r73 (by omega)]; exact hc93
          have hf108 : Frs K T wr72 X101 nd (nd70 + 1) nd70 [(nd70, (211 + lk71 - (10 * ne + lk)))] := (Frs.new2 (k := 23) hf105 (by omega) (by omega) (by omega) h102 rfl rfl (by omega) rfl (by decide) (by decide) (by omega) (by omega) (fun e => absurd e (by decide)) (by simp) ⟨by decide, by decide, by decide, by decide⟩ ⟨by decide, by decide, by decide, by decide⟩ hc96 hc93 (newOK.m1 (by decide)) (newOK.m1 (by decide)) (by omega) (by omega))
          have hn109 : Nd X101 nd70 23 (nI r12) (nI r73) (-1) (-1) := (NewN.toNd h102)
          refine lv_istore_n (lv' := [(3, .int (nI nd70)), (2, .int (nI at6)), (1, .int (nI r12)), (0, .ref h0)]) hx hb dX12_choice_54 rfl hl (by decide) rfl (fun ls hl => ?_)
          refine lv_aload_n hx hb dX12_choice_55 rfl (lv_at hl 3 rfl) ?_
          refine lv_bipush (v := 58) hx hb dX12_choice_56 (by decide) ?_
          have hP : va_P G.1 pCl (mW G h0 a (upd (upd (upd (upd (upd (upd (upd (upd (upd F 15 0) 16 pl69) 27 (nI (nd70 + 1))) 31 (nI wr72)) 64 (nI at67)) 65 (nI (ne + 1))) 66 (nI lk71)) 15 (nI 0)) 64 (nI at67)) (updA (updA X101 2 K) 2 K)) _ := mW_to (F := F) (l1 := [(15, 0), (16, pl69), (27, (nI (nd70 + 1))), (31, (nI wr72)), (64, (nI at67)), (65, (nI (ne + 1))), (66, (nI lk71))]) (l2 := [(15, 0), (16, pl69), (27, (nI (nd70 + 1))), (31, (nI wr72)), (64, (nI at67)), (65, (nI (ne + 1))), (66, (nI lk71)), (15, (nI 0)), (64, (nI at67))]) (V := [(nI 0), pl69, (nI (nd70 + 1)), (nI wr72), (nI at67), (nI (ne + 1)), (nI lk71), (nI 0), pl69, (nI (nd70 + 1)), (nI wr72), (nI at67), (nI (ne + 1)), (nI lk71), (nI 0), (nI at67)]) rfl rfl (show (updA X101 2 K) = (updA (updA X101 2 K) 2 K) from updsA_eq2 (F := X101) (l1 := [(2, K)]) (l2 := [(2, K), (2, K)]) (V := [K, K, K]) rfl rfl) hP
          have hD : va_D A (mW G h0 a (upd (upd (upd (upd (upd (upd (upd (upd (upd F 15 0) 16 pl69) 27 (nI (nd70 + 1))) 31 (nI wr72)) 64 (nI at67)) 65 (nI (ne + 1))) 66 (nI lk71)) 15 (nI 0)) 64 (nI at67)) (updA (updA X101 2 K) 2 K)) := mW_D hD
          refine pc_V0 (G := G) (As := [.int 58]) (rest := []) hx hb hml hown hq hE hX pX0_al hP hD hS hA hl.1 (R_take l G h0 a (upd (upd (upd (upd (upd (upd (upd F 15 0) 16 pl69) 27 (nI (nd70 + 1))) 31 (nI wr72)) 64 (nI at67)) 65 (nI (ne + 1))) 66 (nI lk71)) (updA X101 2 K) at67 T 0 K 58 (by omega) (by omega) hK (by omega) (by decide) (by decide)) (gV pw_1614 pw_1615 pw_1616 pw_1523 pw_1601) hV_X12_take 0 9 rfl rfl rfl rfl (Nat.le_of_ble_eq_true rfl) dX12_choice_58 ⟨Nat.le_of_ble_eq_true rfl, Nat.le_of_ble_eq_true rfl⟩ ⟨(by show 4 + 1 ≤ (20 * n + 27); omega), (by show 8 + (2 + 11) + 103 ≤ (1000 * n + 40 * 27); omega)⟩ (fun v112 u110 H locs hw111 hP hD hS => ?_)
          obtain ⟨at113, fa114, pl115⟩ := u110
          obtain ⟨hw111, h116, h117, h118, h119, h120, h121, h122, h123⟩ := hw111
          have h116 : at67 ≤ at113 := h116
          have h117 : at113 ≤ T := h117
          have h118 : 0 ≤ fa114 := h118
          have h119 : fa114 ≤ 100 := h119
          have h120 : If (0 < 0) (at113 = at67 ∧ fa114 = 0) := h120
          have h121 : at113 ≤ at67 + 1 := h121
          have h122 : at67 + 1 ≤ at113 + fa114 := h122
          have h123 : If (fa114 = 0) (K at67 = 58) := h123
          obtain rfl : v112 = none := hw111
          have hP : va_P G.1 pCl (mW G h0 a (upd (upd (upd (upd (upd (upd (upd F 15 (nI fa114)) 16 pl115) 27 (nI (nd70 + 1))) 31 (nI wr72)) 64 (nI at113)) 65 (nI (ne + 1))) 66 (nI lk71)) (updA X101 2 K)) _ := mW_to (F := F) (l1 := [(15, 0), (16, pl69), (27, (nI (nd70 + 1))), (31, (nI wr72)), (64, (nI at67)), (65, (nI (ne + 1))), (66, (nI lk71)), (15, (nI fa114)), (16, pl115), (64, (nI at113))]) (l2 := [(15, (nI fa114)), (16, pl115), (27, (nI (nd70 + 1))), (31, (nI wr72)), (64, (nI at113)), (65, (nI (ne + 1))), (66, (nI lk71))]) (V := [(nI fa114), pl115, (nI (nd70 + 1)), (nI wr72), (nI at113), (nI (ne + 1)), (nI lk71), (nI fa114), pl115, (nI at113), (nI fa114), pl115, (nI (nd70 + 1)), (nI wr72), (nI at113), (nI (ne + 1)), (nI lk71)]) rfl rfl (show (updA (updA X101 2 K) 2 K) = (updA X101 2 K) from updsA_eq2 (F := X101) (l1 := [(2, K), (2, K)]) (l2 := [(2, K)]) (V := [K, K, K]) rfl rfl) hP
          have hD : va_D A (mW G h0 a (upd (upd (upd (upd (upd (upd (upd F 15 (nI fa114)) 16 pl115) 27 (nI (nd70 + 1))) 31 (nI wr72)) 64 (nI at113)) 65 (nI (ne + 1))) 66 (nI lk71)) (updA X101 2 K)) := mW_D hD
          refine W.widen (k := 0) (n := 0) (Nat.le_of_ble_eq_true rfl) (Nat.le_of_ble_eq_true rfl) ?_
          refine W.eq (g2 := F0 m 61 ls []) rfl ?_
          rcases Nat.eq_zero_or_pos fa114 with e124 | e124
          · subst e124
            have hP : va_P G.1 pCl (mW G h0 a (upd (upd (upd (upd (upd (upd (upd F 15 0) 16 pl115) 27 (nI (nd70 + 1))) 31 (nI wr72)) 64 (nI at113)) 65 (nI (ne + 1))) 66 (nI lk71)) (updA X101 2 K)) _ := hP
            have hD : va_D A (mW G h0 a (upd (upd (upd (upd (upd (upd (upd F 15 0) 16 pl115) 27 (nI (nd70 + 1))) 31 (nI wr72)) 64 (nI at113)) 65 (nI (ne + 1))) 66 (nI lk71)) (updA X101 2 K)) := mW_D hD
            refine lv_aload_n hx hb dX12_choice_61 rfl (lv_at hl 3 rfl) ?_
            refine r_get (v := .ref (a 14)) hx hb hown hq hE hP 22 53 tFX12_22 (by decide) pw_1444 rfl dX12_choice_62 ?_
            refine lv_iload_n hx hb dX12_choice_65 rfl (lv_at hl 0 rfl) ?_
            refine lv_aload_n hx hb dX12_choice_66 rfl (lv_at hl 3 rfl) ?_
            have hP : va_P G.1 pCl (mW G h0 a (upd (upd (upd (upd (upd (upd (upd (upd (upd (upd (upd (upd (upd F 15 0) 16 pl115) 27 (nI (nd70 + 1))) 31 (nI wr72)) 64 (nI at113)) 65 (nI (ne + 1))) 66 (nI lk71)) 15 0) 27 (nI (nd70 + 1))) 31 (nI wr72)) 64 (nI at113)) 65 (nI (ne + 1))) 66 (nI lk71)) (updA X101 2 K)) _ := mW_to (F := F) (l1 := [(15, 0), (16, pl115), (27, (nI (nd70 + 1))), (31, (nI wr72)), (64, (nI at113)), (65, (nI (ne + 1))), (66, (nI lk71))]) (l2 := [(15, 0), (16, pl115), (27, (nI (nd70 + 1))), (31, (nI wr72)), (64, (nI at113)), (65, (nI (ne + 1))), (66, (nI lk71)), (15, 0), (27, (nI (nd70 + 1))), (31, (nI wr72)), (64, (nI at113)), (65, (nI (ne + 1))), (66, (nI lk71))]) (V := [0, pl115, (nI (nd70 + 1)), (nI wr72), (nI at113), (nI (ne + 1)), (nI lk71), 0, pl115, (nI (nd70 + 1)), (nI wr72), (nI at113), (nI (ne + 1)), (nI lk71), 0, (nI (nd70 + 1)), (nI wr72), (nI at113), (nI (ne + 1)), (nI lk71)]) rfl rfl rfl hP
            have hD : va_D A (mW G h0 a (upd (upd (upd (upd (upd (upd (upd (upd (upd (upd (upd (upd (upd F 15 0) 16 pl115) 27 (nI (nd70 + 1))) 31 (nI wr72)) 64 (nI at113)) 65 (nI (ne + 1))) 66 (nI lk71)) 15 0) 27 (nI (nd70 + 1))) 31 (nI wr72)) 64 (nI at113)) 65 (nI (ne + 1))) 66 (nI lk71)) (updA X101 2 K)) := mW_D hD
            refine pc_V0 (G := G) (As := []) (rest := [.int (nI nd70), .ref (a 14)]) hx hb hml hown hq hE hX pX0_al hP hD hS hA hl.1 (ihc h0 a (upd (upd (upd (upd (upd (upd (upd F 15 0) 16 pl115) 27 (nI (nd70 + 1))) 31 (nI wr72)) 64 (nI at113)) 65 (nI (ne + 1))) 66 (nI lk71)) X101 at113 T (ne + 1) (nd70 + 1) wr72 lk71 K (by omega) (by omega) hK (by omega) (by omega) (by omega) (by omega) (hkp103).2 (by omega)) (gV pw_1640 pw_1641 pw_1642 pw_1523 pw_1656) hV_X12_choice 0 9 rfl rfl rfl rfl (Nat.le_of_ble_eq_true rfl) dX12_choice_67 ⟨Nat.le_of_ble_eq_true rfl, Nat.le_of_ble_eq_true rfl⟩ ⟨(by show (20 * (n - 1) + 27) + 1 ≤ (20 * n + 27); omega), (by show 8 + (4 + 11) + (1000 * (n - 1) + 40 * 27) ≤ (1000 * n + 40 * 27); omega)⟩ (fun v127 u125 H locs hw126 hP hD hS => ?_)
            obtain ⟨at128, fa129, pl130, nd131, lk132, wr133, r134, X135⟩ := u125
            obtain ⟨hw126, h136, h137, h138, h139, h140, h141, h142, h143, h144, h145, h146, h147, h148, h149⟩ := hw126
            have h136 : at113 ≤ at128 := h136
            have h137 : at128 ≤ T := h137
            have h138 : fa129 ≤ 100 := h138
            have h139 : (nd70 + 1) ≤ nd131 := h139
            have h140 : nd131 + 2 * at113 ≤ (nd70 + 1) + 2 * at128 + 100000 * fa129 := h140
            have h141 : nd131 + 2 * at113 ≤ (nd70 + 1) + 2 * at128 + 40 * (21 - (ne + 1)) := h141
            have h142 : wr72 ≤ wr133 := h142
            have h143 : wr133 + at113 ≤ wr72 + at128 := h143
            have h144 : lk71 ≤ lk132 := h144
            have h145 : lk132 ≤ 60 + 100 * fa129 := h145
            have h146 : at113 + 1 ≤ at128 + fa129 := h146
            have h147 : r134 ≤ nd131 := h147
            have h148 : Kp X101 X135 wr133 T := h148
            have h149 : If (fa129 = 0) (Low X101 X135 (nd70 + 1) wr72 ∧ Frs K T wr133 X135 (nd70 + 1) nd131 20000 [(r134, (211 + lk132 - (10 * (ne + 1) + lk71)))] ∧ kcl 1 (X135 9 r134) = true) := h149
            obtain rfl : v127 = some (.int (nI r134)) := hw126
            have hP : va_P G.1 pCl (mW G h0 a (upd (upd (upd (upd (upd (upd (upd F 15 (nI fa129)) 16 pl130) 27 (nI nd131)) 31 (nI wr133)) 64 (nI at128)) 65 (nI (ne + 1))) 66 (nI lk132)) (updA X135 2 K)) _ := mW_to (F := F) (l1 := [(15, 0), (16, pl115), (27, (nI (nd70 + 1))), (31, (nI wr72)), (64, (nI at113)), (65, (nI (ne + 1))), (66, (nI lk71)), (15, (nI fa129)), (16, pl130), (27, (nI nd131)), (31, (nI wr133)), (64, (nI at128)), (65, (nI (ne + 1))), (66, (nI lk132))]) (l2 := [(15, (nI fa129)), (16, pl130), (27, (nI nd131)), (31, (nI wr133)), (64, (nI at128)), (65, (nI (ne + 1))), (66, (nI lk132))]) (V := [(nI fa129), pl130, (nI nd131), (nI wr133), (nI at128), (nI (ne + 1)), (nI lk132), (nI fa129), pl130, (nI nd131), (nI wr133), (nI at128), (nI (ne + 1)), (nI lk132), (nI fa129), pl130, (nI nd131), (nI wr133), (nI at128), (nI (ne + 1)), (nI lk132)]) rfl rfl rfl hP
            have hD : va_D A (mW G h0 a (upd (upd (upd (upd (upd (upd (upd F 15 (nI fa129)) 16 pl130) 27 (nI nd131)) 31 (nI wr133)) 64 (nI at128)) 65 (nI (ne + 1))) 66 (nI lk132)) (updA X135 2 K)) := mW_D hD
            refine W.widen (k := 0) (n := 0) (Nat.le_of_ble_eq_true rfl) (Nat.le_of_ble_eq_true rfl) ?_
            refine W.eq (g2 := F0 m 70 ls [.int (nI r134), .int (nI nd70), .ref (a 14)]) rfl ?_
            have hkp150 : Kp B X135 wr133 T := (Kp.trans hkp103 h148)
            rcases Nat.eq_zero_or_pos fa129 with e151 | e151
            · subst e151
              have hP : va_P G.1 pCl (mW G h0 a (upd (upd (upd (upd (upd (upd (upd F 15 0) 16 pl130) 27 (nI nd131)) 31 (nI wr133)) 64 (nI at128)) 65 (nI (ne + 1))) 66 (nI lk132)) (updA X135 2 K)) _ := hP
              have hD : va_D A (mW G h0 a (upd (upd (upd (upd (upd (upd (upd F 15 0) 16 pl130) 27 (nI nd131)) 31 (nI wr133)) 64 (nI at128)) 65 (nI (ne + 1))) 66 (nI lk132)) (updA X135 2 K)) := mW_D hD
              obtain ⟨hlw152, hf153, hc154⟩ := h149 rfl
              have hlo155 : Low B X135 nd wr := (Low.trans hlo104 hlw152 (by omega) (by omega))
              have hf156 : Frs K T wr133 X135 nd (nd70 + 1) nd70 [(nd70, (211 + lk71 - (10 * ne + lk)))] := (Frs.same hf108 (by omega) (fun j i q1 q2 q3 q4 => (hlw152.1 j i q1 (by omega) (by omega))))
              have hn157 : Nd X135 nd70 23 (nI r12) (nI r73) (-1) (-1) := (Nd.low hn109 hlw152 (by omega))
              have hm158 := Frs.mem hf153
              refine r_sti (f := (X135 14)) (j := nd70) hx hb hE hP hD hS 14 (ma_14 G a _) rfl (mas_14 G a _) (by omega) (by decide) dX12_choice_70 (fun H locs hP hD hS => ?_)
              have hP : va_P G.1 pCl (mW G h0 a (upd (upd (upd (upd (upd (upd (upd F 15 0) 16 pl130) 27 (nI nd131)) 31 (nI wr133)) 64 (nI at128)) 65 (nI (ne + 1))) 66 (nI lk132)) (updA (stR X135 14 nd70 (nI r134)) 2 K)) _ := mW_to (F := F) (l1 := [(15, 0), (16, pl130), (27, (nI nd131)), (31, (nI wr133)), (64, (nI at128)), (65, (nI (ne + 1))), (66, (nI lk132))]) (l2 := [(15, 0), (16, pl130), (27, (nI nd131)), (31, (nI wr133)), (64, (nI at128)), (65, (nI (ne + 1))), (66, (nI lk132))]) (V := [0, pl130, (nI nd131), (nI wr133), (nI at128), (nI (ne + 1)), (nI lk132), 0, pl130, (nI nd131), (nI wr133), (nI at128), (nI (ne + 1)), (nI lk132)]) rfl rfl (show (updA (updA X135 2 K) 14 (upd (X135 14) nd70 (nI r134))) = (updA (stR X135 14 nd70 (nI r134)) 2 K) from updsA_eq2 (F := X135) (l1 := [(2, K), (14, (upd (X135 14) nd70 (nI r134)))]) (l2 := [(14, (upd (X135 14) nd70 (nI r134))), (2, K)]) (V := [K, (upd (X135 14) nd70 (nI r134)), (upd (X135 14) nd70 (nI r134)), K]) rfl rfl) hP
              have hD : va_D A (mW G h0 a (upd (upd (upd (upd (upd (upd (upd F 15 0) 16 pl130) 27 (nI nd131)) 31 (nI wr133)) 64 (nI at128)) 65 (nI (ne + 1))) 66 (nI lk132)) (updA (stR X135 14 nd70 (nI r134)) 2 K)) := mW_D hD
              have hkp159 : Kp B (stR X135 14 nd70 (nI r134)) wr133 T := (Kp.row hkp150 (by omega))
              have hlo160 : Low B (stR X135 14 nd70 (nI r134)) nd wr := (Low.st hlo155 (by omega) (by omega))
              have hf161 : Frs K T wr133 X135 nd nd131 nd70 [(nd70, (211 + lk71 - (10 * ne + lk))), (r134, (211 + lk132 - (10 * (ne + 1) + lk71)))] := (Frs.join hf156 hf153 (by omega) (by omega) (by omega))
              have hn162 : Nd (stR X135 14 nd70 (nI r134)) nd70 23 (nI r12) (nI r73) (nI r134) (-1) := (Nd.st hn157 (by omega))
              have hc163 : kcl 1 ((stR X135 14 nd70 (nI r134)) 9 r134) = true := by rw [st_ne (by omega)]; exact hc154
              have hf164 : Frs K T wr133 (stR X135 14 nd70 (nI r134)) nd nd131 nd70 [(nd70, (211 + lk132 - (10 * ne + lk)))] := (Frs.set (s := 3) (k := 23) hf161 (by omega) (by omega) (by simp) (by omega) (by omega) hn157.2.2.2.1 hn157.1 (by decide) ⟨by decide, by decide, by decide, hc154, fun h => absurd h (by decide)⟩ (by omega) (by omega) (by decide) (fun h1 h2 => by omega))
              have hf165 : Frs K T wr133 (stR X135 14 nd70 (nI r134)) nd nd131 20000 [(nd70, (211 + lk132 - (10 * ne + lk)))] := (Frs.fin (k := 23) hf164 hn162 rfl (by decide) (fun _ => nI_m1 (by omega)) (fun _ => nI_m1 (by omega)) (fun _ => nI_m1 (by omega)) (fun h => absurd h (by decide)))
              refine lv_aload_n hx hb dX12_choice_71 rfl (lv_at hl 3 rfl) ?_
              refine lv_dup hx hb dX12_choice_72 rfl ?_
              refine r_get (v := .int (nI (ne + 1))) hx hb hown hq hE hP 65 366 tFX12_65 (by decide) pw_1612 rfl dX12_choice_73 ?_
              refine lv_iconst (v := 1) hx hb dX12_choice_76 (by decide) ?_
              refine lv_isub hx hb dX12_choice_77 ?_
              refine lv_topi (fun x166 e167 => ?_)
              obtain rfl : x166 = nI ((ne + 1) - 1) := e167.trans (nI_subN (a := 1) (b := (ne + 1)) (by omega))
              refine r_put (v := (nI ((ne + 1) - 1))) (ty := .int) hx hb hown hq hE hP hD hS 65 366 tFX12_65 (by decide) pw_1612 (by decide) rfl rfl (ms_65 a _ _) dX12_choice_78 (fun H locs hP hD hS => ?_)
              refine lv_iload_n hx hb dX12_choice_81 rfl (lv_at hl 0 rfl) ?_
              have hz168 : at0 ≤ at128 := (by omega)
              have hz169 : at128 ≤ T := (by omega)
              have hz170 : 0 ≤ 100 := (by omega)
              have hz171 : nd ≤ nd131 := (by omega)
              have hz172 : nd131 + 2 * at0 ≤ nd + 2 * at128 + 100000 * 0 := (by omega)
              have hz173 : nd131 + 2 * at0 ≤ nd + 2 * at128 + 40 * (21 - ne) := (by omega)
              have hz174 : wr ≤ wr133 := (by omega)
              have hz175 : wr133 + at0 ≤ wr + at128 := (by omega)
              have hz176 : lk ≤ lk132 := (by omega)
              have hz177 : lk132 ≤ 60 + 100 * 0 := (by omega)
              have hz178 : at0 + 1 ≤ at128 + 0 := (by omega)
              have hz179 : nd70 ≤ nd131 := (by omega)
              have hz180 : Kp B (stR X135 14 nd70 (nI r134)) wr133 T := hkp159
              have hz181 : If (0 = 0) (Low B (stR X135 14 nd70 (nI r134)) nd wr ∧ Frs K T wr133 (stR X135 14 nd70 (nI r134)) nd nd131 20000 [(nd70, (211 + lk132 - (10 * ne + lk)))] ∧ kcl 1 ((stR X135 14 nd70 (nI r134)) 9 nd70) = true) := (fun _ => ⟨hlo160, Frs.up hf165 (by omega), (by rw [hn162.1]; decide)⟩)
              have hP : va_P G.1 pCl (mW G h0 a (upd (upd (upd (upd (upd (upd (upd F 15 (nI 0)) 16 pl130) 27 (nI nd131)) 31 (nI wr133)) 64 (nI at128)) 65 (nI ne)) 66 (nI lk132)) (updA (stR X135 14 nd70 (nI r134)) 2 K)) _ := mW_to (F := F) (l1 := [(15, 0), (16, pl130), (27, (nI nd131)), (31, (nI wr133)), (64, (nI at128)), (65, (nI (ne + 1))), (66, (nI lk132)), (65, (nI ((ne + 1) - 1)))]) (l2 := [(15, (nI 0)), (16, pl130), (27, (nI nd131)), (31, (nI wr133)), (64, (nI at128)), (65, (nI ne)), (66, (nI lk132))]) (V := [(nI 0), pl130, (nI nd131), (nI wr133), (nI at128), (nI ne), (nI lk132), (nI ne), (nI 0), pl130, (nI nd131), (nI wr133), (nI at128), (nI ne), (nI lk132)]) rfl rfl rfl hP
              have hD : va_D A (mW G h0 a (upd (upd (upd (upd (upd (upd (upd F 15 (nI 0)) 16 pl130) 27 (nI nd131)) 31 (nI wr133)) 64 (nI at128)) 65 (nI ne)) 66 (nI lk132)) (updA (stR X135 14 nd70 (nI r134)) 2 K)) := mW_D hD
              exact W.iret (v := (nI nd70)) hx hb hr (fun t9 ht9 hW9 => ⟨⟨_, (at128, 0, pl130, nd131, lk132, wr133, nd70, (stR X135 14 nd70 (nI r134))), rfl, ⟨rfl, hz168, hz169, hz170, hz171, hz172, hz173, hz174, hz175, hz176, hz177, hz178, hz179, hz180, hz181⟩, by rw [ht9]; exact hP, hD⟩, hS.F ht9⟩) hS.2.2 dX12_choice_82
            · have e151 := e151
              refine r_sti (f := (X135 14)) (j := nd70) hx hb hE hP hD hS 14 (ma_14 G a _) rfl (mas_14 G a _) (by omega) (by decide) dX12_choice_70 (fun H locs hP hD hS => ?_)
              have hP : va_P G.1 pCl (mW G h0 a (upd (upd (upd (upd (upd (upd (upd F 15 (nI fa129)) 16 pl130) 27 (nI nd131)) 31 (nI wr133)) 64 (nI at128)) 65 (nI (ne + 1))) 66 (nI lk132)) (updA (stR X135 14 nd70 (nI r134)) 2 K)) _ := mW_to (F := F) (l1 := [(15, (nI fa129)), (16, pl130), (27, (nI nd131)), (31, (nI wr133)), (64, (nI at128)), (65, (nI (ne + 1))), (66, (nI lk132))]) (l2 := [(15, (nI fa129)), (16, pl130), (27, (nI nd131)), (31, (nI wr133)), (64, (nI at128)), (65, (nI (ne + 1))), (66, (nI lk132))]) (V := [(nI fa129), pl130, (nI nd131), (nI wr133), (nI at128), (nI (ne + 1)), (nI lk132), (nI fa129), pl130, (nI nd131), (nI wr133), (nI at128), (nI (ne + 1)), (nI lk132)]) rfl rfl (show (updA (updA X135 2 K) 14 (upd (X135 14) nd70 (nI r134))) = (updA (stR X135 14 nd70 (nI r134)) 2 K) from updsA_eq2 (F := X135) (l1 := [(2, K), (14, (upd (X135 14) nd70 (nI r134)))]) (l2 := [(14, (upd (X135 14) nd70 (nI r134))), (2, K)]) (V := [K, (upd (X135 14) nd70 (nI r134)), (upd (X135 14) nd70 (nI r134)), K]) rfl rfl) hP
              have hD : va_D A (mW G h0 a (upd (upd (upd (upd (upd (upd (upd F 15 (nI fa129)) 16 pl130) 27 (nI nd131)) 31 (nI wr133)) 64 (nI at128)) 65 (nI (ne + 1))) 66 (nI lk132)) (updA (stR X135 14 nd70 (nI r134)) 2 K)) := mW_D hD
              have hkp182 : Kp B (stR X135 14 nd70 (nI r134)) wr133 T := (Kp.row hkp150 (by omega))
              refine lv_aload_n hx hb dX12_choice_71 rfl (lv_at hl 3 rfl) ?_
              refine lv_dup hx hb dX12_choice_72 rfl ?_
              refine r_get (v := .int (nI (ne + 1))) hx hb hown hq hE hP 65 366 tFX12_65 (by decide) pw_1612 rfl dX12_choice_73 ?_
              refine lv_iconst (v := 1) hx hb dX12_choice_76 (by decide) ?_
              refine lv_isub hx hb dX12_choice_77 ?_
              refine lv_topi (fun x183 e184 => ?_)
              obtain rfl : x183 = nI ((ne + 1) - 1) := e184.trans (nI_subN (a := 1) (b := (ne + 1)) (by omega))
              refine r_put (v := (nI ((ne + 1) - 1))) (ty := .int) hx hb hown hq hE hP hD hS 65 366 tFX12_65 (by decide) pw_1612 (by decide) rfl rfl (ms_65 a _ _) dX12_choice_78 (fun H locs hP hD hS => ?_)
              refine lv_iload_n hx hb dX12_choice_81 rfl (lv_at hl 0 rfl) ?_
              have hz185 : at0 ≤ at128 := (by omega)
              have hz186 : at128 ≤ T := (by omega)
              have hz187 : fa129 ≤ 100 := (by omega)
              have hz188 : nd ≤ nd131 := (by omega)
              have hz189 : nd131 + 2 * at0 ≤ nd + 2 * at128 + 100000 * fa129 := (by omega)
              have hz190 : nd131 + 2 * at0 ≤ nd + 2 * at128 + 40 * (21 - ne) := (by omega)
              have hz191 : wr ≤ wr133 := (by omega)
              have hz192 : wr133 + at0 ≤ wr + at128 := (by omega)
              have hz193 : lk ≤ lk132 := (by omega)
              have hz194 : lk132 ≤ 60 + 100 * fa129 := (by omega)
              have hz195 : at0 + 1 ≤ at128 + fa129 := (by omega)
              have hz196 : nd70 ≤ nd131 := (by omega)
              have hz197 : Kp B (stR X135 14 nd70 (nI r134)) wr133 T := hkp182
              have hz198 : If (fa129 = 0) (Low B (stR X135 14 nd70 (nI r134)) nd wr ∧ Frs K T wr133 (stR X135 14 nd70 (nI r134)) nd nd131 20000 [(nd70, (211 + lk132 - (10 * ne + lk)))] ∧ kcl 1 ((stR X135 14 nd70 (nI r134)) 9 nd70) = true) := (fun e => absurd e (by omega))
              have hP : va_P G.1 pCl (mW G h0 a (upd (upd (upd (upd (upd (upd (upd F 15 (nI fa129)) 16 pl130) 27 (nI nd131)) 31 (nI wr133)) 64 (nI at128)) 65 (nI ne)) 66 (nI lk132)) (updA (stR X135 14 nd70 (nI r134)) 2 K)) _ := mW_to (F := F) (l1 := [(15, (nI fa129)), (16, pl130), (27, (nI nd131)), (31, (nI wr133)), (64, (nI at128)), (65, (nI (ne + 1))), (66, (nI lk132)), (65, (nI ((ne + 1) - 1)))]) (l2 := [(15, (nI fa129)), (16, pl130), (27, (nI nd131)), (31, (nI wr133)), (64, (nI at128)), (65, (nI ne)), (66, (nI lk132))]) (V := [(nI fa129), pl130, (nI nd131), (nI wr133), (nI at128), (nI ne), (nI lk132), (nI ne), (nI fa129), pl130, (nI nd131), (nI wr133), (nI at128), (nI ne), (nI lk132)]) rfl rfl rfl hP
              have hD : va_D A (mW G h0 a (upd (upd (upd (upd (upd (upd (upd F 15 (nI fa129)) 16 pl130) 27 (nI nd131)) 31 (nI wr133)) 64 (nI at128)) 65 (nI ne)) 66 (nI lk132)) (updA (stR X135 14 nd70 (nI r134)) 2 K)) := mW_D hD
              exact W.iret (v := (nI nd70)) hx hb hr (fun t9 ht9 hW9 => ⟨⟨_, (at128, fa129, pl130, nd131, lk132, wr133, nd70, (stR X135 14 nd70 (nI r134))), rfl, ⟨rfl, hz185, hz186, hz187, hz188, hz189, hz190, hz191, hz192, hz193, hz194, hz195, hz196, hz197, hz198⟩, by rw [ht9]; exact hP, hD⟩, hS.F ht9⟩) hS.2.2 dX12_choice_82
          · have e124 := e124
            refine lv_aload_n hx hb dX12_choice_61 rfl (lv_at hl 3 rfl) ?_
            refine r_get (v := .ref (a 14)) hx hb hown hq hE hP 22 53 tFX12_22 (by decide) pw_1444 rfl dX12_choice_62 ?_
            refine lv_iload_n hx hb dX12_choice_65 rfl (lv_at hl 0 rfl) ?_
            refine lv_aload_n hx hb dX12_choice_66 rfl (lv_at hl 3 rfl) ?_
            have hP : va_P G.1 pCl (mW G h0 a (upd (upd (upd (upd (upd (upd (upd (upd (upd F 15 (nI fa114)) 16 pl115) 27 (nI (nd70 + 1))) 31 (nI wr72)) 64 (nI at113)) 65 (nI (ne + 1))) 66 (nI lk71)) 15 (nI fa114)) 64 (nI at113)) (updA (updA X101 2 K) 2 K)) _ := mW_to (F := F) (l1 := [(15, (nI fa114)), (16, pl115), (27, (nI (nd70 + 1))), (31, (nI wr72)), (64, (nI at113)), (65, (nI (ne + 1))), (66, (nI lk71))]) (l2 := [(15, (nI fa114)), (16, pl115), (27, (nI (nd70 + 1))), (31, (nI wr72)), (64, (nI at113)), (65, (nI (ne + 1))), (66, (nI lk71)), (15, (nI fa114)), (64, (nI at113))]) (V := [(nI fa114), pl115, (nI (nd70 + 1)), (nI wr72), (nI at113), (nI (ne + 1)), (nI lk71), (nI fa114), pl115, (nI (nd70 + 1)), (nI wr72), (nI at113), (nI (ne + 1)), (nI lk71), (nI fa114), (nI at113)]) rfl rfl (show (updA X101 2 K) = (updA (updA X101 2 K) 2 K) from updsA_eq2 (F := X101) (l1 := [(2, K)]) (l2 := [(2, K), (2, K)]) (V := [K, K, K]) rfl rfl) hP
            have hD : va_D A (mW G h0 a (upd (upd (upd (upd (upd (upd (upd (upd (upd F 15 (nI fa114)) 16 pl115) 27 (nI (nd70 + 1))) 31 (nI wr72)) 64 (nI at113)) 65 (nI (ne + 1))) 66 (nI lk71)) 15 (nI fa114)) 64 (nI at113)) (updA (updA X101 2 K) 2 K)) := mW_D hD
            refine pc_V0 (G := G) (As := []) (rest := [.int (nI nd70), .ref (a 14)]) hx hb hml hown hq hE hX pX0_al hP hD hS hA hl.1 (RF_choice l G h0 a (upd (upd (upd (upd (upd (upd (upd F 15 (nI fa114)) 16 pl115) 27 (nI (nd70 + 1))) 31 (nI wr72)) 64 (nI at113)) 65 (nI (ne + 1))) 66 (nI lk71)) (updA X101 2 K) at113 T fa114 K (by omega) (by omega) hK (by omega) e124) (gV pw_1640 pw_1641 pw_1642 pw_1523 pw_1656) hV_X12_choice 0 9 rfl rfl rfl rfl (Nat.le_of_ble_eq_true rfl) dX12_choice_67 ⟨Nat.le_of_ble_eq_true rfl, Nat.le_of_ble_eq_true rfl⟩ ⟨(by show 16 + 1 ≤ (20 * n + 27); omega), (by show 8 + (4 + 11) + 405 ≤ (1000 * n + 40 * 27); omega)⟩ (fun v201 u199 H locs hw200 hP hD hS => ?_)
            obtain rfl : v201 = some (.int 0) := hw200
            have hP : va_P G.1 pCl (mW G h0 a (upd (upd (upd (upd (upd (upd (upd F 15 (nI fa114)) 16 pl115) 27 (nI (nd70 + 1))) 31 (nI wr72)) 64 (nI at113)) 65 (nI (ne + 1))) 66 (nI lk71)) (updA X101 2 K)) _ := mW_to (F := F) (l1 := [(15, (nI fa114)), (16, pl115), (27, (nI (nd70 + 1))), (31, (nI wr72)), (64, (nI at113)), (65, (nI (ne + 1))), (66, (nI lk71)), (15, (nI fa114)), (64, (nI at113))]) (l2 := [(15, (nI fa114)), (16, pl115), (27, (nI (nd70 + 1))), (31, (nI wr72)), (64, (nI at113)), (65, (nI (ne + 1))), (66, (nI lk71))]) (V := [(nI fa114), pl115, (nI (nd70 + 1)), (nI wr72), (nI at113), (nI (ne + 1)), (nI lk71), (nI fa114), (nI at113), (nI fa114), pl115, (nI (nd70 + 1)), (nI wr72), (nI at113), (nI (ne + 1)), (nI lk71)]) rfl rfl (show (updA (updA X101 2 K) 2 K) = (updA X101 2 K) from updsA_eq2 (F := X101) (l1 := [(2, K), (2, K)]) (l2 := [(2, K)]) (V := [K, K, K]) rfl rfl) hP
            have hD : va_D A (mW G h0 a (upd (upd (upd (upd (upd (upd (upd F 15 (nI fa114)) 16 pl115) 27 (nI (nd70 + 1))) 31 (nI wr72)) 64 (nI at113)) 65 (nI (ne + 1))) 66 (nI lk71)) (updA X101 2 K)) := mW_D hD
            refine W.widen (k := 0) (n := 0) (Nat.le_of_ble_eq_true rfl) (Nat.le_of_ble_eq_true rfl) ?_
            refine W.eq (g2 := F0 m 70 ls [.int 0, .int (nI nd70), .ref (a 14)]) rfl ?_
            refine r_sti (f := (X101 14)) (j := nd70) hx hb hE hP hD hS 14 (ma_14 G a _) rfl (mas_14 G a _) (by omega) (by decide) dX12_choice_70 (fun H locs hP hD hS => ?_)
            have hP : va_P G.1 pCl (mW G h0 a (upd (upd (upd (upd (upd (upd (upd F 15 (nI fa114)) 16 pl115) 27 (nI (nd70 + 1))) 31 (nI wr72)) 64 (nI at113)) 65 (nI (ne + 1))) 66 (nI lk71)) (updA (stR X101 14 nd70 0) 2 K)) _ := mW_to (F := F) (l1 := [(15, (nI fa114)), (16, pl115), (27, (nI (nd70 + 1))), (31, (nI wr72)), (64, (nI at113)), (65, (nI (ne + 1))), (66, (nI lk71))]) (l2 := [(15, (nI fa114)), (16, pl115), (27, (nI (nd70 + 1))), (31, (nI wr72)), (64, (nI at113)), (65, (nI (ne + 1))), (66, (nI lk71))]) (V := [(nI fa114), pl115, (nI (nd70 + 1)), (nI wr72), (nI at113), (nI (ne + 1)), (nI lk71), (nI fa114), pl115, (nI (nd70 + 1)), (nI wr72), (nI at113), (nI (ne + 1)), (nI lk71)]) rfl rfl (show (updA (updA X101 2 K) 14 (upd (X101 14) nd70 0)) = (updA (stR X101 14 nd70 0) 2 K) from updsA_eq2 (F := X101) (l1 := [(2, K), (14, (upd (X101 14) nd70 0))]) (l2 := [(14, (upd (X101 14) nd70 0)), (2, K)]) (V := [K, (upd (X101 14) nd70 0), (upd (X101 14) nd70 0), K]) rfl rfl) hP
            have hD : va_D A (mW G h0 a (upd (upd (upd (upd (upd (upd (upd F 15 (nI fa114)) 16 pl115) 27 (nI (nd70 + 1))) 31 (nI wr72)) 64 (nI at113)) 65 (nI (ne + 1))) 66 (nI lk71)) (updA (stR X101 14 nd70 0) 2 K)) := mW_D hD
            have hkp202 : Kp B (stR X101 14 nd70 0) wr72 T := (Kp.row hkp103 (by omega))
            refine lv_aload_n hx hb dX12_choice_71 rfl (lv_at hl 3 rfl) ?_
            refine lv_dup hx hb dX12_choice_72 rfl ?_
            refine r_get (v := .int (nI (ne + 1))) hx hb hown hq hE hP 65 366 tFX12_65 (by decide) pw_1612 rfl dX12_choice_73 ?_
            refine lv_iconst (v := 1) hx hb dX12_choice_76 (by decide) ?_
            refine lv_isub hx hb dX12_choice_77 ?_
            refine lv_topi (fun x203 e204 => ?_)
            obtain rfl : x203 = nI ((ne + 1) - 1) := e204.trans (nI_subN (a := 1) (b := (ne + 1)) (by omega))
            refine r_put (v := (nI ((ne + 1) - 1))) (ty := .int) hx hb hown hq hE hP hD hS 65 366 tFX12_65 (by decide) pw_1612 (by decide) rfl rfl (ms_65 a _ _) dX12_choice_78 (fun H locs hP hD hS => ?_)
            refine lv_iload_n hx hb dX12_choice_81 rfl (lv_at hl 0 rfl) ?_
            have hz205 : at0 ≤ at113 := (by omega)
            have hz206 : at113 ≤ T := (by omega)
            have hz207 : fa114 ≤ 100 := (by omega)
            have hz208 : nd ≤ (nd70 + 1) := (by omega)
            have hz209 : (nd70 + 1) + 2 * at0 ≤ nd + 2 * at113 + 100000 * fa114 := (by omega)
            have hz210 : (nd70 + 1) + 2 * at0 ≤ nd + 2 * at113 + 40 * (21 - ne) := (by omega)
            have hz211 : wr ≤ wr72 := (by omega)
            have hz212 : wr72 + at0 ≤ wr + at113 := (by omega)
            have hz213 : lk ≤ lk71 := (by omega)
            have hz214 : lk71 ≤ 60 + 100 * fa114 := (by omega)
            have hz215 : at0 + 1 ≤ at113 + fa114 := (by omega)
            have hz216 : nd70 ≤ (nd70 + 1) := (by omega)
            have hz217 : Kp B (stR X101 14 nd70 0) wr72 T := hkp202
            have hz218 : If (fa114 = 0) (Low B (stR X101 14 nd70 0) nd wr ∧ Frs K T wr72 (stR X101 14 nd70 0) nd (nd70 + 1) 20000 [(nd70, (211 + lk71 - (10 * ne + lk)))] ∧ kcl 1 ((stR X101 14 nd70 0) 9 nd70) = true) := (fun e => absurd e (by omega))
            have hP : va_P G.1 pCl (mW G h0 a (upd (upd (upd (upd (upd (upd (upd F 15 (nI fa114)) 16 pl115) 27 (nI (nd70 + 1))) 31 (nI wr72)) 64 (nI at113)) 65 (nI ne)) 66 (nI lk71)) (updA (stR X101 14 nd70 0) 2 K)) _ := mW_to (F := F) (l1 := [(15, (nI fa114)), (16, pl115), (27, (nI (nd70 + 1))), (31, (nI wr72)), (64, (nI at113)), (65, (nI (ne + 1))), (66, (nI lk71)), (65, (nI ((ne + 1) - 1)))]) (l2 := [(15, (nI fa114)), (16, pl115), (27, (nI (nd70 + 1))), (31, (nI wr72)), (64, (nI at113)), (65, (nI ne)), (66, (nI lk71))]) (V := [(nI fa114), pl115, (nI (nd70 + 1)), (nI wr72), (nI at113), (nI ne), (nI lk71), (nI ne), (nI fa114), pl115, (nI (nd70 + 1)), (nI wr72), (nI at113), (nI ne), (nI lk71)]) rfl rfl rfl hP
            have hD : va_D A (mW G h0 a (upd (upd (upd (upd (upd (upd (upd F 15 (nI fa114)) 16 pl115) 27 (nI (nd70 + 1))) 31 (nI wr72)) 64 (nI at113)) 65 (nI ne)) 66 (nI lk71)) (updA (stR X101 14 nd70 0) 2 K)) := mW_D hD
            exact W.iret (v := (nI nd70)) hx hb hr (fun t9 ht9 hW9 => ⟨⟨_, (at113, fa114, pl115, (nd70 + 1), lk71, wr72, nd70, (stR X101 14 nd70 0)), rfl, ⟨rfl, hz205, hz206, hz207, hz208, hz209, hz210, hz211, hz212, hz213, hz214, hz215, hz216, hz217, hz218⟩, by rw [ht9]; exact hP, hD⟩, hS.F ht9⟩) hS.2.2 dX12_choice_82
        · have e90 := e90
          have hP : va_P G.1 pCl (mW G h0 a (upd (upd (upd (upd (upd (upd (upd (upd F 15 (nI fa68)) 16 pl69) 27 (nI nd70)) 31 (nI wr72)) 64 (nI at67)) 65 (nI (ne + 1))) 66 (nI lk71)) 27 (nI nd70)) (updA X74 2 K)) _ := mW_to (F := F) (l1 := [(15, (nI fa68)), (16, pl69), (27, (nI nd70)), (31, (nI wr72)), (64, (nI at67)), (65, (nI (ne + 1))), (66, (nI lk71))]) (l2 := [(15, (nI fa68)), (16, pl69), (27, (nI nd70)), (31, (nI wr72)), (64, (nI at67)), (65, (nI (ne + 1))), (66, (nI lk71)), (27, (nI nd70))]) (V := [(nI fa68), pl69, (nI nd70), (nI wr72), (nI at67), (nI (ne + 1)), (nI lk71), (nI fa68), pl69, (nI nd70), (nI wr72), (nI at67), (nI (ne + 1)), (nI lk71), (nI nd70)]) rfl rfl rfl hP
          have hD : va_D A (mW G h0 a (upd (upd (upd (upd (upd (upd (upd (upd F 15 (nI fa68)) 16 pl69) 27 (nI nd70)) 31 (nI wr72)) 64 (nI at67)) 65 (nI (ne + 1))) 66 (nI lk71)) 27 (nI nd70)) (updA X74 2 K)) := mW_D hD
          refine pc_V0 (G := G) (As := [.int 23, .int (nI t59), .int (nI at6), .int (nI r12), .int (nI r73)]) (rest := []) hx hb hml hown hq hE hX pX0_al hP hD hS hA hl.1 (R_nodeB l G h0 a (upd (upd (upd (upd (upd (upd (upd F 15 (nI fa68)) 16 pl69) 27 (nI nd70)) 31 (nI wr72)) 64 (nI at67)) 65 (nI (ne + 1))) 66 (nI lk71)) X74 23 (nI t59) (nI at6) (nI r12) (nI r73) nd70 K (by omega)) (gV pw_1650 pw_1651 pw_1652 pw_1523 pw_1589) hV_X12_node 0 9 rfl rfl rfl rfl (Nat.le_of_ble_eq_true rfl) dX12_choice_51 ⟨Nat.le_of_ble_eq_true rfl, Nat.le_of_ble_eq_true rfl⟩ ⟨(by show 2 + 1 ≤ (20 * n + 27); omega), (by show 8 + (7 + 11) + 60 ≤ (1000 * n + 40 * 27); omega)⟩ (fun v221 u219 H locs hw220 hP hD hS => ?_)
          obtain ⟨X222, rfl⟩ : ∃ z, z = u219 := ⟨_, rfl⟩
          obtain ⟨hw220, h223⟩ := hw220
          have h223 : NewN X74 X222 nd70 23 (nI t59) (nI at6) (nI r12) (nI r73) := h223
          obtain rfl : v221 = some (.int (nI nd70)) := hw220
          have hP : va_P G.1 pCl (mW G h0 a (upd (upd (upd (upd (upd (upd (upd F 15 (nI fa68)) 16 pl69) 27 (nI (nd70 + 1))) 31 (nI wr72)) 64 (nI at67)) 65 (nI (ne + 1))) 66 (nI lk71)) (updA X222 2 K)) _ := mW_to (F := F) (l1 := [(15, (nI fa68)), (16, pl69), (27, (nI nd70)), (31, (nI wr72)), (64, (nI at67)), (65, (nI (ne + 1))), (66, (nI lk71)), (27, (nI (nd70 + 1)))]) (l2 := [(15, (nI fa68)), (16, pl69), (27, (nI (nd70 + 1))), (31, (nI wr72)), (64, (nI at67)), (65, (nI (ne + 1))), (66, (nI lk71))]) (V := [(nI fa68), pl69, (nI (nd70 + 1)), (nI wr72), (nI at67), (nI (ne + 1)), (nI lk71), (nI (nd70 + 1)), (nI fa68), pl69, (nI (nd70 + 1)), (nI wr72), (nI at67), (nI (ne + 1)), (nI lk71)]) rfl rfl rfl hP
          have hD : va_D A (mW G h0 a (upd (upd (upd (upd (upd (upd (upd F 15 (nI fa68)) 16 pl69) 27 (nI (nd70 + 1))) 31 (nI wr72)) 64 (nI at67)) 65 (nI (ne + 1))) 66 (nI lk71)) (updA X222 2 K)) := mW_D hD
          refine W.widen (k := 0) (n := 0) (Nat.le_of_ble_eq_true rfl) (Nat.le_of_ble_eq_true rfl) ?_
          refine W.eq (g2 := F0 m 54 ls [.int (nI nd70)]) rfl ?_
          have hkp224 : Kp B X222 wr72 T := (Kp.new hkp89 h223)
          refine lv_istore_n (lv' := [(3, .int (nI nd70)), (2, .int (nI at6)), (1, .int (nI r12)), (0, .ref h0)]) hx hb dX12_choice_54 rfl hl (by decide) rfl (fun ls hl => ?_)
          refine lv_aload_n hx hb dX12_choice_55 rfl (lv_at hl 3 rfl) ?_
          refine lv_bipush (v := 58) hx hb dX12_choice_56 (by decide) ?_
          have hP : va_P G.1 pCl (mW G h0 a (upd (upd (upd (upd (upd (upd (upd (upd (upd F 15 (nI fa68)) 16 pl69) 27 (nI (nd70 + 1))) 31 (nI wr72)) 64 (nI at67)) 65 (nI (ne + 1))) 66 (nI lk71)) 15 (nI fa68)) 64 (nI at67)) (updA (updA X222 2 K) 2 K)) _ := mW_to (F := F) (l1 := [(15, (nI fa68)), (16, pl69), (27, (nI (nd70 + 1))), (31, (nI wr72)), (64, (nI at67)), (65, (nI (ne + 1))), (66, (nI lk71))]) (l2 := [(15, (nI fa68)), (16, pl69), (27, (nI (nd70 + 1))), (31, (nI wr72)), (64, (nI at67)), (65, (nI (ne + 1))), (66, (nI lk71)), (15, (nI fa68)), (64, (nI at67))]) (V := [(nI fa68), pl69, (nI (nd70 + 1)), (nI wr72), (nI at67), (nI (ne + 1)), (nI lk71), (nI fa68), pl69, (nI (nd70 + 1)), (nI wr72), (nI at67), (nI (ne + 1)), (nI lk71), (nI fa68), (nI at67)]) rfl rfl (show (updA X222 2 K) = (updA (updA X222 2 K) 2 K) from updsA_eq2 (F := X222) (l1 := [(2, K)]) (l2 := [(2, K), (2, K)]) (V := [K, K, K]) rfl rfl) hP
          have hD : va_D A (mW G h0 a (upd (upd (upd (upd (upd (upd (upd (upd (upd F 15 (nI fa68)) 16 pl69) 27 (nI (nd70 + 1))) 31 (nI wr72)) 64 (nI at67)) 65 (nI (ne + 1))) 66 (nI lk71)) 15 (nI fa68)) 64 (nI at67)) (updA (updA X222 2 K) 2 K)) := mW_D hD
          refine pc_V0 (G := G) (As := [.int 58]) (rest := []) hx hb hml hown hq hE hX pX0_al hP hD hS hA hl.1 (R_take l G h0 a (upd (upd (upd (upd (upd (upd (upd F 15 (nI fa68)) 16 pl69) 27 (nI (nd70 + 1))) 31 (nI wr72)) 64 (nI at67)) 65 (nI (ne + 1))) 66 (nI lk71)) (updA X222 2 K) at67 T fa68 K 58 (by omega) (by omega) hK (by omega) (by decide) (by decide)) (gV pw_1614 pw_1615 pw_1616 pw_1523 pw_1601) hV_X12_take 0 9 rfl rfl rfl rfl (Nat.le_of_ble_eq_true rfl) dX12_choice_58 ⟨Nat.le_of_ble_eq_true rfl, Nat.le_of_ble_eq_true rfl⟩ ⟨(by show 4 + 1 ≤ (20 * n + 27); omega), (by show 8 + (2 + 11) + 103 ≤ (1000 * n + 40 * 27); omega)⟩ (fun v227 u225 H locs hw226 hP hD hS => ?_)
          obtain ⟨at228, fa229, pl230⟩ := u225
          obtain ⟨hw226, h231, h232, h233, h234, h235, h236, h237, h238⟩ := hw226
          have h231 : at67 ≤ at228 := h231
          have h232 : at228 ≤ T := h232
          have h233 : fa68 ≤ fa229 := h233
          have h234 : fa229 ≤ 100 := h234
          have h235 : If (0 < fa68) (at228 = at67 ∧ fa229 = fa68) := h235
          have h236 : at228 ≤ at67 + 1 := h236
          have h237 : at67 + 1 ≤ at228 + fa229 := h237
          have h238 : If (fa229 = 0) (K at67 = 58) := h238
          obtain rfl : v227 = none := hw226
          have hP : va_P G.1 pCl (mW G h0 a (upd (upd (upd (upd (upd (upd (upd F 15 (nI fa229)) 16 pl230) 27 (nI (nd70 + 1))) 31 (nI wr72)) 64 (nI at228)) 65 (nI (ne + 1))) 66 (nI lk71)) (updA X222 2 K)) _ := mW_to (F := F) (l1 := [(15, (nI fa68)), (16, pl69), (27, (nI (nd70 + 1))), (31, (nI wr72)), (64, (nI at67)), (65, (nI (ne + 1))), (66, (nI lk71)), (15, (nI fa229)), (16, pl230), (64, (nI at228))]) (l2 := [(15, (nI fa229)), (16, pl230), (27, (nI (nd70 + 1))), (31, (nI wr72)), (64, (nI at228)), (65, (nI (ne + 1))), (66, (nI lk71))]) (V := [(nI fa229), pl230, (nI (nd70 + 1)), (nI wr72), (nI at228), (nI (ne + 1)), (nI lk71), (nI fa229), pl230, (nI at228), (nI fa229), pl230, (nI (nd70 + 1)), (nI wr72), (nI at228), (nI (ne + 1)), (nI lk71)]) rfl rfl (show (updA (updA X222 2 K) 2 K) = (updA X222 2 K) from updsA_eq2 (F := X222) (l1 := [(2, K), (2, K)]) (l2 := [(2, K)]) (V := [K, K, K]) rfl rfl) hP
          have hD : va_D A (mW G h0 a (upd (upd (upd (upd (upd (upd (upd F 15 (nI fa229)) 16 pl230) 27 (nI (nd70 + 1))) 31 (nI wr72)) 64 (nI at228)) 65 (nI (ne + 1))) 66 (nI lk71)) (updA X222 2 K)) := mW_D hD
          refine W.widen (k := 0) (n := 0) (Nat.le_of_ble_eq_true rfl) (Nat.le_of_ble_eq_true rfl) ?_
          refine W.eq (g2 := F0 m 61 ls []) rfl ?_
          obtain ⟨n240, n239⟩ := h235 e90
          replace n240 := n240.symm
          subst n240
          replace n239 := n239.symm
          subst n239
          refine lv_aload_n hx hb dX12_choice_61 rfl (lv_at hl 3 rfl) ?_
          refine r_get (v := .ref (a 14)) hx hb hown hq hE hP 22 53 tFX12_22 (by decide) pw_1444 rfl dX12_choice_62 ?_
          refine lv_iload_n hx hb dX12_choice_65 rfl (lv_at hl 0 rfl) ?_
          refine lv_aload_n hx hb dX12_choice_66 rfl (lv_at hl 3 rfl) ?_
          have hP : va_P G.1 pCl (mW G h0 a (upd (upd (upd (upd (upd (upd (upd (upd (upd F 15 (nI fa68)) 16 pl230) 27 (nI (nd70 + 1))) 31 (nI wr72)) 64 (nI at67)) 65 (nI (ne + 1))) 66 (nI lk71)) 15 (nI fa68)) 64 (nI at67)) (updA (updA X222 2 K) 2 K)) _ := hP
          have hD : va_D A (mW G h0 a (upd (upd (upd (upd (upd (upd (upd (upd (upd F 15 (nI fa68)) 16 pl230) 27 (nI (nd70 + 1))) 31 (nI wr72)) 64 (nI at67)) 65 (nI (ne + 1))) 66 (nI lk71)) 15 (nI fa68)) 64 (nI at67)) (updA (updA X222 2 K) 2 K)) := mW_D hD
          refine pc_V0 (G := G) (As := []) (rest := [.int (nI nd70), .ref (a 14)]) hx hb hml hown hq hE hX pX0_al hP hD hS hA hl.1 (RF_choice l G h0 a (upd (upd (upd (upd (upd (upd (upd F 15 (nI fa68)) 16 pl230) 27 (nI (nd70 + 1))) 31 (nI wr72)) 64 (nI at67)) 65 (nI (ne + 1))) 66 (nI lk71)) (updA X222 2 K) at67 T fa68 K (by omega) (by omega) hK (by omega) e90) (gV pw_1640 pw_1641 pw_1642 pw_1523 pw_1656) hV_X12_choice 0 9 rfl rfl rfl rfl (Nat.le_of_ble_eq_true rfl) dX12_choice_67 ⟨Nat.le_of_ble_eq_true rfl, Nat.le_of_ble_eq_true rfl⟩ ⟨(by show 16 + 1 ≤ (20 * n + 27); omega), (by show 8 + (4 + 11) + 405 ≤ (1000 * n + 40 * 27); omega)⟩ (fun v243 u241 H locs hw242 hP hD hS => ?_)
          obtain rfl : v243 = some (.int 0) := hw242
          have hP : va_P G.1 pCl (mW G h0 a (upd (upd (upd (upd (upd (upd (upd F 15 (nI fa68)) 16 pl230) 27 (nI (nd70 + 1))) 31 (nI wr72)) 64 (nI at67)) 65 (nI (ne + 1))) 66 (nI lk71)) (updA X222 2 K)) _ := mW_to (F := F) (l1 := [(15, (nI fa68)), (16, pl230), (27, (nI (nd70 + 1))), (31, (nI wr72)), (64, (nI at67)), (65, (nI (ne + 1))), (66, (nI lk71)), (15, (nI fa68)), (64, (nI at67))]) (l2 := [(15, (nI fa68)), (16, pl230), (27, (nI (nd70 + 1))), (31, (nI wr72)), (64, (nI at67)), (65, (nI (ne + 1))), (66, (nI lk71))]) (V := [(nI fa68), pl230, (nI (nd70 + 1)), (nI wr72), (nI at67), (nI (ne + 1)), (nI lk71), (nI fa68), (nI at67), (nI fa68), pl230, (nI (nd70 + 1)), (nI wr72), (nI at67), (nI (ne + 1)), (nI lk71)]) rfl rfl (show (updA (updA X222 2 K) 2 K) = (updA X222 2 K) from updsA_eq2 (F := X222) (l1 := [(2, K), (2, K)]) (l2 := [(2, K)]) (V := [K, K, K]) rfl rfl) hP
          have hD : va_D A (mW G h0 a (upd (upd (upd (upd (upd (upd (upd F 15 (nI fa68)) 16 pl230) 27 (nI (nd70 + 1))) 31 (nI wr72)) 64 (nI at67)) 65 (nI (ne + 1))) 66 (nI lk71)) (updA X222 2 K)) := mW_D hD
          refine W.widen (k := 0) (n := 0) (Nat.le_of_ble_eq_true rfl) (Nat.le_of_ble_eq_true rfl) ?_
          refine W.eq (g2 := F0 m 70 ls [.int 0, .int (nI nd70), .ref (a 14)]) rfl ?_
          refine r_sti (f := (X222 14)) (j := nd70) hx hb hE hP hD hS 14 (ma_14 G a _) rfl (mas_14 G a _) (by omega) (by decide) dX12_choice_70 (fun H locs hP hD hS => ?_)
          have hP : va_P G.1 pCl (mW G h0 a (upd (upd (upd (upd (upd (upd (upd F 15 (nI fa68)) 16 pl230) 27 (nI (nd70 + 1))) 31 (nI wr72)) 64 (nI at67)) 65 (nI (ne + 1))) 66 (nI lk71)) (updA (stR X222 14 nd70 0) 2 K)) _ := mW_to (F := F) (l1 := [(15, (nI fa68)), (16, pl230), (27, (nI (nd70 + 1))), (31, (nI wr72)), (64, (nI at67)), (65, (nI (ne + 1))), (66, (nI lk71))]) (l2 := [(15, (nI fa68)), (16, pl230), (27, (nI (nd70 + 1))), (31, (nI wr72)), (64, (nI at67)), (65, (nI (ne + 1))), (66, (nI lk71))]) (V := [(nI fa68), pl230, (nI (nd70 + 1)), (nI wr72), (nI at67), (nI (ne + 1)), (nI lk71), (nI fa68), pl230, (nI (nd70 + 1)), (nI wr72), (nI at67), (nI (ne + 1)), (nI lk71)]) rfl rfl (show (updA (updA X222 2 K) 14 (upd (X222 14) nd70 0)) = (updA (stR X222 14 nd70 0) 2 K) from updsA_eq2 (F := X222) (l1 := [(2, K), (14, (upd (X222 14) nd70 0))]) (l2 := [(14, (upd (X222 14) nd70 0)), (2, K)]) (V := [K, (upd (X222 14) nd70 0), (upd (X222 14) nd70 0), K]) rfl rfl) hP
          have hD : va_D A (mW G h0 a (upd (upd (upd (upd (upd (upd (upd F 15 (nI fa68)) 16 pl230) 27 (nI (nd70 + 1))) 31 (nI wr72)) 64 (nI at67)) 65 (nI (ne + 1))) 66 (nI lk71)) (updA (stR X222 14 nd70 0) 2 K)) := mW_D hD
          have hkp244 : Kp B (stR X222 14 nd70 0) wr72 T := (Kp.row hkp224 (by omega))
          refine lv_aload_n hx hb dX12_choice_71 rfl (lv_at hl 3 rfl) ?_
          refine lv_dup hx hb dX12_choice_72 rfl ?_
          refine r_get (v := .int (nI (ne + 1))) hx hb hown hq hE hP 65 366 tFX12_65 (by decide) pw_1612 rfl dX12_choice_73 ?_
          refine lv_iconst (v := 1) hx hb dX12_choice_76 (by decide) ?_
          refine lv_isub hx hb dX12_choice_77 ?_
          refine lv_topi (fun x245 e246 => ?_)
          obtain rfl : x245 = nI ((ne + 1) - 1) := e246.trans (nI_subN (a := 1) (b := (ne + 1)) (by omega))
          refine r_put (v := (nI ((ne + 1) - 1))) (ty := .int) hx hb hown hq hE hP hD hS 65 366 tFX12_65 (by decide) pw_1612 (by decide) rfl rfl (ms_65 a _ _) dX12_choice_78 (fun H locs hP hD hS => ?_)
          refine lv_iload_n hx hb dX12_choice_81 rfl (lv_at hl 0 rfl) ?_
          have hz247 : at0 ≤ at67 := (by omega)
          have hz248 : at67 ≤ T := (by omega)
          have hz249 : fa68 ≤ 100 := (by omega)
          have hz250 : nd ≤ (nd70 + 1) := (by omega)
          have hz251 : (nd70 + 1) + 2 * at0 ≤ nd + 2 * at67 + 100000 * fa68 := (by omega)
          have hz252 : (nd70 + 1) + 2 * at0 ≤ nd + 2 * at67 + 40 * (21 - ne) := (by omega)
          have hz253 : wr ≤ wr72 := (by omega)
          have hz254 : wr72 + at0 ≤ wr + at67 := (by omega)
          have hz255 : lk ≤ lk71 := (by omega)
          have hz256 : lk71 ≤ 60 + 100 * fa68 := (by omega)
          have hz257 : at0 + 1 ≤ at67 + fa68 := (by omega)
          have hz258 : nd70 ≤ (nd70 + 1) := (by omega)
          have hz259 : Kp B (stR X222 14 nd70 0) wr72 T := hkp244
          have hz260 : If (fa68 = 0) (Low B (stR X222 14 nd70 0) nd wr ∧ Frs K T wr72 (stR X222 14 nd70 0) nd (nd70 + 1) 20000 [(nd70, (211 + lk71 - (10 * ne + lk)))] ∧ kcl 1 ((stR X222 14 nd70 0) 9 nd70) = true) := (fun e => absurd e (by omega))
          have hP : va_P G.1 pCl (mW G h0 a (upd (upd (upd (upd (upd (upd (upd F 15 (nI fa68)) 16 pl230) 27 (nI (nd70 + 1))) 31 (nI wr72)) 64 (nI at67)) 65 (nI ne)) 66 (nI lk71)) (updA (stR X222 14 nd70 0) 2 K)) _ := mW_to (F := F) (l1 := [(15, (nI fa68)), (16, pl230), (27, (nI (nd70 + 1))), (31, (nI wr72)), (64, (nI at67)), (65, (nI (ne + 1))), (66, (nI lk71)), (65, (nI ((ne + 1) - 1)))]) (l2 := [(15, (nI fa68)), (16, pl230), (27, (nI (nd70 + 1))), (31, (nI wr72)), (64, (nI at67)), (65, (nI ne)), (66, (nI lk71))]) (V := [(nI fa68), pl230, (nI (nd70 + 1)), (nI wr72), (nI at67), (nI ne), (nI lk71), (nI ne), (nI fa68), pl230, (nI (nd70 + 1)), (nI wr72), (nI at67), (nI ne), (nI lk71)]) rfl rfl rfl hP
          have hD : va_D A (mW G h0 a (upd (upd (upd (upd (upd (upd (upd F 15 (nI fa68)) 16 pl230) 27 (nI (nd70 + 1))) 31 (nI wr72)) 64 (nI at67)) 65 (nI ne)) 66 (nI lk71)) (updA (stR X222 14 nd70 0) 2 K)) := mW_D hD
          exact W.iret (v := (nI nd70)) hx hb hr (fun t9 ht9 hW9 => ⟨⟨_, (at67, fa68, pl230, (nd70 + 1), lk71, wr72, nd70, (stR X222 14 nd70 0)), rfl, ⟨rfl, hz247, hz248, hz249, hz250, hz251, hz252, hz253, hz254, hz255, hz256, hz257, hz258, hz259, hz260⟩, by rw [ht9]; exact hP, hD⟩, hS.F ht9⟩) hS.2.2 dX12_choice_82
      · have e55 := e55
        refine lv_aload_n hx hb dX12_choice_26 rfl (lv_at hl 2 rfl) ?_
        refine lv_dup hx hb dX12_choice_27 rfl ?_
        refine r_get (v := .int (nI at6)) hx hb hown hq hE hP 64 343 tFX12_64 (by decide) pw_1592 rfl dX12_choice_28 ?_
        refine lv_iconst (v := 1) hx hb dX12_choice_31 (by decide) ?_
        refine lv_iadd hx hb dX12_choice_32 ?_
        refine lv_topi (fun x261 e262 => ?_)
        obtain rfl : x261 = nI (at6 + 1) := e262.trans (nI_add (at6) (1))
        refine r_put (v := (nI (at6 + 1))) (ty := .int) hx hb hown hq hE hP hD hS 64 343 tFX12_64 (by decide) pw_1592 (by decide) rfl rfl (ms_64 a _ _) dX12_choice_33 (fun H locs hP hD hS => ?_)
        refine lv_aload_n hx hb dX12_choice_36 rfl (lv_at hl 2 rfl) ?_
        refine lv_bipush (v := 23) hx hb dX12_choice_37 (by decide) ?_
        refine lv_aload_n hx hb dX12_choice_39 rfl (lv_at hl 2 rfl) ?_
        refine r_get (v := .ref (a 10)) hx hb hown hq hE hP 18 41 tFX12_18 (by decide) pw_1440 rfl dX12_choice_40 ?_
        refine lv_iload_n hx hb dX12_choice_43 rfl (lv_at hl 1 rfl) ?_
        refine r_ldi (f := (X13 10)) (j := r12) hx hb hE hP 10 (ma_10 G a _) rfl (by omega) (by decide) dX12_choice_44 ?_
        refine lv_topi (fun x263 e264 => ?_)
        refine lv_iload_n hx hb dX12_choice_45 rfl (lv_at hl 0 rfl) ?_
        refine lv_iload_n hx hb dX12_choice_46 rfl (lv_at hl 1 rfl) ?_
        refine lv_aload_n hx hb dX12_choice_47 rfl (lv_at hl 2 rfl) ?_
        have hP : va_P G.1 pCl (mW G h0 a (upd (upd (upd (upd (upd (upd (upd (upd (upd F 15 (nI fa49)) 16 pl50) 27 (nI nd9)) 31 (nI wr11)) 64 (nI (at6 + 1))) 65 (nI (ne + 1))) 66 (nI lk10)) 15 (nI fa49)) 64 (nI (at6 + 1))) (updA (updA X13 2 K) 2 K)) _ := mW_to (F := F) (l1 := [(15, (nI fa49)), (16, pl50), (27, (nI nd9)), (31, (nI wr11)), (64, (nI at6)), (65, (nI (ne + 1))), (66, (nI lk10)), (64, (nI (at6 + 1)))]) (l2 := [(15, (nI fa49)), (16, pl50), (27, (nI nd9)), (31, (nI wr11)), (64, (nI (at6 + 1))), (65, (nI (ne + 1))), (66, (nI lk10)), (15, (nI fa49)), (64, (nI (at6 + 1)))]) (V := [(nI fa49), pl50, (nI nd9), (nI wr11), (nI (at6 + 1)), (nI (ne + 1)), (nI lk10), (nI (at6 + 1)), (nI fa49), pl50, (nI nd9), (nI wr11), (nI (at6 + 1)), (nI (ne + 1)), (nI lk10), (nI fa49), (nI (at6 + 1))]) rfl rfl (show (updA X13 2 K) = (updA (updA X13 2 K) 2 K) from updsA_eq2 (F := X13) (l1 := [(2, K)]) (l2 := [(2, K), (2, K)]) (V := [K, K, K]) rfl rfl) hP
        have hD : va_D A (mW G h0 a (upd (upd (upd (upd (upd (upd (upd (upd (upd F 15 (nI fa49)) 16 pl50) 27 (nI nd9)) 31 (nI wr11)) 64 (nI (at6 + 1))) 65 (nI (ne + 1))) 66 (nI lk10)) 15 (nI fa49)) 64 (nI (at6 + 1))) (updA (updA X13 2 K) 2 K)) := mW_D hD
        refine pc_V0 (G := G) (As := []) (rest := [.int (nI r12), .int (nI at6), .int x263, .int 23, .ref h0]) hx hb hml hown hq hE hX pX0_al hP hD hS hA hl.1 (RF_choice l G h0 a (upd (upd (upd (upd (upd (upd (upd F 15 (nI fa49)) 16 pl50) 27 (nI nd9)) 31 (nI wr11)) 64 (nI (at6 + 1))) 65 (nI (ne + 1))) 66 (nI lk10)) (updA X13 2 K) (at6 + 1) T fa49 K (by omega) (by omega) hK (by omega) e55) (gV pw_1640 pw_1641 pw_1642 pw_1523 pw_1656) hV_X12_choice 0 9 rfl rfl rfl rfl (Nat.le_of_ble_eq_true rfl) dX12_choice_48 ⟨Nat.le_of_ble_eq_true rfl, Nat.le_of_ble_eq_true rfl⟩ ⟨(by show 16 + 1 ≤ (20 * n + 27); omega), (by show 8 + (4 + 11) + 405 ≤ (1000 * n + 40 * 27); omega)⟩ (fun v267 u265 H locs hw266 hP hD hS => ?_)
        obtain rfl : v267 = some (.int 0) := hw266
        have hP : va_P G.1 pCl (mW G h0 a (upd (upd (upd (upd (upd (upd (upd F 15 (nI fa49)) 16 pl50) 27 (nI nd9)) 31 (nI wr11)) 64 (nI (at6 + 1))) 65 (nI (ne + 1))) 66 (nI lk10)) (updA X13 2 K)) _ := mW_to (F := F) (l1 := [(15, (nI fa49)), (16, pl50), (27, (nI nd9)), (31, (nI wr11)), (64, (nI (at6 + 1))), (65, (nI (ne + 1))), (66, (nI lk10)), (15, (nI fa49)), (64, (nI (at6 + 1)))]) (l2 := [(15, (nI fa49)), (16, pl50), (27, (nI nd9)), (31, (nI wr11)), (64, (nI (at6 + 1))), (65, (nI (ne + 1))), (66, (nI lk10))]) (V := [(nI fa49), pl50, (nI nd9), (nI wr11), (nI (at6 + 1)), (nI (ne + 1)), (nI lk10), (nI fa49), (nI (at6 + 1)), (nI fa49), pl50, (nI nd9), (nI wr11), (nI (at6 + 1)), (nI (ne + 1)), (nI lk10)]) rfl rfl (show (updA (updA X13 2 K) 2 K) = (updA X13 2 K) from updsA_eq2 (F := X13) (l1 := [(2, K), (2, K)]) (l2 := [(2, K)]) (V := [K, K, K]) rfl rfl) hP
        have hD : va_D A (mW G h0 a (upd (upd (upd (upd (upd (upd (upd F 15 (nI fa49)) 16 pl50) 27 (nI nd9)) 31 (nI wr11)) 64 (nI (at6 + 1))) 65 (nI (ne + 1))) 66 (nI lk10)) (updA X13 2 K)) := mW_D hD
        refine W.widen (k := 0) (n := 0) (Nat.le_of_ble_eq_true rfl) (Nat.le_of_ble_eq_true rfl) ?_
        refine W.eq (g2 := F0 m 51 ls [.int 0, .int (nI r12), .int (nI at6), .int x263, .int 23, .ref h0]) rfl ?_
        have hP : va_P G.1 pCl (mW G h0 a (upd (upd (upd (upd (upd (upd (upd (upd F 15 (nI fa49)) 16 pl50) 27 (nI nd9)) 31 (nI wr11)) 64 (nI (at6 + 1))) 65 (nI (ne + 1))) 66 (nI lk10)) 27 (nI nd9)) (updA X13 2 K)) _ := mW_to (F := F) (l1 := [(15, (nI fa49)), (16, pl50), (27, (nI nd9)), (31, (nI wr11)), (64, (nI (at6 + 1))), (65, (nI (ne + 1))), (66, (nI lk10))]) (l2 := [(15, (nI fa49)), (16, pl50), (27, (nI nd9)), (31, (nI wr11)), (64, (nI (at6 + 1))), (65, (nI (ne + 1))), (66, (nI lk10)), (27, (nI nd9))]) (V := [(nI fa49), pl50, (nI nd9), (nI wr11), (nI (at6 + 1)), (nI (ne + 1)), (nI lk10), (nI fa49), pl50, (nI nd9), (nI wr11), (nI (at6 + 1)), (nI (ne + 1)), (nI lk10), (nI nd9)]) rfl rfl rfl hP
        have hD : va_D A (mW G h0 a (upd (upd (upd (upd (upd (upd (upd (upd F 15 (nI fa49)) 16 pl50) 27 (nI nd9)) 31 (nI wr11)) 64 (nI (at6 + 1))) 65 (nI (ne + 1))) 66 (nI lk10)) 27 (nI nd9)) (updA X13 2 K)) := mW_D hD
        refine pc_V0 (G := G) (As := [.int 23, .int x263, .int (nI at6), .int (nI r12), .int 0]) (rest := []) hx hb hml hown hq hE hX pX0_al hP hD hS hA hl.1 (R_nodeB l G h0 a (upd (upd (upd (upd (upd (upd (upd F 15 (nI fa49)) 16 pl50) 27 (nI nd9)) 31 (nI wr11)) 64 (nI (at6 + 1))) 65 (nI (ne + 1))) 66 (nI lk10)) X13 23 x263 (nI at6) (nI r12) 0 nd9 K (by omega)) (gV pw_1650 pw_1651 pw_1652 pw_1523 pw_1589) hV_X12_node 0 9 rfl rfl rfl rfl (Nat.le_of_ble_eq_true rfl) dX12_choice_51 ⟨Nat.le_of_ble_eq_true rfl, Nat.le_of_ble_eq_true rfl⟩ ⟨(by show 2 + 1 ≤ (20 * n + 27); omega), (by show 8 + (7 + 11) + 60 ≤ (1000 * n + 40 * 27); omega)⟩ (fun v270 u268 H locs hw269 hP hD hS => ?_)
        obtain ⟨X271, rfl⟩ : ∃ z, z = u268 := ⟨_, rfl⟩
        obtain ⟨hw269, h272⟩ := hw269
        have h272 : NewN X13 X271 nd9 23 x263 (nI at6) (nI r12) 0 := h272
        obtain rfl : v270 = some (.int (nI nd9)) := hw269
        have hP : va_P G.1 pCl (mW G h0 a (upd (upd (upd (upd (upd (upd (upd F 15 (nI fa49)) 16 pl50) 27 (nI (nd9 + 1))) 31 (nI wr11)) 64 (nI (at6 + 1))) 65 (nI (ne + 1))) 66 (nI lk10)) (updA X271 2 K)) _ := mW_to (F := F) (l1 := [(15, (nI fa49)), (16, pl50), (27, (nI nd9)), (31, (nI wr11)), (64, (nI (at6 + 1))), (65, (nI (ne + 1))), (66, (nI lk10)), (27, (nI (nd9 + 1)))]) (l2 := [(15, (nI fa49)), (16, pl50), (27, (nI (nd9 + 1))), (31, (nI wr11)), (64, (nI (at6 + 1))), (65, (nI (ne + 1))), (66, (nI lk10))]) (V := [(nI fa49), pl50, (nI (nd9 + 1)), (nI wr11), (nI (at6 + 1)), (nI (ne + 1)), (nI lk10), (nI (nd9 + 1)), (nI fa49), pl50, (nI (nd9 + 1)), (nI wr11), (nI (at6 + 1)), (nI (ne + 1)), (nI lk10)]) rfl rfl rfl hP
        have hD : va_D A (mW G h0 a (upd (upd (upd (upd (upd (upd (upd F 15 (nI fa49)) 16 pl50) 27 (nI (nd9 + 1))) 31 (nI wr11)) 64 (nI (at6 + 1))) 65 (nI (ne + 1))) 66 (nI lk10)) (updA X271 2 K)) := mW_D hD
        refine W.widen (k := 0) (n := 0) (Nat.le_of_ble_eq_true rfl) (Nat.le_of_ble_eq_true rfl) ?_
        refine W.eq (g2 := F0 m 54 ls [.int (nI nd9)]) rfl ?_
        have hkp273 : Kp B X271 wr11 T := (Kp.new hkp28 h272)
        refine lv_istore_n (lv' := [(3, .int (nI nd9)), (2, .int (nI at6)), (1, .int (nI r12)), (0, .ref h0)]) hx hb dX12_choice_54 rfl hl (by decide) rfl (fun ls hl => ?_)
        refine lv_aload_n hx hb dX12_choice_55 rfl (lv_at hl 3 rfl) ?_
        refine lv_bipush (v := 58) hx hb dX12_choice_56 (by decide) ?_
        have hP : va_P G.1 pCl (mW G h0 a (upd (upd (upd (upd (upd (upd (upd (upd (upd F 15 (nI fa49)) 16 pl50) 27 (nI (nd9 + 1))) 31 (nI wr11)) 64 (nI (at6 + 1))) 65 (nI (ne + 1))) 66 (nI lk10)) 15 (nI fa49)) 64 (nI (at6 + 1))) (updA (updA X271 2 K) 2 K)) _ := mW_to (F := F) (l1 := [(15, (nI fa49)), (16, pl50), (27, (nI (nd9 + 1))), (31, (nI wr11)), (64, (nI (at6 + 1))), (65, (nI (ne + 1))), (66, (nI lk10))]) (l2 := [(15, (nI fa49)), (16, pl50), (27, (nI (nd9 + 1))), (31, (nI wr11)), (64, (nI (at6 + 1))), (65, (nI (ne + 1))), (66, (nI lk10)), (15, (nI fa49)), (64, (nI (at6 + 1)))]) (V := [(nI fa49), pl50, (nI (nd9 + 1)), (nI wr11), (nI (at6 + 1)), (nI (ne + 1)), (nI lk10), (nI fa49), pl50, (nI (nd9 + 1)), (nI wr11), (nI (at6 + 1)), (nI (ne + 1)), (nI lk10), (nI fa49), (nI (at6 + 1))]) rfl rfl (show (updA X271 2 K) = (updA (updA X271 2 K) 2 K) from updsA_eq2 (F := X271) (l1 := [(2, K)]) (l2 := [(2, K), (2, K)]) (V := [K, K, K]) rfl rfl) hP
        have hD : va_D A (mW G h0 a (upd (upd (upd (upd (upd (upd (upd (upd (upd F 15 (nI fa49)) 16 pl50) 27 (nI (nd9 + 1))) 31 (nI wr11)) 64 (nI (at6 + 1))) 65 (nI (ne + 1))) 66 (nI lk10)) 15 (nI fa49)) 64 (nI (at6 + 1))) (updA (updA X271 2 K) 2 K)) := mW_D hD
        refine pc_V0 (G := G) (As := [.int 58]) (rest := []) hx hb hml hown hq hE hX pX0_al hP hD hS hA hl.1 (R_take l G h0 a (upd (upd (upd (upd (upd (upd (upd F 15 (nI fa49)) 16 pl50) 27 (nI (nd9 + 1))) 31 (nI wr11)) 64 (nI (at6 + 1))) 65 (nI (ne + 1))) 66 (nI lk10)) (updA X271 2 K) (at6 + 1) T fa49 K 58 (by omega) (by omega) hK (by omega) (by decide) (by decide)) (gV pw_1614 pw_1615 pw_1616 pw_1523 pw_1601) hV_X12_take 0 9 rfl rfl rfl rfl (Nat.le_of_ble_eq_true rfl) dX12_choice_58 ⟨Nat.le_of_ble_eq_true rfl, Nat.le_of_ble_eq_true rfl⟩ ⟨(by show 4 + 1 ≤ (20 * n + 27); omega), (by show 8 + (2 + 11) + 103 ≤ (1000 * n + 40 * 27); omega)⟩ (fun v276 u274 H locs hw275 hP hD hS => ?_)
        obtain ⟨at277, fa278, pl279⟩ := u274
        obtain ⟨hw275, h280, h281, h282, h283, h284, h285, h286, h287⟩ := hw275
        have h280 : (at6 + 1) ≤ at277 := h280
        have h281 : at277 ≤ T := h281
        have h282 : fa49 ≤ fa278 := h282
        have h283 : fa278 ≤ 100 := h283
        have h284 : If (0 < fa49) (at277 = (at6 + 1) ∧ fa278 = fa49) := h284
        have h285 : at277 ≤ (at6 + 1) + 1 := h285
        have h286 : (at6 + 1) + 1 ≤ at277 + fa278 := h286
        have h287 : If (fa278 = 0) (K (at6 + 1) = 58) := h287
        obtain rfl : v276 = none := hw275
        have hP : va_P G.1 pCl (mW G h0 a (upd (upd (upd (upd (upd (upd (upd F 15 (nI fa278)) 16 pl279) 27 (nI (nd9 + 1))) 31 (nI wr11)) 64 (nI at277)) 65 (nI (ne + 1))) 66 (nI lk10)) (updA X271 2 K)) _ := mW_to (F := F) (l1 := [(15, (nI fa49)), (16, pl50), (27, (nI (nd9 + 1))), (31, (nI wr11)), (64, (nI (at6 + 1))), (65, (nI (ne + 1))), (66, (nI lk10)), (15, (nI fa278)), (16, pl279), (64, (nI at277))]) (l2 := [(15, (nI fa278)), (16, pl279), (27, (nI (nd9 + 1))), (31, (nI wr11)), (64, (nI at277)), (65, (nI (ne + 1))), (66, (nI lk10))]) (V := [(nI fa278), pl279, (nI (nd9 + 1)), (nI wr11), (nI at277), (nI (ne + 1)), (nI lk10), (nI fa278), pl279, (nI at277), (nI fa278), pl279, (nI (nd9 + 1)), (nI wr11), (nI at277), (nI (ne + 1)), (nI lk10)]) rfl rfl (show (updA (updA X271 2 K) 2 K) = (updA X271 2 K) from updsA_eq2 (F := X271) (l1 := [(2, K), (2, K)]) (l2 := [(2, K)]) (V := [K, K, K]) rfl rfl) hP
        have hD : va_D A (mW G h0 a (upd (upd (upd (upd (upd (upd (upd F 15 (nI fa278)) 16 pl279) 27 (nI (nd9 + 1))) 31 (nI wr11)) 64 (nI at277)) 65 (nI (ne + 1))) 66 (nI lk10)) (updA X271 2 K)) := mW_D hD
        refine W.widen (k := 0) (n := 0) (Nat.le_of_ble_eq_true rfl) (Nat.le_of_ble_eq_true rfl) ?_
        refine W.eq (g2 := F0 m 61 ls []) rfl ?_
        obtain ⟨n289, n288⟩ := h284 e55
        replace n289 := n289.symm
        subst n289
        replace n288 := n288.symm
        subst n288
        refine lv_aload_n hx hb dX12_choice_61 rfl (lv_at hl 3 rfl) ?_
        refine r_get (v := .ref (a 14)) hx hb hown hq hE hP 22 53 tFX12_22 (by decide) pw_1444 rfl dX12_choice_62 ?_
        refine lv_iload_n hx hb dX12_choice_65 rfl (lv_at hl 0 rfl) ?_
        refine lv_aload_n hx hb dX12_choice_66 rfl (lv_at hl 3 rfl) ?_
        have hP : va_P G.1 pCl (mW G h0 a (upd (upd (upd (upd (upd (upd (upd (upd (upd F 15 (nI fa49)) 16 pl279) 27 (nI (nd9 + 1))) 31 (nI wr11)) 64 (nI (at6 + 1))) 65 (nI (ne + 1))) 66 (nI lk10)) 15 (nI fa49)) 64 (nI (at6 + 1))) (updA (updA X271 2 K) 2 K)) _ := hP
        have hD : va_D A (mW G h0 a (upd (upd (upd (upd (upd (upd (upd (upd (upd F 15 (nI fa49)) 16 pl279) 27 (nI (nd9 + 1))) 31 (nI wr11)) 64 (nI (at6 + 1))) 65 (nI (ne + 1))) 66 (nI lk10)) 15 (nI fa49)) 64 (nI (at6 + 1))) (updA (updA X271 2 K) 2 K)) := mW_D hD
        refine pc_V0 (G := G) (As := []) (rest := [.int (nI nd9), .ref (a 14)]) hx hb hml hown hq hE hX pX0_al hP hD hS hA hl.1 (RF_choice l G h0 a (upd (upd (upd (upd (upd (upd (upd F 15 (nI fa49)) 16 pl279) 27 (nI (nd9 + 1))) 31 (nI wr11)) 64 (nI (at6 + 1))) 65 (nI (ne + 1))) 66 (nI lk10)) (updA X271 2 K) (at6 + 1) T fa49 K (by omega) (by omega) hK (by omega) e55) (gV pw_1640 pw_1641 pw_1642 pw_1523 pw_1656) hV_X12_choice 0 9 rfl rfl rfl rfl (Nat.le_of_ble_eq_true rfl) dX12_choice_67 ⟨Nat.le_of_ble_eq_true rfl, Nat.le_of_ble_eq_true rfl⟩ ⟨(by show 16 + 1 ≤ (20 * n + 27); omega), (by show 8 + (4 + 11) + 405 ≤ (1000 * n + 40 * 27); omega)⟩ (fun v292 u290 H locs hw291 hP hD hS => ?_)
        obtain rfl : v292 = some (.int 0) := hw291
        have hP : va_P G.1 pCl (mW G h0 a (upd (upd (upd (upd (upd (upd (upd F 15 (nI fa49)) 16 pl279) 27 (nI (nd9 + 1))) 31 (nI wr11)) 64 (nI (at6 + 1))) 65 (nI (ne + 1))) 66 (nI lk10)) (updA X271 2 K)) _ := mW_to (F := F) (l1 := [(15, (nI fa49)), (16, pl279), (27, (nI (nd9 + 1))), (31, (nI wr11)), (64, (nI (at6 + 1))), (65, (nI (ne + 1))), (66, (nI lk10)), (15, (nI fa49)), (64, (nI (at6 + 1)))]) (l2 := [(15, (nI fa49)), (16, pl279), (27, (nI (nd9 + 1))), (31, (nI wr11)), (64, (nI (at6 + 1))), (65, (nI (ne + 1))), (66, (nI lk10))]) (V := [(nI fa49), pl279, (nI (nd9 + 1)), (nI wr11), (nI (at6 + 1)), (nI (ne + 1)), (nI lk10), (nI fa49), (nI (at6 + 1)), (nI fa49), pl279, (nI (nd9 + 1)), (nI wr11), (nI (at6 + 1)), (nI (ne + 1)), (nI lk10)]) rfl rfl (show (updA (updA X271 2 K) 2 K) = (updA X271 2 K) from updsA_eq2 (F := X271) (l1 := [(2, K), (2, K)]) (l2 := [(2, K)]) (V := [K, K, K]) rfl rfl) hP
        have hD : va_D A (mW G h0 a (upd (upd (upd (upd (upd (upd (upd F 15 (nI fa49)) 16 pl279) 27 (nI (nd9 + 1))) 31 (nI wr11)) 64 (nI (at6 + 1))) 65 (nI (ne + 1))) 66 (nI lk10)) (updA X271 2 K)) := mW_D hD
        refine W.widen (k := 0) (n := 0) (Nat.le_of_ble_eq_true rfl) (Nat.le_of_ble_eq_true rfl) ?_
        refine W.eq (g2 := F0 m 70 ls [.int 0, .int (nI nd9), .ref (a 14)]) rfl ?_
        refine r_sti (f := (X271 14)) (j := nd9) hx hb hE hP hD hS 14 (ma_14 G a _) rfl (mas_14 G a _) (by omega) (by decide) dX12_choice_70 (fun H locs hP hD hS => ?_)
        have hP : va_P G.1 pCl (mW G h0 a (upd (upd (upd (upd (upd (upd (upd F 15 (nI fa49)) 16 pl279) 27 (nI (nd9 + 1))) 31 (nI wr11)) 64 (nI (at6 + 1))) 65 (nI (ne + 1))) 66 (nI lk10)) (updA (stR X271 14 nd9 0) 2 K)) _ := mW_to (F := F) (l1 := [(15, (nI fa49)), (16, pl279), (27, (nI (nd9 + 1))), (31, (nI wr11)), (64, (nI (at6 + 1))), (65, (nI (ne + 1))), (66, (nI lk10))]) (l2 := [(15, (nI fa49)), (16, pl279), (27, (nI (nd9 + 1))), (31, (nI wr11)), (64, (nI (at6 + 1))), (65, (nI (ne + 1))), (66, (nI lk10))]) (V := [(nI fa49), pl279, (nI (nd9 + 1)), (nI wr11), (nI (at6 + 1)), (nI (ne + 1)), (nI lk10), (nI fa49), pl279, (nI (nd9 + 1)), (nI wr11), (nI (at6 + 1)), (nI (ne + 1)), (nI lk10)]) rfl rfl (show (updA (updA X271 2 K) 14 (upd (X271 14) nd9 0)) = (updA (stR X271 14 nd9 0) 2 K) from updsA_eq2 (F := X271) (l1 := [(2, K), (14, (upd (X271 14) nd9 0))]) (l2 := [(14, (upd (X271 14) nd9 0)), (2, K)]) (V := [K, (upd (X271 14) nd9 0), (upd (X271 14) nd9 0), K]) rfl rfl) hP
        have hD : va_D A (mW G h0 a (upd (upd (upd (upd (upd (upd (upd F 15 (nI fa49)) 16 pl279) 27 (nI (nd9 + 1))) 31 (nI wr11)) 64 (nI (at6 + 1))) 65 (nI (ne + 1))) 66 (nI lk10)) (updA (stR X271 14 nd9 0) 2 K)) := mW_D hD
        have hkp293 : Kp B (stR X271 14 nd9 0) wr11 T := (Kp.row hkp273 (by omega))
        refine lv_aload_n hx hb dX12_choice_71 rfl (lv_at hl 3 rfl) ?_
        refine lv_dup hx hb dX12_choice_72 rfl ?_
        refine r_get (v := .int (nI (ne + 1))) hx hb hown hq hE hP 65 366 tFX12_65 (by decide) pw_1612 rfl dX12_choice_73 ?_
        refine lv_iconst (v := 1) hx hb dX12_choice_76 (by decide) ?_
        refine lv_isub hx hb dX12_choice_77 ?_
        refine lv_topi (fun x294 e295 => ?_)
        obtain rfl : x294 = nI ((ne + 1) - 1) := e295.trans (nI_subN (a := 1) (b := (ne + 1)) (by omega))
        refine r_put (v := (nI ((ne + 1) - 1))) (ty := .int) hx hb hown hq hE hP hD hS 65 366 tFX12_65 (by decide) pw_1612 (by decide) rfl rfl (ms_65 a _ _) dX12_choice_78 (fun H locs hP hD hS => ?_)
        refine lv_iload_n hx hb dX12_choice_81 rfl (lv_at hl 0 rfl) ?_
        have hz296 : at0 ≤ (at6 + 1) := (by omega)
        have hz297 : (at6 + 1) ≤ T := (by omega)
        have hz298 : fa49 ≤ 100 := (by omega)
        have hz299 : nd ≤ (nd9 + 1) := (by omega)
        have hz300 : (nd9 + 1) + 2 * at0 ≤ nd + 2 * (at6 + 1) + 100000 * fa49 := (by omega)
        have hz301 : (nd9 + 1) + 2 * at0 ≤ nd + 2 * (at6 + 1) + 40 * (21 - ne) := (by omega)
        have hz302 : wr ≤ wr11 := (by omega)
        have hz303 : wr11 + at0 ≤ wr + (at6 + 1) := (by omega)
        have hz304 : lk ≤ lk10 := (by omega)
        have hz305 : lk10 ≤ 60 + 100 * fa49 := (by omega)
        have hz306 : at0 + 1 ≤ (at6 + 1) + fa49 := (by omega)
        have hz307 : nd9 ≤ (nd9 + 1) := (by omega)
        have hz308 : Kp B (stR X271 14 nd9 0) wr11 T := hkp293
        have hz309 : If (fa49 = 0) (Low B (stR X271 14 nd9 0) nd wr ∧ Frs K T wr11 (stR X271 14 nd9 0) nd (nd9 + 1) 20000 [(nd9, (211 + lk10 - (10 * ne + lk)))] ∧ kcl 1 ((stR X271 14 nd9 0) 9 nd9) = true) := (fun e => absurd e (by omega))
        have hP : va_P G.1 pCl (mW G h0 a (upd (upd (upd (upd (upd (upd (upd F 15 (nI fa49)) 16 pl279) 27 (nI (nd9 + 1))) 31 (nI wr11)) 64 (nI (at6 + 1))) 65 (nI ne)) 66 (nI lk10)) (updA (stR X271 14 nd9 0) 2 K)) _ := mW_to (F := F) (l1 := [(15, (nI fa49)), (16, pl279), (27, (nI (nd9 + 1))), (31, (nI wr11)), (64, (nI (at6 + 1))), (65, (nI (ne + 1))), (66, (nI lk10)), (65, (nI ((ne + 1) - 1)))]) (l2 := [(15, (nI fa49)), (16, pl279), (27, (nI (nd9 + 1))), (31, (nI wr11)), (64, (nI (at6 + 1))), (65, (nI ne)), (66, (nI lk10))]) (V := [(nI fa49), pl279, (nI (nd9 + 1)), (nI wr11), (nI (at6 + 1)), (nI ne), (nI lk10), (nI ne), (nI fa49), pl279, (nI (nd9 + 1)), (nI wr11), (nI (at6 + 1)), (nI ne), (nI lk10)]) rfl rfl rfl hP
        have hD : va_D A (mW G h0 a (upd (upd (upd (upd (upd (upd (upd F 15 (nI fa49)) 16 pl279) 27 (nI (nd9 + 1))) 31 (nI wr11)) 64 (nI (at6 + 1))) 65 (nI ne)) 66 (nI lk10)) (updA (stR X271 14 nd9 0) 2 K)) := mW_D hD
        exact W.iret (v := (nI nd9)) hx hb hr (fun t9 ht9 hW9 => ⟨⟨_, ((at6 + 1), fa49, pl279, (nd9 + 1), lk10, wr11, nd9, (stR X271 14 nd9 0)), rfl, ⟨rfl, hz296, hz297, hz298, hz299, hz300, hz301, hz302, hz303, hz304, hz305, hz306, hz307, hz308, hz309⟩, by rw [ht9]; exact hP, hD⟩, hS.F ht9⟩) hS.2.2 dX12_choice_82
    · have n310 : r38 = 0 := (nI_eq (a := r38) (b := 0) (by omega) (by omega)).mp c43
      refine lv_iload_n hx hb dX12_choice_15 rfl (lv_at hl 0 rfl) ?_
      have hz311 : at0 ≤ at6 := (by omega)
      have hz312 : at6 ≤ T := (by omega)
      have hz313 : 0 ≤ 100 := (by omega)
      have hz314 : nd ≤ nd9 := (by omega)
      have hz315 : nd9 + 2 * at0 ≤ nd + 2 * at6 + 100000 * 0 := (by omega)
      have hz316 : nd9 + 2 * at0 ≤ nd + 2 * at6 + 40 * (21 - ne) := (by omega)
      have hz317 : wr ≤ wr11 := (by omega)
      have hz318 : wr11 + at0 ≤ wr + at6 := (by omega)
      have hz319 : lk ≤ lk10 := (by omega)
      have hz320 : lk10 ≤ 60 + 100 * 0 := (by omega)
      have hz321 : at0 + 1 ≤ at6 + 0 := (by omega)
      have hz322 : r12 ≤ nd9 := (by omega)
      have hz323 : Kp B X13 wr11 T := hkp28
      have hz324 : If (0 = 0) (Low B X13 nd wr ∧ Frs K T wr11 X13 nd nd9 20000 [(r12, (211 + lk10 - (10 * ne + lk)))] ∧ kcl 1 (X13 9 r12) = true) := (fun _ => ⟨hlo33, Frs.up hf31 (by omega), hc32⟩)
      have hP : va_P G.1 pCl (mW G h0 a (upd (upd (upd (upd (upd (upd (upd F 15 (nI 0)) 16 pl8) 27 (nI nd9)) 31 (nI wr11)) 64 (nI at6)) 65 (nI ne)) 66 (nI lk10)) (updA X13 2 K)) _ := mW_to (F := F) (l1 := [(15, 0), (16, pl8), (27, (nI nd9)), (31, (nI wr11)), (64, (nI at6)), (65, (nI ne)), (66, (nI lk10))]) (l2 := [(15, (nI 0)), (16, pl8), (27, (nI nd9)), (31, (nI wr11)), (64, (nI at6)), (65, (nI ne)), (66, (nI lk10))]) (V := [(nI 0), pl8, (nI nd9), (nI wr11), (nI at6), (nI ne), (nI lk10), (nI 0), pl8, (nI nd9), (nI wr11), (nI at6), (nI ne), (nI lk10)]) rfl rfl rfl hP
      have hD : va_D A (mW G h0 a (upd (upd (upd (upd (upd (upd (upd F 15 (nI 0)) 16 pl8) 27 (nI nd9)) 31 (nI wr11)) 64 (nI at6)) 65 (nI ne)) 66 (nI lk10)) (updA X13 2 K)) := mW_D hD
      exact W.iret (v := (nI r12)) hx hb hr (fun t9 ht9 hW9 => ⟨⟨_, (at6, 0, pl8, nd9, lk10, wr11, r12, X13), rfl, ⟨rfl, hz311, hz312, hz313, hz314, hz315, hz316, hz317, hz318, hz319, hz320, hz321, hz322, hz323, hz324⟩, by rw [ht9]; exact hP, hD⟩, hS.F ht9⟩) hS.2.2 dX12_choice_16
  · have e29 := e29
    refine lv_istore_n (lv' := [(1, .int (nI r12)), (0, .ref h0)]) hx hb dX12_choice_5 rfl hl (by decide) rfl (fun ls hl => ?_)
    refine lv_aload_n hx hb dX12_choice_6 rfl (lv_at hl 1 rfl) ?_
    refine lv_bipush (v := 63) hx hb dX12_choice_7 (by decide) ?_
    have hP : va_P G.1 pCl (mW G h0 a (upd (upd (upd (upd (upd (upd (upd (upd (upd F 15 (nI fa7)) 16 pl8) 27 (nI nd9)) 31 (nI wr11)) 64 (nI at6)) 65 (nI ne)) 66 (nI lk10)) 15 (nI fa7)) 64 (nI at6)) (updA (updA X13 2 K) 2 K)) _ := mW_to (F := F) (l1 := [(15, (nI fa7)), (16, pl8), (27, (nI nd9)), (31, (nI wr11)), (64, (nI at6)), (65, (nI ne)), (66, (nI lk10))]) (l2 := [(15, (nI fa7)), (16, pl8), (27, (nI nd9)), (31, (nI wr11)), (64, (nI at6)), (65, (nI ne)), (66, (nI lk10)), (15, (nI fa7)), (64, (nI at6))]) (V := [(nI fa7), pl8, (nI nd9), (nI wr11), (nI at6), (nI ne), (nI lk10), (nI fa7), pl8, (nI nd9), (nI wr11), (nI at6), (nI ne), (nI lk10), (nI fa7), (nI at6)]) rfl rfl (show (updA X13 2 K) = (updA (updA X13 2 K) 2 K) from updsA_eq2 (F := X13) (l1 := [(2, K)]) (l2 := [(2, K), (2, K)]) (V := [K, K, K]) rfl rfl) hP
    have hD : va_D A (mW G h0 a (upd (upd (upd (upd (upd (upd (upd (upd (upd F 15 (nI fa7)) 16 pl8) 27 (nI nd9)) 31 (nI wr11)) 64 (nI at6)) 65 (nI ne)) 66 (nI lk10)) 15 (nI fa7)) 64 (nI at6)) (updA (updA X13 2 K) 2 K)) := mW_D hD
    refine pc_V0 (G := G) (As := [.int 63]) (rest := []) hx hb hml hown hq hE hX pX0_al hP hD hS hA hl.1 (R_is l G h0 a (upd (upd (upd (upd (upd (upd (upd F 15 (nI fa7)) 16 pl8) 27 (nI nd9)) 31 (nI wr11)) 64 (nI at6)) 65 (nI ne)) 66 (nI lk10)) (updA X13 2 K) at6 T fa7 K 63 (by omega) (by omega) hK (by omega)) (gV pw_1606 pw_1607 pw_1608 pw_1523 pw_1600) hV_X12_is 0 9 rfl rfl rfl rfl (Nat.le_of_ble_eq_true rfl) dX12_choice_9 ⟨Nat.le_of_ble_eq_true rfl, Nat.le_of_ble_eq_true rfl⟩ ⟨(by show 2 + 1 ≤ (20 * n + 27); omega), (by show 8 + (2 + 11) + 60 ≤ (1000 * n + 40 * 27); omega)⟩ (fun v327 u325 H locs hw326 hP hD hS => ?_)
    obtain ⟨r328, rfl⟩ : ∃ z, z = u325 := ⟨_, rfl⟩
    obtain ⟨hw326, h329, h330, h331, h332⟩ := hw326
    have h329 : r328 ≤ 1 := h329
    have h330 : fa7 + 100 * r328 ≤ 100 := h330
    have h331 : If (r328 = 1) (K at6 = 63) := h331
    have h332 : If (r328 = 0) (fa7 = 0 → ¬ K at6 = 63) := h332
    obtain rfl : v327 = some (.int (nI r328)) := hw326
    have hP : va_P G.1 pCl (mW G h0 a (upd (upd (upd (upd (upd (upd (upd F 15 (nI fa7)) 16 pl8) 27 (nI nd9)) 31 (nI wr11)) 64 (nI at6)) 65 (nI ne)) 66 (nI lk10)) (updA X13 2 K)) _ := mW_to (F := F) (l1 := [(15, (nI fa7)), (16, pl8), (27, (nI nd9)), (31, (nI wr11)), (64, (nI at6)), (65, (nI ne)), (66, (nI lk10)), (15, (nI fa7)), (64, (nI at6))]) (l2 := [(15, (nI fa7)), (16, pl8), (27, (nI nd9)), (31, (nI wr11)), (64, (nI at6)), (65, (nI ne)), (66, (nI lk10))]) (V := [(nI fa7), pl8, (nI nd9), (nI wr11), (nI at6), (nI ne), (nI lk10), (nI fa7), (nI at6), (nI fa7), pl8, (nI nd9), (nI wr11), (nI at6), (nI ne), (nI lk10)]) rfl rfl (show (updA (updA X13 2 K) 2 K) = (updA X13 2 K) from updsA_eq2 (F := X13) (l1 := [(2, K), (2, K)]) (l2 := [(2, K)]) (V := [K, K, K]) rfl rfl) hP
    have hD : va_D A (mW G h0 a (upd (upd (upd (upd (upd (upd (upd F 15 (nI fa7)) 16 pl8) 27 (nI nd9)) 31 (nI wr11)) 64 (nI at6)) 65 (nI ne)) 66 (nI lk10)) (updA X13 2 K)) := mW_D hD
    refine W.widen (k := 0) (n := 0) (Nat.le_of_ble_eq_true rfl) (Nat.le_of_ble_eq_true rfl) ?_
    refine W.eq (g2 := F0 m 12 ls [.int (nI r328)]) rfl ?_
    refine lv_if_ne (tgt := 17) hx hb dX12_choice_12 (by decide) (fun c333 => (by have n334 : ¬ (r328 = 0) := fun h9 => c333 ((nI_eq (a := r328) (b := 0) (by omega) (by omega)).mpr h9); omega)) (fun c333 => ?_)
    refine lv_iload_n hx hb dX12_choice_15 rfl (lv_at hl 0 rfl) ?_
    have hz335 : at0 ≤ at6 := (by omega)
    have hz336 : at6 ≤ T := (by omega)
    have hz337 : fa7 ≤ 100 := (by omega)
    have hz338 : nd ≤ nd9 := (by omega)
    have hz339 : nd9 + 2 * at0 ≤ nd + 2 * at6 + 100000 * fa7 := (by omega)
    have hz340 : nd9 + 2 * at0 ≤ nd + 2 * at6 + 40 * (21 - ne) := (by omega)
    have hz341 : wr ≤ wr11 := (by omega)
    have hz342 : wr11 + at0 ≤ wr + at6 := (by omega)
    have hz343 : lk ≤ lk10 := (by omega)
    have hz344 : lk10 ≤ 60 + 100 * fa7 := (by omega)
    have hz345 : at0 + 1 ≤ at6 + fa7 := (by omega)
    have hz346 : r12 ≤ nd9 := (by omega)
    have hz347 : Kp B X13 wr11 T := hkp28
    have hz348 : If (fa7 = 0) (Low B X13 nd wr ∧ Frs K T wr11 X13 nd nd9 20000 [(r12, (211 + lk10 - (10 * ne + lk)))] ∧ kcl 1 (X13 9 r12) = true) := (fun e => absurd e (by omega))
    have hP : va_P G.1 pCl (mW G h0 a (upd (upd (upd (upd (upd (upd (upd F 15 (nI fa7)) 16 pl8) 27 (nI nd9)) 31 (nI wr11)) 64 (nI at6)) 65 (nI ne)) 66 (nI lk10)) (updA X13 2 K)) _ := hP
    have hD : va_D A (mW G h0 a (upd (upd (upd (upd (upd (upd (upd F 15 (nI fa7)) 16 pl8) 27 (nI nd9)) 31 (nI wr11)) 64 (nI at6)) 65 (nI ne)) 66 (nI lk10)) (updA X13 2 K)) := mW_D hD
    exact W.iret (v := (nI r12)) hx hb hr (fun t9 ht9 hW9 => ⟨⟨_, (at6, fa7, pl8, nd9, lk10, wr11, r12, X13), rfl, ⟨rfl, hz335, hz336, hz337, hz338, hz339, hz340, hz341, hz342, hz343, hz344, hz345, hz346, hz347, hz348⟩, by rw [ht9]; exact hP, hD⟩, hS.F ht9⟩) hS.2.2 dX12_choice_16

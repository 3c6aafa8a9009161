theorem dX12_part_0 : decode cX12_part 0 = .ok (.aload_n 0, 1) := by decide +kernel
theorem dX12_part_1 : decode cX12_part 1 = .ok (.invokevirtual 435, 3) := by decide +kernel
theorem dX12_part_4 : decode cX12_part 4 = .ok (.ifCond .ne 8, 3) := by decide +kernel
theorem dX12_part_12 : decode cX12_part 12 = .ok (.aload_n 0, 1) := by decide +kernel
theorem dX12_part_13 : decode cX12_part 13 = .ok (.getfield 343, 3) := by decide +kernel
theorem dX12_part_16 : decode cX12_part 16 = .ok (.istore_n 1, 1) := by decide +kernel
theorem dX12_part_17 : decode cX12_part 17 = .ok (.aload_n 0, 1) := by decide +kernel
theorem dX12_part_18 : decode cX12_part 18 = .ok (.getfield 363, 3) := by decide +kernel
theorem dX12_part_21 : decode cX12_part 21 = .ok (.istore_n 2, 1) := by decide +kernel
theorem dX12_part_22 : decode cX12_part 22 = .ok (.aload_n 0, 1) := by decide +kernel
theorem dX12_part_23 : decode cX12_part 23 = .ok (.iconst 0, 1) := by decide +kernel
theorem dX12_part_24 : decode cX12_part 24 = .ok (.putfield 363, 3) := by decide +kernel
theorem dX12_part_27 : decode cX12_part 27 = .ok (.aload_n 0, 1) := by decide +kernel
theorem dX12_part_28 : decode cX12_part 28 = .ok (.invokevirtual 441, 3) := by decide +kernel
theorem dX12_part_31 : decode cX12_part 31 = .ok (.aload_n 0, 1) := by decide +kernel
theorem dX12_part_32 : decode cX12_part 32 = .ok (.iload_n 1, 1) := by decide +kernel
theorem dX12_part_33 : decode cX12_part 33 = .ok (.invokevirtual 444, 3) := by decide +kernel
theorem dX12_part_36 : decode cX12_part 36 = .ok (.istore_n 3, 1) := by decide +kernel
theorem dX12_part_37 : decode cX12_part 37 = .ok (.aload_n 0, 1) := by decide +kernel
theorem dX12_part_38 : decode cX12_part 38 = .ok (.bipush 59, 2) := by decide +kernel
theorem dX12_part_40 : decode cX12_part 40 = .ok (.invokevirtual 369, 3) := by decide +kernel
theorem dX12_part_43 : decode cX12_part 43 = .ok (.aload_n 0, 1) := by decide +kernel
theorem dX12_part_44 : decode cX12_part 44 = .ok (.dup, 1) := by decide +kernel
theorem dX12_part_45 : decode cX12_part 45 = .ok (.getfield 366, 3) := by decide +kernel
theorem dX12_part_48 : decode cX12_part 48 = .ok (.iconst 1, 1) := by decide +kernel
theorem dX12_part_49 : decode cX12_part 49 = .ok (.isub, 1) := by decide +kernel
theorem dX12_part_50 : decode cX12_part 50 = .ok (.putfield 366, 3) := by decide +kernel
theorem dX12_part_53 : decode cX12_part 53 = .ok (.aload_n 0, 1) := by decide +kernel
theorem dX12_part_54 : decode cX12_part 54 = .ok (.iload_n 2, 1) := by decide +kernel
theorem dX12_part_55 : decode cX12_part 55 = .ok (.putfield 363, 3) := by decide +kernel
theorem dX12_part_58 : decode cX12_part 58 = .ok (.iload_n 3, 1) := by decide +kernel
theorem dX12_part_59 : decode cX12_part 59 = .ok (.ireturn, 1) := by decide +kernel
theorem dX12_part_7 : decode cX12_part 7 = .ok (.aload_n 0, 1) := by decide +kernel
theorem dX12_part_8 : decode cX12_part 8 = .ok (.invokevirtual 438, 3) := by decide +kernel
theorem dX12_part_11 : decode cX12_part 11 = .ok (.ireturn, 1) := by decide +kernel
theorem hV_X12_isTyped : yX12_isTyped.cls = RX12 ∧ yX12_isTyped.cls ≠ "java/lang/invoke/MethodHandle" ∧ yX12_isTyped.cls ≠ "java/lang/invoke/VarHandle" ∧ (parseMethodDescriptor yX12_isTyped.desc).map (fun d => d.parameters.length) = some 0 := by decide +kernel
set_option maxHeartbeats 2000000 in
set_option maxRecDepth 100000 in
/-- part(), no fault ahead -/
theorem RT_part (l : Launch) (G : pT) (h0 : Nat) (a : Nat → Nat) (F : Nat → Int32) (B : Nat → Nat → Int32) (at0 : Nat) (T : Nat) (n : Nat) (ne : Nat) (nd : Nat) (wr : Nat) (lk : Nat) (K : Nat → Int32) (hat : at0 ≤ T) (hT : T ≤ 5000) (hK : K T = 0 ∨ K T = 3) (hne : ne ≤ 20) (hnd : nd ≤ 2 * at0) (hwr : wr ≤ at0) (hlk : lk ≤ 60) (hy : tkRow (B 19) wr T) (hn : 21 ≤ n + ne) (hSt : Pstatement l G n) (hlc : Plocal l G (n - 1)) : PM l G pX0 yX12_part cX12_part 4 (some .int) ({ frames := (26 * n + 41), cells := 0, slots := 0, locals := (2000 * n + 4100) }) [.ref h0] (mW G h0 a (upd (upd (upd (upd (upd (upd F 15 0) 27 (nI nd)) 31 (nI wr)) 64 (nI at0)) 65 (nI ne)) 66 (nI lk)) (updA B 2 K)) (fun (v : Option Value) (u : Nat × Nat × Int32 × Nat × Nat × Nat × Nat × (Nat → Nat → Int32)) => v = some (.int (nI u.2.2.2.2.2.2.1)) ∧ (at0 ≤ u.1) ∧ (u.1 ≤ T) ∧ (u.2.1 ≤ 100) ∧ (nd ≤ u.2.2.2.1) ∧ (u.2.2.2.1 + 2 * at0 ≤ nd + 2 * u.1 + 100000 * u.2.1) ∧ (u.2.2.2.1 + 2 * at0 ≤ nd + 2 * u.1 + (60 * (20 - ne) + 40)) ∧ (wr ≤ u.2.2.2.2.2.1) ∧ (u.2.2.2.2.2.1 + at0 ≤ wr + u.1) ∧ (lk ≤ u.2.2.2.2.1) ∧ (u.2.2.2.2.1 ≤ lk) ∧ (at0 + 1 ≤ u.1 + u.2.1) ∧ (u.2.2.2.2.2.2.1 ≤ u.2.2.2.1) ∧ (Kp B u.2.2.2.2.2.2.2 u.2.2.2.2.2.1 T) ∧ (If (u.2.1 = 0) (Low B u.2.2.2.2.2.2.2 nd wr ∧ Frs K T u.2.2.2.2.2.1 u.2.2.2.2.2.2.2 nd u.2.2.2.1 20000 [(u.2.2.2.2.2.2.1, (280 + 4 * (20 - ne)))] ∧ kcl 7 (u.2.2.2.2.2.2.2 9 u.2.2.2.2.2.2.1) = true))) (fun u => (mW G h0 a (upd (upd (upd (upd (upd (upd (upd F 15 (nI u.2.1)) 16 u.2.2.1) 27 (nI u.2.2.2.1)) 31 (nI u.2.2.2.2.2.1)) 64 (nI u.1)) 65 (nI ne)) 66 (nI u.2.2.2.2.1)) (updA u.2.2.2.2.2.2.2 2 K))) := by
  intro sz
  refine Met.ofW (cc := cX12_part) (maxL := 4) (ret := (some .int)) (by decide) rfl ?_
  intro p e s m args below meth c s₁ B9 hml hv
  obtain ⟨rfl, hsz, hP, hD0, hE, hX⟩ := hv
  have hx := B9.exec
  have hb := B9.bytes
  have hr := B9.returns
  have hts := atoms_spec (ws := Cond.code yX12_part cX12_part 4 (some .int) :: pw) B9.pre
  have hq : ∀ w ∈ pw, w.before _ s = true := fun w h => hts w (List.mem_cons_of_mem _ h)
  have hown : s.vm.findClass RX12 = some m.cls := findClass_of_methodNamed B9.named
  have hlocks := B9.notSynchronized
  subst hsz
  have hD := hD0.self (sz := s.heap.size)
  have hA : ∀ q : Nat, s.heap.size ≤ q → va_A (mW G h0 a (upd (upd (upd (upd (upd (upd F 15 0) 27 (nI nd)) 31 (nI wr)) 64 (nI at0)) 65 (nI ne)) 66 (nI lk)) (updA B 2 K)) s.heap.size q := fun q h => Or.inr h
  have hP : va_P G.1 pCl (mW G h0 a (upd (upd (upd (upd (upd (upd F 15 0) 27 (nI nd)) 31 (nI wr)) 64 (nI at0)) 65 (nI ne)) 66 (nI lk)) (updA B 2 K)) s.heap := hP
  generalize va_A (mW G h0 a (upd (upd (upd (upd (upd (upd F 15 0) 27 (nI nd)) 31 (nI wr)) 64 (nI at0)) 65 (nI ne)) 66 (nI lk)) (updA B 2 K)) s.heap.size = A at hD hE hA ⊢
  have hS : va_S A s.heap s.heap [] := va_S.rf
  have hl := lv_entry ([.ref h0]) (n := 4) (Nat.le_of_ble_eq_true rfl)
  rw [lg_entry_eq]
  generalize (lg_sl ([.ref h0]) ++ List.replicate (4 - (lg_sl ([.ref h0])).length) Slot.unset).toArray = ls at hl ⊢
  have hl : lv_has ls 4 [(0, .ref h0)] := hl
  have hkp1 : Kp B B wr T := Kp.rfl hy
  have hlo2 : Low B B nd wr := Low.rfl
  refine lv_aload_n hx hb dX12_part_0 rfl (lv_at hl 0 rfl) ?_
  have hP : va_P G.1 pCl (mW G h0 a (upd (upd (upd (upd (upd (upd (upd (upd F 15 0) 27 (nI nd)) 31 (nI wr)) 64 (nI at0)) 65 (nI ne)) 66 (nI lk)) 15 (nI 0)) 64 (nI at0)) (updA (updA B 2 K) 2 K)) _ := mW_to (F := F) (l1 := [(15, 0), (27, (nI nd)), (31, (nI wr)), (64, (nI at0)), (65, (nI ne)), (66, (nI lk))]) (l2 := [(15, 0), (27, (nI nd)), (31, (nI wr)), (64, (nI at0)), (65, (nI ne)), (66, (nI lk)), (15, (nI 0)), (64, (nI at0))]) (V := [(nI 0), (nI nd), (nI wr), (nI at0), (nI ne), (nI lk), (nI 0), (nI nd), (nI wr), (nI at0), (nI ne), (nI lk), (nI 0), (nI at0)]) rfl rfl (show (updA B 2 K) = (updA (updA B 2 K) 2 K) from updsA_eq2 (F := B) (l1 := [(2, K)]) (l2 := [(2, K), (2, K)]) (V := [K, K, K]) rfl rfl) hP
  have hD : va_D A (mW G h0 a (upd (upd (upd (upd (upd (upd (upd (upd F 15 0) 27 (nI nd)) 31 (nI wr)) 64 (nI at0)) 65 (nI ne)) 66 (nI lk)) 15 (nI 0)) 64 (nI at0)) (updA (updA B 2 K) 2 K)) := mW_D hD
  refine pc_V0 (G := G) (As := []) (rest := []) hx hb hml hown hq hE hX pX0_al hP hD hS hA hl.1 (R_isTyped l G h0 a (upd (upd (upd (upd (upd (upd F 15 0) 27 (nI nd)) 31 (nI wr)) 64 (nI at0)) 65 (nI ne)) 66 (nI lk)) (updA B 2 K) at0 T 0 K (by omega) (by omega) hK (by omega)) (gV pw_1693 pw_1694 pw_1695 pw_1523 pw_1634) hV_X12_isTyped 0 9 rfl rfl rfl rfl (Nat.le_of_ble_eq_true rfl) dX12_part_1 ⟨Nat.le_of_ble_eq_true rfl, Nat.le_of_ble_eq_true rfl⟩ ⟨(by show 3 + 1 ≤ (26 * n + 41); omega), (by show 8 + (1 + 11) + 80 ≤ (2000 * n + 4100); omega)⟩ (fun v5 u3 H locs hw4 hP hD hS => ?_)
  obtain ⟨r6, rfl⟩ : ∃ z, z = u3 := ⟨_, rfl⟩
  obtain ⟨hw4, h7, h8⟩ := hw4
  have h7 : r6 ≤ 1 := h7
  have h8 : at0 + r6 ≤ T := h8
  obtain rfl : v5 = some (.int (nI r6)) := hw4
  have hP : va_P G.1 pCl (mW G h0 a (upd (upd (upd (upd (upd (upd F 15 0) 27 (nI nd)) 31 (nI wr)) 64 (nI at0)) 65 (nI ne)) 66 (nI lk)) (updA B 2 K)) _ := mW_to (F := F) (l1 := [(15, 0), (27, (nI nd)), (31, (nI wr)), (64, (nI at0)), (65, (nI ne)), (66, (nI lk)), (15, (nI 0)), (64, (nI at0))]) (l2 := [(15, 0), (27, (nI nd)), (31, (nI wr)), (64, (nI at0)), (65, (nI ne)), (66, (nI lk))]) (V := [0, (nI nd), (nI wr), (nI at0), (nI ne), (nI lk), 0, (nI at0), 0, (nI nd), (nI wr), (nI at0), (nI ne), (nI lk)]) rfl rfl (show (updA (updA B 2 K) 2 K) = (updA B 2 K) from updsA_eq2 (F := B) (l1 := [(2, K), (2, K)]) (l2 := [(2, K)]) (V := [K, K, K]) rfl rfl) hP
  have hD : va_D A (mW G h0 a (upd (upd (upd (upd (upd (upd F 15 0) 27 (nI nd)) 31 (nI wr)) 64 (nI at0)) 65 (nI ne)) 66 (nI lk)) (updA B 2 K)) := mW_D hD
  refine W.widen (k := 0) (n := 0) (Nat.le_of_ble_eq_true rfl) (Nat.le_of_ble_eq_true rfl) ?_
  refine W.eq (g2 := F0 m 4 ls [.int (nI r6)]) rfl ?_
  refine lv_if_ne (tgt := 12) hx hb dX12_part_4 (by decide) (fun c9 => ?_) (fun c9 => ?_)
  · have n10 : ¬ (r6 = 0) := fun h9 => c9 ((nI_eq (a := r6) (b := 0) (by omega) (by omega)).mpr h9)
    refine lv_aload_n hx hb dX12_part_12 rfl (lv_at hl 0 rfl) ?_
    refine r_get (v := .int (nI at0)) hx hb hown hq hE hP 64 343 tFX12_64 (by decide) pw_1592 rfl dX12_part_13 ?_
    refine lv_istore_n (lv' := [(1, .int (nI at0)), (0, .ref h0)]) hx hb dX12_part_16 rfl hl (by decide) rfl (fun ls hl => ?_)
    refine lv_aload_n hx hb dX12_part_17 rfl (lv_at hl 1 rfl) ?_
    refine r_get (v := .int (nI lk)) hx hb hown hq hE hP 66 363 tFX12_66 (by decide) pw_1610 rfl dX12_part_18 ?_
    refine lv_istore_n (lv' := [(2, .int (nI lk)), (1, .int (nI at0)), (0, .ref h0)]) hx hb dX12_part_21 rfl hl (by decide) rfl (fun ls hl => ?_)
    refine lv_aload_n hx hb dX12_part_22 rfl (lv_at hl 2 rfl) ?_
    refine lv_iconst (v := 0) hx hb dX12_part_23 (by decide) ?_
    refine r_put (v := 0) (ty := .int) hx hb hown hq hE hP hD hS 66 363 tFX12_66 (by decide) pw_1610 (by decide) rfl rfl (ms_66 a _ _) dX12_part_24 (fun H locs hP hD hS => ?_)
    refine lv_aload_n hx hb dX12_part_27 rfl (lv_at hl 2 rfl) ?_
    have hP : va_P G.1 pCl (mW G h0 a (upd (upd (upd (upd (upd (upd (upd (upd (upd F 15 0) 27 (nI nd)) 31 (nI wr)) 64 (nI at0)) 65 (nI ne)) 66 0) 15 (nI 0)) 64 (nI at0)) 65 (nI ne)) (updA (updA B 2 K) 2 K)) _ := mW_to (F := F) (l1 := [(15, 0), (27, (nI nd)), (31, (nI wr)), (64, (nI at0)), (65, (nI ne)), (66, (nI lk)), (66, 0)]) (l2 := [(15, 0), (27, (nI nd)), (31, (nI wr)), (64, (nI at0)), (65, (nI ne)), (66, 0), (15, (nI 0)), (64, (nI at0)), (65, (nI ne))]) (V := [(nI 0), (nI nd), (nI wr), (nI at0), (nI ne), 0, 0, (nI 0), (nI nd), (nI wr), (nI at0), (nI ne), 0, (nI 0), (nI at0), (nI ne)]) rfl rfl (show (updA B 2 K) = (updA (updA B 2 K) 2 K) from updsA_eq2 (F := B) (l1 := [(2, K)]) (l2 := [(2, K), (2, K)]) (V := [K, K, K]) rfl rfl) hP
    have hD : va_D A (mW G h0 a (upd (upd (upd (upd (upd (upd (upd (upd (upd F 15 0) 27 (nI nd)) 31 (nI wr)) 64 (nI at0)) 65 (nI ne)) 66 0) 15 (nI 0)) 64 (nI at0)) 65 (nI ne)) (updA (updA B 2 K) 2 K)) := mW_D hD
    refine pc_V0 (G := G) (As := []) (rest := []) hx hb hml hown hq hE hX pX0_al hP hD hS hA hl.1 (R_deeper l G h0 a (upd (upd (upd (upd (upd (upd F 15 0) 27 (nI nd)) 31 (nI wr)) 64 (nI at0)) 65 (nI ne)) 66 0) (updA B 2 K) at0 T 0 K ne (by omega) (by omega) hK (by omega) (by omega)) (gV pw_1637 pw_1638 pw_1639 pw_1523 pw_1611) hV_X12_deeper 0 9 rfl rfl rfl rfl (Nat.le_of_ble_eq_true rfl) dX12_part_28 ⟨Nat.le_of_ble_eq_true rfl, Nat.le_of_ble_eq_true rfl⟩ ⟨(by show 4 + 1 ≤ (26 * n + 41); omega), (by show 8 + (1 + 11) + 103 ≤ (2000 * n + 4100); omega)⟩ (fun v13 u11 H locs hw12 hP hD hS => ?_)
    obtain ⟨fa14, pl15⟩ := u11
    obtain ⟨hw12, h16, h17, h18, h19⟩ := hw12
    have h16 : 0 ≤ fa14 := h16
    have h17 : fa14 ≤ 100 := h17
    have h18 : If (0 < 0) (fa14 = 0) := h18
    have h19 : If (ne ≤ 20) (ne + 1 ≤ 20 + fa14) := h19
    obtain rfl : v13 = none := hw12
    have hP : va_P G.1 pCl (mW G h0 a (upd (upd (upd (upd (upd (upd (upd F 15 (nI fa14)) 16 pl15) 27 (nI nd)) 31 (nI wr)) 64 (nI at0)) 65 (nI (ne + 1))) 66 0) (updA B 2 K)) _ := mW_to (F := F) (l1 := [(15, 0), (27, (nI nd)), (31, (nI wr)), (64, (nI at0)), (65, (nI ne)), (66, 0), (15, (nI fa14)), (16, pl15), (64, (nI at0)), (65, (nI (ne + 1)))]) (l2 := [(15, (nI fa14)), (16, pl15), (27, (nI nd)), (31, (nI wr)), (64, (nI at0)), (65, (nI (ne + 1))), (66, 0)]) (V := [(nI fa14), (nI nd), (nI wr), (nI at0), (nI (ne + 1)), 0, (nI fa14), pl15, (nI at0), (nI (ne + 1)), (nI fa14), pl15, (nI nd), (nI wr), (nI at0), (nI (ne + 1)), 0]) rfl rfl (show (updA (updA B 2 K) 2 K) = (updA B 2 K) from updsA_eq2 (F := B) (l1 := [(2, K), (2, K)]) (l2 := [(2, K)]) (V := [K, K, K]) rfl rfl) hP
    have hD : va_D A (mW G h0 a (upd (upd (upd (upd (upd (upd (upd F 15 (nI fa14)) 16 pl15) 27 (nI nd)) 31 (nI wr)) 64 (nI at0)) 65 (nI (ne + 1))) 66 0) (updA B 2 K)) := mW_D hD
    refine W.widen (k := 0) (n := 0) (Nat.le_of_ble_eq_true rfl) (Nat.le_of_ble_eq_true rfl) ?_
    refine W.eq (g2 := F0 m 31 ls []) rfl ?_
    rcases Nat.eq_zero_or_pos fa14 with e20 | e20
    · subst e20
      have hP : va_P G.1 pCl (mW G h0 a (upd (upd (upd (upd (upd (upd (upd F 15 0) 16 pl15) 27 (nI nd)) 31 (nI wr)) 64 (nI at0)) 65 (nI (ne + 1))) 66 0) (updA B 2 K)) _ := hP
      have hD : va_D A (mW G h0 a (upd (upd (upd (upd (upd (upd (upd F 15 0) 16 pl15) 27 (nI nd)) 31 (nI wr)) 64 (nI at0)) 65 (nI (ne + 1))) 66 0) (updA B 2 K)) := mW_D hD
      have n21 : ne + 1 ≤ 20 := (h19 (by omega))
      refine lv_aload_n hx hb dX12_part_31 rfl (lv_at hl 2 rfl) ?_
      refine lv_iload_n hx hb dX12_part_32 rfl (lv_at hl 1 rfl) ?_
      have hP : va_P G.1 pCl (mW G h0 a (upd (upd (upd (upd (upd (upd (upd (upd (upd (upd (upd (upd (upd F 15 0) 16 pl15) 27 (nI nd)) 31 (nI wr)) 64 (nI at0)) 65 (nI (ne + 1))) 66 0) 15 0) 27 (nI nd)) 31 (nI wr)) 64 (nI at0)) 65 (nI (ne + 1))) 66 (nI 0)) (updA B 2 K)) _ := mW_to (F := F) (l1 := [(15, 0), (16, pl15), (27, (nI nd)), (31, (nI wr)), (64, (nI at0)), (65, (nI (ne + 1))), (66, 0)]) (l2 := [(15, 0), (16, pl15), (27, (nI nd)), (31, (nI wr)), (64, (nI at0)), (65, (nI (ne + 1))), (66, 0), (15, 0), (27, (nI nd)), (31, (nI wr)), (64, (nI at0)), (65, (nI (ne + 1))), (66, (nI 0))]) (V := [0, pl15, (nI nd), (nI wr), (nI at0), (nI (ne + 1)), (nI 0), 0, pl15, (nI nd), (nI wr), (nI at0), (nI (ne + 1)), (nI 0), 0, (nI nd), (nI wr), (nI at0), (nI (ne + 1)), (nI 0)]) rfl rfl rfl hP
      have hD : va_D A (mW G h0 a (upd (upd (upd (upd (upd (upd (upd (upd (upd (upd (upd (upd (upd F 15 0) 16 pl15) 27 (nI nd)) 31 (nI wr)) 64 (nI at0)) 65 (nI (ne + 1))) 66 0) 15 0) 27 (nI nd)) 31 (nI wr)) 64 (nI at0)) 65 (nI (ne + 1))) 66 (nI 0)) (updA B 2 K)) := mW_D hD
      refine pc_V0 (G := G) (As := [.int (nI at0)]) (rest := []) hx hb hml hown hq hE hX pX0_al hP hD hS hA hl.1 (hlc h0 a (upd (upd (upd (upd (upd (upd (upd F 15 0) 16 pl15) 27 (nI nd)) 31 (nI wr)) 64 (nI at0)) 65 (nI (ne + 1))) 66 0) B at0 T (ne + 1) nd wr 0 K at0 (by omega) (by omega) hK (by omega) (by omega) (by omega) (by omega) (hkp1).2 (by omega) (by omega)) (gV pw_1703 pw_1704 pw_1705 pw_1523 pw_1683) hV_X12_local 0 9 rfl rfl rfl rfl (Nat.le_of_ble_eq_true rfl) dX12_part_33 ⟨Nat.le_of_ble_eq_true rfl, Nat.le_of_ble_eq_true rfl⟩ ⟨(by show (26 * (n - 1) + 30) + 1 ≤ (26 * n + 41); omega), (by show 8 + (5 + 11) + (2000 * (n - 1) + 3000) ≤ (2000 * n + 4100); omega)⟩ (fun v24 u22 H locs hw23 hP hD hS => ?_)
      obtain ⟨at25, fa26, pl27, nd28, lk29, wr30, r31, X32⟩ := u22
      obtain ⟨hw23, h33, h34, h35, h36, h37, h38, h39, h40, h41, h42, h43, h44, h45, h46⟩ := hw23
      have h33 : at0 ≤ at25 := h33
      have h34 : at25 ≤ T := h34
      have h35 : fa26 ≤ 100 := h35
      have h36 : nd ≤ nd28 := h36
      have h37 : nd28 + 2 * at0 ≤ nd + 2 * at25 + 100000 * fa26 := h37
      have h38 : nd28 + 2 * at0 ≤ nd + 2 * at25 + (40 * (21 - (ne + 1)) + 5) := h38
      have h39 : wr ≤ wr30 := h39
      have h40 : wr30 + at0 ≤ wr + at25 := h40
      have h41 : 0 ≤ lk29 := h41
      have h42 : lk29 ≤ 60 + 100 * fa26 := h42
      have h43 : at0 + 1 ≤ at25 + fa26 := h43
      have h44 : r31 ≤ nd28 := h44
      have h45 : Kp B X32 wr30 T := h45
      have h46 : If (fa26 = 0) (Low B X32 nd wr ∧ Frs K T wr30 X32 nd nd28 20000 [(r31, 280)] ∧ kcl 7 (X32 9 r31) = true) := h46
      obtain rfl : v24 = some (.int (nI r31)) := hw23
      have hP : va_P G.1 pCl (mW G h0 a (upd (upd (upd (upd (upd (upd (upd F 15 (nI fa26)) 16 pl27) 27 (nI nd28)) 31 (nI wr30)) 64 (nI at25)) 65 (nI (ne + 1))) 66 (nI lk29)) (updA X32 2 K)) _ := mW_to (F := F) (l1 := [(15, 0), (16, pl15), (27, (nI nd)), (31, (nI wr)), (64, (nI at0)), (65, (nI (ne + 1))), (66, 0), (15, (nI fa26)), (16, pl27), (27, (nI nd28)), (31, (nI wr30)), (64, (nI at25)), (65, (nI (ne + 1))), (66, (nI lk29))]) (l2 := [(15, (nI fa26)), (16, pl27), (27, (nI nd28)), (31, (nI wr30)), (64, (nI at25)), (65, (nI (ne + 1))), (66, (nI lk29))]) (V := [(nI fa26), pl27, (nI nd28), (nI wr30), (nI at25), (nI (ne + 1)), (nI lk29), (nI fa26), pl27, (nI nd28), (nI wr30), (nI at25), (nI (ne + 1)), (nI lk29), (nI fa26), pl27, (nI nd28), (nI wr30), (nI at25), (nI (ne + 1)), (nI lk29)]) rfl rfl rfl hP
      have hD : va_D A (mW G h0 a (upd (upd (upd (upd (upd (upd (upd F 15 (nI fa26)) 16 pl27) 27 (nI nd28)) 31 (nI wr30)) 64 (nI at25)) 65 (nI (ne + 1))) 66 (nI lk29)) (updA X32 2 K)) := mW_D hD
      refine W.widen (k := 0) (n := 0) (Nat.le_of_ble_eq_true rfl) (Nat.le_of_ble_eq_true rfl) ?_
      refine W.eq (g2 := F0 m 36 ls [.int (nI r31)]) rfl ?_
      have hkp47 : Kp B X32 wr30 T := (Kp.trans hkp1 h45)
      rcases Nat.eq_zero_or_pos fa26 with e48 | e48
      · subst e48
        have hP : va_P G.1 pCl (mW G h0 a (upd (upd (upd (upd (upd (upd (upd F 15 0) 16 pl27) 27 (nI nd28)) 31 (nI wr30)) 64 (nI at25)) 65 (nI (ne + 1))) 66 (nI lk29)) (updA X32 2 K)) _ := hP
        have hD : va_D A (mW G h0 a (upd (upd (upd (upd (upd (upd (upd F 15 0) 16 pl27) 27 (nI nd28)) 31 (nI wr30)) 64 (nI at25)) 65 (nI (ne + 1))) 66 (nI lk29)) (updA X32 2 K)) := mW_D hD
        obtain ⟨hlw49, hf50, hc51⟩ := h46 rfl
        have hlo52 : Low B X32 nd wr := (Low.trans hlo2 hlw49 (by omega) (by omega))
        have hm53 := Frs.mem hf50
        refine lv_istore_n (lv' := [(3, .int (nI r31)), (2, .int (nI lk)), (1, .int (nI at0)), (0, .ref h0)]) hx hb dX12_part_36 rfl hl (by decide) rfl (fun ls hl => ?_)
        refine lv_aload_n hx hb dX12_part_37 rfl (lv_at hl 3 rfl) ?_
        refine lv_bipush (v := 59) hx hb dX12_part_38 (by decide) ?_
        have hP : va_P G.1 pCl (mW G h0 a (upd (upd (upd (upd (upd (upd (upd (upd (upd F 15 0) 16 pl27) 27 (nI nd28)) 31 (nI wr30)) 64 (nI at25)) 65 (nI (ne + 1))) 66 (nI lk29)) 15 (nI 0)) 64 (nI at25)) (updA (updA X32 2 K) 2 K)) _ := mW_to (F := F) (l1 := [(15, 0), (16, pl27), (27, (nI nd28)), (31, (nI wr30)), (64, (nI at25)), (65, (nI (ne + 1))), (66, (nI lk29))]) (l2 := [(15, 0), (16, pl27), (27, (nI nd28)), (31, (nI wr30)), (64, (nI at25)), (65, (nI (ne + 1))), (66, (nI lk29)), (15, (nI 0)), (64, (nI at25))]) (V := [(nI 0), pl27, (nI nd28), (nI wr30), (nI at25), (nI (ne + 1)), (nI lk29), (nI 0), pl27, (nI nd28), (nI wr30), (nI at25), (nI (ne + 1)), (nI lk29), (nI 0), (nI at25)]) rfl rfl (show (updA X32 2 K) = (updA (updA X32 2 K) 2 K) from updsA_eq2 (F := X32) (l1 := [(2, K)]) (l2 := [(2, K), (2, K)]) (V := [K, K, K]) rfl rfl) hP
        have hD : va_D A (mW G h0 a (upd (upd (upd (upd (upd (upd (upd (upd (upd F 15 0) 16 pl27) 27 (nI nd28)) 31 (nI wr30)) 64 (nI at25)) 65 (nI (ne + 1))) 66 (nI lk29)) 15 (nI 0)) 64 (nI at25)) (updA (updA X32 2 K) 2 K)) := mW_D hD
        refine pc_V0 (G := G) (As := [.int 59]) (rest := []) hx hb hml hown hq hE hX pX0_al hP hD hS hA hl.1 (R_take l G h0 a (upd (upd (upd (upd (upd (upd (upd F 15 0) 16 pl27) 27 (nI nd28)) 31 (nI wr30)) 64 (nI at25)) 65 (nI (ne + 1))) 66 (nI lk29)) (updA X32 2 K) at25 T 0 K 59 (by omega) (by omega) hK (by omega) (by decide) (by decide)) (gV pw_1614 pw_1615 pw_1616 pw_1523 pw_1601) hV_X12_take 0 9 rfl rfl rfl rfl (Nat.le_of_ble_eq_true rfl) dX12_part_40 ⟨Nat.le_of_ble_eq_true rfl, Nat.le_of_ble_eq_true rfl⟩ ⟨(by show 4 + 1 ≤ (26 * n + 41); omega), (by show 8 + (2 + 11) + 103 ≤ (2000 * n + 4100); omega)⟩ (fun v56 u54 H locs hw55 hP hD hS => ?_)
        obtain ⟨at57, fa58, pl59⟩ := u54
        obtain ⟨hw55, h60, h61, h62, h63, h64, h65, h66, h67⟩ := hw55
        have h60 : at25 ≤ at57 := h60
        have h61 : at57 ≤ T := h61
        have h62 : 0 ≤ fa58 := h62
        have h63 : fa58 ≤ 100 := h63
        have h64 : If (0 < 0) (at57 = at25 ∧ fa58 = 0) := h64
        have h65 : at57 ≤ at25 + 1 := h65
        have h66 : at25 + 1 ≤ at57 + fa58 := h66
        have h67 : If (fa58 = 0) (K at25 = 59) := h67
        obtain rfl : v56 = none := hw55
        have hP : va_P G.1 pCl (mW G h0 a (upd (upd (upd (upd (upd (upd (upd F 15 (nI fa58)) 16 pl59) 27 (nI nd28)) 31 (nI wr30)) 64 (nI at57)) 65 (nI (ne + 1))) 66 (nI lk29)) (updA X32 2 K)) _ := mW_to (F := F) (l1 := [(15, 0), (16, pl27), (27, (nI nd28)), (31, (nI wr30)), (64, (nI at25)), (65, (nI (ne + 1))), (66, (nI lk29)), (15, (nI fa58)), (16, pl59), (64, (nI at57))]) (l2 := [(15, (nI fa58)), (16, pl59), (27, (nI nd28)), (31, (nI wr30)), (64, (nI at57)), (65, (nI (ne + 1))), (66, (nI lk29))]) (V := [(nI fa58), pl59, (nI nd28), (nI wr30), (nI at57), (nI (ne + 1)), (nI lk29), (nI fa58), pl59, (nI at57), (nI fa58), pl59, (nI nd28), (nI wr30), (nI at57), (nI (ne + 1)), (nI lk29)]) rfl rfl (show (updA (updA X32 2 K) 2 K) = (updA X32 2 K) from updsA_eq2 (F := X32) (l1 := [(2, K), (2, K)]) (l2 := [(2, K)]) (V := [K, K, K]) rfl rfl) hP
        have hD : va_D A (mW G h0 a (upd (upd (upd (upd (upd (upd (upd F 15 (nI fa58)) 16 pl59) 27 (nI nd28)) 31 (nI wr30)) 64 (nI at57)) 65 (nI (ne + 1))) 66 (nI lk29)) (updA X32 2 K)) := mW_D hD
        refine W.widen (k := 0) (n := 0) (Nat.le_of_ble_eq_true rfl) (Nat.le_of_ble_eq_true rfl) ?_
        refine W.eq (g2 := F0 m 43 ls []) rfl ?_
        rcases Nat.eq_zero_or_pos fa58 with e68 | e68
        · subst e68
          have hP : va_P G.1 pCl (mW G h0 a (upd (upd (upd (upd (upd (upd (upd F 15 0) 16 pl59) 27 (nI nd28)) 31 (nI wr30)) 64 (nI at57)) 65 (nI (ne + 1))) 66 (nI lk29)) (updA X32 2 K)) _ := hP
          have hD : va_D A (mW G h0 a (upd (upd (upd (upd (upd (upd (upd F 15 0) 16 pl59) 27 (nI nd28)) 31 (nI wr30)) 64 (nI at57)) 65 (nI (ne + 1))) 66 (nI lk29)) (updA X32 2 K)) := mW_D hD
          refine lv_aload_n hx hb dX12_part_43 rfl (lv_at hl 3 rfl) ?_
          refine lv_dup hx hb dX12_part_44 rfl ?_
          refine r_get (v := .int (nI (ne + 1))) hx hb hown hq hE hP 65 366 tFX12_65 (by decide) pw_1612 rfl dX12_part_45 ?_
          refine lv_iconst (v := 1) hx hb dX12_part_48 (by decide) ?_
          refine lv_isub hx hb dX12_part_49 ?_
          refine lv_topi (fun x69 e70 => ?_)
          obtain rfl : x69 = nI ((ne + 1) - 1) := e70.trans (nI_subN (a := 1) (b := (ne + 1)) (by omega))
          refine r_put (v := (nI ((ne + 1) - 1))) (ty := .int) hx hb hown hq hE hP hD hS 65 366 tFX12_65 (by decide) pw_1612 (by decide) rfl rfl (ms_65 a _ _) dX12_part_50 (fun H locs hP hD hS => ?_)
          refine lv_aload_n hx hb dX12_part_53 rfl (lv_at hl 3 rfl) ?_
          refine lv_iload_n hx hb dX12_part_54 rfl (lv_at hl 1 rfl) ?_
          refine r_put (v := (nI lk)) (ty := .int) hx hb hown hq hE hP hD hS 66 363 tFX12_66 (by decide) pw_1610 (by decide) rfl rfl (ms_66 a _ _) dX12_part_55 (fun H locs hP hD hS => ?_)
          refine lv_iload_n hx hb dX12_part_58 rfl (lv_at hl 0 rfl) ?_
          have hz71 : at0 ≤ at57 := (by omega)
          have hz72 : at57 ≤ T := (by omega)
          have hz73 : 0 ≤ 100 := (by omega)
          have hz74 : nd ≤ nd28 := (by omega)
          have hz75 : nd28 + 2 * at0 ≤ nd + 2 * at57 + 100000 * 0 := (by omega)
          have hz76 : nd28 + 2 * at0 ≤ nd + 2 * at57 + (60 * (20 - ne) + 40) := (by omega)
          have hz77 : wr ≤ wr30 := (by omega)
          have hz78 : wr30 + at0 ≤ wr + at57 := (by omega)
          have hz79 : lk ≤ lk := (by omega)
          have hz80 : lk ≤ lk := (by omega)
          have hz81 : at0 + 1 ≤ at57 + 0 := (by omega)
          have hz82 : r31 ≤ nd28 := (by omega)
          have hz83 : Kp B X32 wr30 T := hkp47
          have hz84 : If (0 = 0) (Low B X32 nd wr ∧ Frs K T wr30 X32 nd nd28 20000 [(r31, (280 + 4 * (20 - ne)))] ∧ kcl 7 (X32 9 r31) = true) := (fun _ => ⟨hlo52, Frs.up hf50 (by omega), hc51⟩)
          have hP : va_P G.1 pCl (mW G h0 a (upd (upd (upd (upd (upd (upd (upd F 15 (nI 0)) 16 pl59) 27 (nI nd28)) 31 (nI wr30)) 64 (nI at57)) 65 (nI ne)) 66 (nI lk)) (updA X32 2 K)) _ := mW_to (F := F) (l1 := [(15, 0), (16, pl59), (27, (nI nd28)), (31, (nI wr30)), (64, (nI at57)), (65, (nI (ne + 1))), (66, (nI lk29)), (65, (nI ((ne + 1) - 1))), (66, (nI lk))]) (l2 := [(15, (nI 0)), (16, pl59), (27, (nI nd28)), (31, (nI wr30)), (64, (nI at57)), (65, (nI ne)), (66, (nI lk))]) (V := [(nI 0), pl59, (nI nd28), (nI wr30), (nI at57), (nI ne), (nI lk), (nI ne), (nI lk), (nI 0), pl59, (nI nd28), (nI wr30), (nI at57), (nI ne), (nI lk)]) rfl rfl rfl hP
          have hD : va_D A (mW G h0 a (upd (upd (upd (upd (upd (upd (upd F 15 (nI 0)) 16 pl59) 27 (nI nd28)) 31 (nI wr30)) 64 (nI at57)) 65 (nI ne)) 66 (nI lk)) (updA X32 2 K)) := mW_D hD
          exact W.iret (v := (nI r31)) hx hb hr (fun t9 ht9 hW9 => ⟨⟨_, (at57, 0, pl59, nd28, lk, wr30, r31, X32), rfl, ⟨rfl, hz71, hz72, hz73, hz74, hz75, hz76, hz77, hz78, hz79, hz80, hz81, hz82, hz83, hz84⟩, by rw [ht9]; exact hP, hD⟩, hS.F ht9⟩) hS.2.2 dX12_part_59
        · have e68 := e68
          refine lv_aload_n hx hb dX12_part_43 rfl (lv_at hl 3 rfl) ?_
          refine lv_dup hx hb dX12_part_44 rfl ?_
          refine r_get (v := .int (nI (ne + 1))) hx hb hown hq hE hP 65 366 tFX12_65 (by decide) pw_1612 rfl dX12_part_45 ?_
          refine lv_iconst (v := 1) hx hb dX12_part_48 (by decide) ?_
          refine lv_isub hx hb dX12_part_49 ?_
          refine lv_topi (fun x85 e86 => ?_)
          obtain rfl : x85 = nI ((ne + 1) - 1) := e86.trans (nI_subN (a := 1) (b := (ne + 1)) (by omega))
          refine r_put (v := (nI ((ne + 1) - 1))) (ty := .int) hx hb hown hq hE hP hD hS 65 366 tFX12_65 (by decide) pw_1612 (by decide) rfl rfl (ms_65 a _ _) dX12_part_50 (fun H locs hP hD hS => ?_)
          refine lv_aload_n hx hb dX12_part_53 rfl (lv_at hl 3 rfl) ?_
          refine lv_iload_n hx hb dX12_part_54 rfl (lv_at hl 1 rfl) ?_
          refine r_put (v := (nI lk)) (ty := .int) hx hb hown hq hE hP hD hS 66 363 tFX12_66 (by decide) pw_1610 (by decide) rfl rfl (ms_66 a _ _) dX12_part_55 (fun H locs hP hD hS => ?_)
          refine lv_iload_n hx hb dX12_part_58 rfl (lv_at hl 0 rfl) ?_
          have hz87 : at0 ≤ at57 := (by omega)
          have hz88 : at57 ≤ T := (by omega)
          have hz89 : fa58 ≤ 100 := (by omega)
          have hz90 : nd ≤ nd28 := (by omega)
          have hz91 : nd28 + 2 * at0 ≤ nd + 2 * at57 + 100000 * fa58 := (by omega)
          have hz92 : nd28 + 2 * at0 ≤ nd + 2 * at57 + (60 * (20 - ne) + 40) := (by omega)
          have hz93 : wr ≤ wr30 := (by omega)
          have hz94 : wr30 + at0 ≤ wr + at57 := (by omega)
          have hz95 : lk ≤ lk := (by omega)
          have hz96 : lk ≤ lk := (by omega)
          have hz97 : at0 + 1 ≤ at57 + fa58 := (by omega)
          have hz98 : r31 ≤ nd28 := (by omega)
          have hz99 : Kp B X32 wr30 T := hkp47
          have hz100 : If (fa58 = 0) (Low B X32 nd wr ∧ Frs K T wr30 X32 nd nd28 20000 [(r31, (280 + 4 * (20 - ne)))] ∧ kcl 7 (X32 9 r31) = true) := (fun e => absurd e (by omega))
          have hP : va_P G.1 pCl (mW G h0 a (upd (upd (upd (upd (upd (upd (upd F 15 (nI fa58)) 16 pl59) 27 (nI nd28)) 31 (nI wr30)) 64 (nI at57)) 65 (nI ne)) 66 (nI lk)) (updA X32 2 K)) _ := mW_to (F := F) (l1 := [(15, (nI fa58)), (16, pl59), (27, (nI nd28)), (31, (nI wr30)), (64, (nI at57)), (65, (nI (ne + 1))), (66, (nI lk29)), (65, (nI ((ne + 1) - 1))), (66, (nI lk))]) (l2 := [(15, (nI fa58)), (16, pl59), (27, (nI nd28)), (31, (nI wr30)), (64, (nI at57)), (65, (nI ne)), (66, (nI lk))]) (V := [(nI fa58), pl59, (nI nd28), (nI wr30), (nI at57), (nI ne), (nI lk), (nI ne), (nI lk), (nI fa58), pl59, (nI nd28), (nI wr30), (nI at57), (nI ne), (nI lk)]) rfl rfl rfl hP
          have hD : va_D A (mW G h0 a (upd (upd (upd (upd (upd (upd (upd F 15 (nI fa58)) 16 pl59) 27 (nI nd28)) 31 (nI wr30)) 64 (nI at57)) 65 (nI ne)) 66 (nI lk)) (updA X32 2 K)) := mW_D hD
          exact W.iret (v := (nI r31)) hx hb hr (fun t9 ht9 hW9 => ⟨⟨_, (at57, fa58, pl59, nd28, lk, wr30, r31, X32), rfl, ⟨rfl, hz87, hz88, hz89, hz90, hz91, hz92, hz93, hz94, hz95, hz96, hz97, hz98, hz99, hz100⟩, by rw [ht9]; exact hP, hD⟩, hS.F ht9⟩) hS.2.2 dX12_part_59
      · have e48 := e48
        refine lv_istore_n (lv' := [(3, .int (nI r31)), (2, .int (nI lk)), (1, .int (nI at0)), (0, .ref h0)]) hx hb dX12_part_36 rfl hl (by decide) rfl (fun ls hl => ?_)
        refine lv_aload_n hx hb dX12_part_37 rfl (lv_at hl 3 rfl) ?_
        refine lv_bipush (v := 59) hx hb dX12_part_38 (by decide) ?_
        have hP : va_P G.1 pCl (mW G h0 a (upd (upd (upd (upd (upd (upd (upd (upd (upd F 15 (nI fa26)) 16 pl27) 27 (nI nd28)) 31 (nI wr30)) 64 (nI at25)) 65 (nI (ne + 1))) 66 (nI lk29)) 15 (nI fa26)) 64 (nI at25)) (updA (updA X32 2 K) 2 K)) _ := mW_to (F := F) (l1 := [(15, (nI fa26)), (16, pl27), (27, (nI nd28)), (31, (nI wr30)), (64, (nI at25)), (65, (nI (ne + 1))), (66, (nI lk29))]) (l2 := [(15, (nI fa26)), (16, pl27), (27, (nI nd28)), (31, (nI wr30)), (64, (nI at25)), (65, (nI (ne + 1))), (66, (nI lk29)), (15, (nI fa26)), (64, (nI at25))]) (V := [(nI fa26), pl27, (nI nd28), (nI wr30), (nI at25), (nI (ne + 1)), (nI lk29), (nI fa26), pl27, (nI nd28), (nI wr30), (nI at25), (nI (ne + 1)), (nI lk29), (nI fa26), (nI at25)]) rfl rfl (show (updA X32 2 K) = (updA (updA X32 2 K) 2 K) from updsA_eq2 (F := X32) (l1 := [(2, K)]) (l2 := [(2, K), (2, K)]) (V := [K, K, K]) rfl rfl) hP
        have hD : va_D A (mW G h0 a (upd (upd (upd (upd (upd (upd (upd (upd (upd F 15 (nI fa26)) 16 pl27) 27 (nI nd28)) 31 (nI wr30)) 64 (nI at25)) 65 (nI (ne + 1))) 66 (nI lk29)) 15 (nI fa26)) 64 (nI at25)) (updA (updA X32 2 K) 2 K)) := mW_D hD
        refine pc_V0 (G := G) (As := [.int 59]) (rest := []) hx hb hml hown hq hE hX pX0_al hP hD hS hA hl.1 (R_take l G h0 a (upd (upd (upd (upd (upd (upd (upd F 15 (nI fa26)) 16 pl27) 27 (nI nd28)) 31 (nI wr30)) 64 (nI at25)) 65 (nI (ne + 1))) 66 (nI lk29)) (updA X32 2 K) at25 T fa26 K 59 (by omega) (by omega) hK (by omega) (by decide) (by decide)) (gV pw_1614 pw_1615 pw_1616 pw_1523 pw_1601) hV_X12_take 0 9 rfl rfl rfl rfl (Nat.le_of_ble_eq_true rfl) dX12_part_40 ⟨Nat.le_of_ble_eq_true rfl, Nat.le_of_ble_eq_true rfl⟩ ⟨(by show 4 + 1 ≤ (26 * n + 41); omega), (by show 8 + (2 + 11) + 103 ≤ (2000 * n + 4100); omega)⟩ (fun v103 u101 H locs hw102 hP hD hS => ?_)
        obtain ⟨at104, fa105, pl106⟩ := u101
        obtain ⟨hw102, h107, h108, h109, h110, h111, h112, h113, h114⟩ := hw102
        have h107 : at25 ≤ at104 := h107
        have h108 : at104 ≤ T := h108
        have h109 : fa26 ≤ fa105 := h109
        have h110 : fa105 ≤ 100 := h110
        have h111 : If (0 < fa26) (at104 = at25 ∧ fa105 = fa26) := h111
        have h112 : at104 ≤ at25 + 1 := h112
        have h113 : at25 + 1 ≤ at104 + fa105 := h113
        have h114 : If (fa105 = 0) (K at25 = 59) := h114
        obtain rfl : v103 = none := hw102
        have hP : va_P G.1 pCl (mW G h0 a (upd (upd (upd (upd (upd (upd (upd F 15 (nI fa105)) 16 pl106) 27 (nI nd28)) 31 (nI wr30)) 64 (nI at104)) 65 (nI (ne + 1))) 66 (nI lk29)) (updA X32 2 K)) _ := mW_to (F := F) (l1 := [(15, (nI fa26)), (16, pl27), (27, (nI nd28)), (31, (nI wr30)), (64, (nI at25)), (65, (nI (ne + 1))), (66, (nI lk29)), (15, (nI fa105)), (16, pl106), (64, (nI at104))]) (l2 := [(15, (nI fa105)), (16, pl106), (27, (nI nd28)), (31, (nI wr30)), (64, (nI at104)), (65, (nI (ne + 1))), (66, (nI lk29))]) (V := [(nI fa105), pl106, (nI nd28), (nI wr30), (nI at104), (nI (ne + 1)), (nI lk29), (nI fa105), pl106, (nI at104), (nI fa105), pl106, (nI nd28), (nI wr30), (nI at104), (nI (ne + 1)), (nI lk29)]) rfl rfl (show (updA (updA X32 2 K) 2 K) = (updA X32 2 K) from updsA_eq2 (F := X32) (l1 := [(2, K), (2, K)]) (l2 := [(2, K)]) (V := [K, K, K]) rfl rfl) hP
        have hD : va_D A (mW G h0 a (upd (upd (upd (upd (upd (upd (upd F 15 (nI fa105)) 16 pl106) 27 (nI nd28)) 31 (nI wr30)) 64 (nI at104)) 65 (nI (ne + 1))) 66 (nI lk29)) (updA X32 2 K)) := mW_D hD
        refine W.widen (k := 0) (n := 0) (Nat.le_of_ble_eq_true rfl) (Nat.le_of_ble_eq_true rfl) ?_
        refine W.eq (g2 := F0 m 43 ls []) rfl ?_
        obtain ⟨n116, n115⟩ := h111 e48
        replace n116 := n116.symm
        subst n116
        replace n115 := n115.symm
        subst n115
        refine lv_aload_n hx hb dX12_part_43 rfl (lv_at hl 3 rfl) ?_
        refine lv_dup hx hb dX12_part_44 rfl ?_
        refine r_get (v := .int (nI (ne + 1))) hx hb hown hq hE hP 65 366 tFX12_65 (by decide) pw_1612 rfl dX12_part_45 ?_
        refine lv_iconst (v := 1) hx hb dX12_part_48 (by decide) ?_
        refine lv_isub hx hb dX12_part_49 ?_
        refine lv_topi (fun x117 e118 => ?_)
        obtain rfl : x117 = nI ((ne + 1) - 1) := e118.trans (nI_subN (a := 1) (b := (ne + 1)) (by omega))
        refine r_put (v := (nI ((ne + 1) - 1))) (ty := .int) hx hb hown hq hE hP hD hS 65 366 tFX12_65 (by decide) pw_1612 (by decide) rfl rfl (ms_65 a _ _) dX12_part_50 (fun H locs hP hD hS => ?_)
        refine lv_aload_n hx hb dX12_part_53 rfl (lv_at hl 3 rfl) ?_
        refine lv_iload_n hx hb dX12_part_54 rfl (lv_at hl 1 rfl) ?_
        refine r_put (v := (nI lk)) (ty := .int) hx hb hown hq hE hP hD hS 66 363 tFX12_66 (by decide) pw_1610 (by decide) rfl rfl (ms_66 a _ _) dX12_part_55 (fun H locs hP hD hS => ?_)
        refine lv_iload_n hx hb dX12_part_58 rfl (lv_at hl 0 rfl) ?_
        have hz119 : at0 ≤ at25 := (by omega)
        have hz120 : at25 ≤ T := (by omega)
        have hz121 : fa26 ≤ 100 := (by omega)
        have hz122 : nd ≤ nd28 := (by omega)
        have hz123 : nd28 + 2 * at0 ≤ nd + 2 * at25 + 100000 * fa26 := (by omega)
        have hz124 : nd28 + 2 * at0 ≤ nd + 2 * at25 + (60 * (20 - ne) + 40) := (by omega)
        have hz125 : wr ≤ wr30 := (by omega)
        have hz126 : wr30 + at0 ≤ wr + at25 := (by omega)
        have hz127 : lk ≤ lk := (by omega)
        have hz128 : lk ≤ lk := (by omega)
        have hz129 : at0 + 1 ≤ at25 + fa26 := (by omega)
        have hz130 : r31 ≤ nd28 := (by omega)
        have hz131 : Kp B X32 wr30 T := hkp47
        have hz132 : If (fa26 = 0) (Low B X32 nd wr ∧ Frs K T wr30 X32 nd nd28 20000 [(r31, (280 + 4 * (20 - ne)))] ∧ kcl 7 (X32 9 r31) = true) := (fun e => absurd e (by omega))
        have hP : va_P G.1 pCl (mW G h0 a (upd (upd (upd (upd (upd (upd (upd F 15 (nI fa26)) 16 pl106) 27 (nI nd28)) 31 (nI wr30)) 64 (nI at25)) 65 (nI ne)) 66 (nI lk)) (updA X32 2 K)) _ := hP
        have hD : va_D A (mW G h0 a (upd (upd (upd (upd (upd (upd (upd F 15 (nI fa26)) 16 pl106) 27 (nI nd28)) 31 (nI wr30)) 64 (nI at25)) 65 (nI ne)) 66 (nI lk)) (updA X32 2 K)) := mW_D hD
        exact W.iret (v := (nI r31)) hx hb hr (fun t9 ht9 hW9 => ⟨⟨_, (at25, fa26, pl106, nd28, lk, wr30, r31, X32), rfl, ⟨rfl, hz119, hz120, hz121, hz122, hz123, hz124, hz125, hz126, hz127, hz128, hz129, hz130, hz131, hz132⟩, by rw [ht9]; exact hP, hD⟩, hS.F ht9⟩) hS.2.2 dX12_part_59
    · have e20 := e20
      refine lv_aload_n hx hb dX12_part_31 rfl (lv_at hl 2 rfl) ?_
      refine lv_iload_n hx hb dX12_part_32 rfl (lv_at hl 1 rfl) ?_
      have hP : va_P G.1 pCl (mW G h0 a (upd (upd (upd (upd (upd (upd (upd (upd (upd (upd (upd F 15 (nI fa14)) 16 pl15) 27 (nI nd)) 31 (nI wr)) 64 (nI at0)) 65 (nI (ne + 1))) 66 0) 15 (nI fa14)) 27 (nI nd)) 31 (nI wr)) 64 (nI at0)) (updA B 2 K)) _ := mW_to (F := F) (l1 := [(15, (nI fa14)), (16, pl15), (27, (nI nd)), (31, (nI wr)), (64, (nI at0)), (65, (nI (ne + 1))), (66, 0)]) (l2 := [(15, (nI fa14)), (16, pl15), (27, (nI nd)), (31, (nI wr)), (64, (nI at0)), (65, (nI (ne + 1))), (66, 0), (15, (nI fa14)), (27, (nI nd)), (31, (nI wr)), (64, (nI at0))]) (V := [(nI fa14), pl15, (nI nd), (nI wr), (nI at0), (nI (ne + 1)), 0, (nI fa14), pl15, (nI nd), (nI wr), (nI at0), (nI (ne + 1)), 0, (nI fa14), (nI nd), (nI wr), (nI at0)]) rfl rfl rfl hP
      have hD : va_D A (mW G h0 a (upd (upd (upd (upd (upd (upd (upd (upd (upd (upd (upd F 15 (nI fa14)) 16 pl15) 27 (nI nd)) 31 (nI wr)) 64 (nI at0)) 65 (nI (ne + 1))) 66 0) 15 (nI fa14)) 27 (nI nd)) 31 (nI wr)) 64 (nI at0)) (updA B 2 K)) := mW_D hD
      refine pc_V0 (G := G) (As := [.int (nI at0)]) (rest := []) hx hb hml hown hq hE hX pX0_al hP hD hS hA hl.1 (RF_local l G h0 a (upd (upd (upd (upd (upd (upd (upd F 15 (nI fa14)) 16 pl15) 27 (nI nd)) 31 (nI wr)) 64 (nI at0)) 65 (nI (ne + 1))) 66 0) B at0 T fa14 nd wr K at0 (by omega) (by omega) hK (by omega) e20 (by omega) (by omega) (hkp1).2) (gV pw_1703 pw_1704 pw_1705 pw_1523 pw_1683) hV_X12_local 0 9 rfl rfl rfl rfl (Nat.le_of_ble_eq_true rfl) dX12_part_33 ⟨Nat.le_of_ble_eq_true rfl, Nat.le_of_ble_eq_true rfl⟩ ⟨(by show 6 + 1 ≤ (26 * n + 41); omega), (by show 8 + (5 + 11) + 145 ≤ (2000 * n + 4100); omega)⟩ (fun v135 u133 H locs hw134 hP hD hS => ?_)
      obtain ⟨pl136, wr137, X138⟩ := u133
      obtain ⟨hw134, h139, h140, h141⟩ := hw134
      have h139 : wr ≤ wr137 := h139
      have h140 : wr137 ≤ wr := h140
      have h141 : Kp B X138 wr137 T := h141
      obtain rfl : v135 = some (.int (nI nd)) := hw134
      have hP : va_P G.1 pCl (mW G h0 a (upd (upd (upd (upd (upd (upd (upd F 15 (nI fa14)) 16 pl136) 27 (nI (nd + 1))) 31 (nI wr137)) 64 (nI at0)) 65 (nI (ne + 1))) 66 0) (updA X138 2 K)) _ := mW_to (F := F) (l1 := [(15, (nI fa14)), (16, pl15), (27, (nI nd)), (31, (nI wr)), (64, (nI at0)), (65, (nI (ne + 1))), (66, 0), (15, (nI fa14)), (16, pl136), (27, (nI (nd + 1))), (31, (nI wr137)), (64, (nI at0))]) (l2 := [(15, (nI fa14)), (16, pl136), (27, (nI (nd + 1))), (31, (nI wr137)), (64, (nI at0)), (65, (nI (ne + 1))), (66, 0)]) (V := [(nI fa14), pl136, (nI (nd + 1)), (nI wr137), (nI at0), (nI (ne + 1)), 0, (nI fa14), pl136, (nI (nd + 1)), (nI wr137), (nI at0), (nI fa14), pl136, (nI (nd + 1)), (nI wr137), (nI at0), (nI (ne + 1)), 0]) rfl rfl rfl hP
      have hD : va_D A (mW G h0 a (upd (upd (upd (upd (upd (upd (upd F 15 (nI fa14)) 16 pl136) 27 (nI (nd + 1))) 31 (nI wr137)) 64 (nI at0)) 65 (nI (ne + 1))) 66 0) (updA X138 2 K)) := mW_D hD
      refine W.widen (k := 0) (n := 0) (Nat.le_of_ble_eq_true rfl) (Nat.le_of_ble_eq_true rfl) ?_
      refine W.eq (g2 := F0 m 36 ls [.int (nI nd)]) rfl ?_
      have hkp142 : Kp B X138 wr137 T := (Kp.trans hkp1 h141)
      refine lv_istore_n (lv' := [(3, .int (nI nd)), (2, .int (nI lk)), (1, .int (nI at0)), (0, .ref h0)]) hx hb dX12_part_36 rfl hl (by decide) rfl (fun ls hl => ?_)
      refine lv_aload_n hx hb dX12_part_37 rfl (lv_at hl 3 rfl) ?_
      refine lv_bipush (v := 59) hx hb dX12_part_38 (by decide) ?_
      have hP : va_P G.1 pCl (mW G h0 a (upd (upd (upd (upd (upd (upd (upd (upd (upd F 15 (nI fa14)) 16 pl136) 27 (nI (nd + 1))) 31 (nI wr137)) 64 (nI at0)) 65 (nI (ne + 1))) 66 0) 15 (nI fa14)) 64 (nI at0)) (updA (updA X138 2 K) 2 K)) _ := mW_to (F := F) (l1 := [(15, (nI fa14)), (16, pl136), (27, (nI (nd + 1))), (31, (nI wr137)), (64, (nI at0)), (65, (nI (ne + 1))), (66, 0)]) (l2 := [(15, (nI fa14)), (16, pl136), (27, (nI (nd + 1))), (31, (nI wr137)), (64, (nI at0)), (65, (nI (ne + 1))), (66, 0), (15, (nI fa14)), (64, (nI at0))]) (V := [(nI fa14), pl136, (nI (nd + 1)), (nI wr137), (nI at0), (nI (ne + 1)), 0, (nI fa14), pl136, (nI (nd + 1)), (nI wr137), (nI at0), (nI (ne + 1)), 0, (nI fa14), (nI at0)]) rfl rfl (show (updA X138 2 K) = (updA (updA X138 2 K) 2 K) from updsA_eq2 (F := X138) (l1 := [(2, K)]) (l2 := [(2, K), (2, K)]) (V := [K, K, K]) rfl rfl) hP
      have hD : va_D A (mW G h0 a (upd (upd (upd (upd (upd (upd (upd (upd (upd F 15 (nI fa14)) 16 pl136) 27 (nI (nd + 1))) 31 (nI wr137)) 64 (nI at0)) 65 (nI (ne + 1))) 66 0) 15 (nI fa14)) 64 (nI at0)) (updA (updA X138 2 K) 2 K)) := mW_D hD
      refine pc_V0 (G := G) (As := [.int 59]) (rest := []) hx hb hml hown hq hE hX pX0_al hP hD hS hA hl.1 (R_take l G h0 a (upd (upd (upd (upd (upd (upd (upd F 15 (nI fa14)) 16 pl136) 27 (nI (nd + 1))) 31 (nI wr137)) 64 (nI at0)) 65 (nI (ne + 1))) 66 0) (updA X138 2 K) at0 T fa14 K 59 (by omega) (by omega) hK (by omega) (by decide) (by decide)) (gV pw_1614 pw_1615 pw_1616 pw_1523 pw_1601) hV_X12_take 0 9 rfl rfl rfl rfl (Nat.le_of_ble_eq_true rfl) dX12_part_40 ⟨Nat.le_of_ble_eq_true rfl, Nat.le_of_ble_eq_true rfl⟩ ⟨(by show 4 + 1 ≤ (26 * n + 41); omega), (by show 8 + (2 + 11) + 103 ≤ (2000 * n + 4100); omega)⟩ (fun v145 u143 H locs hw144 hP hD hS => ?_)
      obtain ⟨at146, fa147, pl148⟩ := u143
      obtain ⟨hw144, h149, h150, h151, h152, h153, h154, h155, h156⟩ := hw144
      have h149 : at0 ≤ at146 := h149
      have h150 : at146 ≤ T := h150
      have h151 : fa14 ≤ fa147 := h151
      have h152 : fa147 ≤ 100 := h152
      have h153 : If (0 < fa14) (at146 = at0 ∧ fa147 = fa14) := h153
      have h154 : at146 ≤ at0 + 1 := h154
      have h155 : at0 + 1 ≤ at146 + fa147 := h155
      have h156 : If (fa147 = 0) (K at0 = 59) := h156
      obtain rfl : v145 = none := hw144
      have hP : va_P G.1 pCl (mW G h0 a (upd (upd (upd (upd (upd (upd (upd F 15 (nI fa147)) 16 pl148) 27 (nI (nd + 1))) 31 (nI wr137)) 64 (nI at146)) 65 (nI (ne + 1))) 66 0) (updA X138 2 K)) _ := mW_to (F := F) (l1 := [(15, (nI fa14)), (16, pl136), (27, (nI (nd + 1))), (31, (nI wr137)), (64, (nI at0)), (65, (nI (ne + 1))), (66, 0), (15, (nI fa147)), (16, pl148), (64, (nI at146))]) (l2 := [(15, (nI fa147)), (16, pl148), (27, (nI (nd + 1))), (31, (nI wr137)), (64, (nI at146)), (65, (nI (ne + 1))), (66, 0)]) (V := [(nI fa147), pl148, (nI (nd + 1)), (nI wr137), (nI at146), (nI (ne + 1)), 0, (nI fa147), pl148, (nI at146), (nI fa147), pl148, (nI (nd + 1)), (nI wr137), (nI at146), (nI (ne + 1)), 0]) rfl rfl (show (updA (updA X138 2 K) 2 K) = (updA X138 2 K) from updsA_eq2 (F := X138) (l1 := [(2, K), (2, K)]) (l2 := [(2, K)]) (V := [K, K, K]) rfl rfl) hP
      have hD : va_D A (mW G h0 a (upd (upd (upd (upd (upd (upd (upd F 15 (nI fa147)) 16 pl148) 27 (nI (nd + 1))) 31 (nI wr137)) 64 (nI at146)) 65 (nI (ne + 1))) 66 0) (updA X138 2 K)) := mW_D hD
      refine W.widen (k := 0) (n := 0) (Nat.le_of_ble_eq_true rfl) (Nat.le_of_ble_eq_true rfl) ?_
      refine W.eq (g2 := F0 m 43 ls []) rfl ?_
      obtain ⟨n158, n157⟩ := h153 e20
      replace n158 := n158.symm
      subst n158
      replace n157 := n157.symm
      subst n157
      refine lv_aload_n hx hb dX12_part_43 rfl (lv_at hl 3 rfl) ?_
      refine lv_dup hx hb dX12_part_44 rfl ?_
      refine r_get (v := .int (nI (ne + 1))) hx hb hown hq hE hP 65 366 tFX12_65 (by decide) pw_1612 rfl dX12_part_45 ?_
      refine lv_iconst (v := 1) hx hb dX12_part_48 (by decide) ?_
      refine lv_isub hx hb dX12_part_49 ?_
      refine lv_topi (fun x159 e160 => ?_)
      obtain rfl : x159 = nI ((ne + 1) - 1) := e160.trans (nI_subN (a := 1) (b := (ne + 1)) (by omega))
      refine r_put (v := (nI ((ne + 1) - 1))) (ty := .int) hx hb hown hq hE hP hD hS 65 366 tFX12_65 (by decide) pw_1612 (by decide) rfl rfl (ms_65 a _ _) dX12_part_50 (fun H locs hP hD hS => ?_)
      refine lv_aload_n hx hb dX12_part_53 rfl (lv_at hl 3 rfl) ?_
      refine lv_iload_n hx hb dX12_part_54 rfl (lv_at hl 1 rfl) ?_
      refine r_put (v := (nI lk)) (ty := .int) hx hb hown hq hE hP hD hS 66 363 tFX12_66 (by decide) pw_1610 (by decide) rfl rfl (ms_66 a _ _) dX12_part_55 (fun H locs hP hD hS => ?_)
      refine lv_iload_n hx hb dX12_part_58 rfl (lv_at hl 0 rfl) ?_
      have hz161 : at0 ≤ at0 := (by omega)
      have hz162 : at0 ≤ T := (by omega)
      have hz163 : fa14 ≤ 100 := (by omega)
      have hz164 : nd ≤ (nd + 1) := (by omega)
      have hz165 : (nd + 1) + 2 * at0 ≤ nd + 2 * at0 + 100000 * fa14 := (by omega)
      have hz166 : (nd + 1) + 2 * at0 ≤ nd + 2 * at0 + (60 * (20 - ne) + 40) := (by omega)
      have hz167 : wr ≤ wr137 := (by omega)
      have hz168 : wr137 + at0 ≤ wr + at0 := (by omega)
      have hz169 : lk ≤ lk := (by omega)
      have hz170 : lk ≤ lk := (by omega)
      have hz171 : at0 + 1 ≤ at0 + fa14 := (by omega)
      have hz172 : nd ≤ (nd + 1) := (by omega)
      have hz173 : Kp B X138 wr137 T := hkp142
      have hz174 : If (fa14 = 0) (Low B X138 nd wr ∧ Frs K T wr137 X138 nd (nd + 1) 20000 [(nd, (280 + 4 * (20 - ne)))] ∧ kcl 7 (X138 9 nd) = true) := (fun e => absurd e (by omega))
      have hP : va_P G.1 pCl (mW G h0 a (upd (upd (upd (upd (upd (upd (upd F 15 (nI fa14)) 16 pl148) 27 (nI (nd + 1))) 31 (nI wr137)) 64 (nI at0)) 65 (nI ne)) 66 (nI lk)) (updA X138 2 K)) _ := hP
      have hD : va_D A (mW G h0 a (upd (upd (upd (upd (upd (upd (upd F 15 (nI fa14)) 16 pl148) 27 (nI (nd + 1))) 31 (nI wr137)) 64 (nI at0)) 65 (nI ne)) 66 (nI lk)) (updA X138 2 K)) := mW_D hD
      exact W.iret (v := (nI nd)) hx hb hr (fun t9 ht9 hW9 => ⟨⟨_, (at0, fa14, pl148, (nd + 1), lk, wr137, nd, X138), rfl, ⟨rfl, hz161, hz162, hz163, hz164, hz165, hz166, hz167, hz168, hz169, hz170, hz171, hz172, hz173, hz174⟩, by rw [ht9]; exact hP, hD⟩, hS.F ht9⟩) hS.2.2 dX12_part_59
  · have n175 : r6 = 0 := (nI_eq (a := r6) (b := 0) (by omega) (by omega)).mp c9
    refine lv_aload_n hx hb dX12_part_7 rfl (lv_at hl 0 rfl) ?_
    have hP : va_P G.1 pCl (mW G h0 a (upd (upd (upd (upd (upd (upd (upd (upd (upd (upd (upd (upd F 15 0) 27 (nI nd)) 31 (nI wr)) 64 (nI at0)) 65 (nI ne)) 66 (nI lk)) 15 0) 27 (nI nd)) 31 (nI wr)) 64 (nI at0)) 65 (nI ne)) 66 (nI lk)) (updA B 2 K)) _ := mW_to (F := F) (l1 := [(15, 0), (27, (nI nd)), (31, (nI wr)), (64, (nI at0)), (65, (nI ne)), (66, (nI lk))]) (l2 := [(15, 0), (27, (nI nd)), (31, (nI wr)), (64, (nI at0)), (65, (nI ne)), (66, (nI lk)), (15, 0), (27, (nI nd)), (31, (nI wr)), (64, (nI at0)), (65, (nI ne)), (66, (nI lk))]) (V := [0, (nI nd), (nI wr), (nI at0), (nI ne), (nI lk), 0, (nI nd), (nI wr), (nI at0), (nI ne), (nI lk), 0, (nI nd), (nI wr), (nI at0), (nI ne), (nI lk)]) rfl rfl rfl hP
    have hD : va_D A (mW G h0 a (upd (upd (upd (upd (upd (upd (upd (upd (upd (upd (upd (upd F 15 0) 27 (nI nd)) 31 (nI wr)) 64 (nI at0)) 65 (nI ne)) 66 (nI lk)) 15 0) 27 (nI nd)) 31 (nI wr)) 64 (nI at0)) 65 (nI ne)) 66 (nI lk)) (updA B 2 K)) := mW_D hD
    refine pc_V0 (G := G) (As := []) (rest := []) hx hb hml hown hq hE hX pX0_al hP hD hS hA hl.1 (hSt h0 a (upd (upd (upd (upd (upd (upd F 15 0) 27 (nI nd)) 31 (nI wr)) 64 (nI at0)) 65 (nI ne)) 66 (nI lk)) B at0 T ne nd wr lk K (by omega) (by omega) hK (by omega) (by omega) (by omega) (by omega) (hkp1).2 (by omega)) (gV pw_1699 pw_1700 pw_1701 pw_1523 pw_1706) hV_X12_statement 0 9 rfl rfl rfl rfl (Nat.le_of_ble_eq_true rfl) dX12_part_8 ⟨Nat.le_of_ble_eq_true rfl, Nat.le_of_ble_eq_true rfl⟩ ⟨(by show (26 * n + 40) + 1 ≤ (26 * n + 41); omega), (by show 8 + (3 + 11) + (2000 * n + 4000) ≤ (2000 * n + 4100); omega)⟩ (fun v178 u176 H locs hw177 hP hD hS => ?_)
    obtain ⟨at179, fa180, pl181, nd182, lk183, wr184, r185, X186⟩ := u176
    obtain ⟨hw177, h187, h188, h189, h190, h191, h192, h193, h194, h195, h196, h197, h198, h199, h200⟩ := hw177
    have h187 : at0 ≤ at179 := h187
    have h188 : at179 ≤ T := h188
    have h189 : fa180 ≤ 100 := h189
    have h190 : nd ≤ nd182 := h190
    have h191 : nd182 + 2 * at0 ≤ nd + 2 * at179 + 100000 * fa180 := h191
    have h192 : nd182 + 2 * at0 ≤ nd + 2 * at179 + (60 * (20 - ne) + 40) := h192
    have h193 : wr ≤ wr184 := h193
    have h194 : wr184 + at0 ≤ wr + at179 := h194
    have h195 : lk ≤ lk183 := h195
    have h196 : lk183 ≤ lk := h196
    have h197 : at0 + 1 ≤ at179 + fa180 := h197
    have h198 : r185 ≤ nd182 := h198
    have h199 : Kp B X186 wr184 T := h199
    have h200 : If (fa180 = 0) (Low B X186 nd wr ∧ Frs K T wr184 X186 nd nd182 20000 [(r185, (280 + 4 * (20 - ne)))] ∧ kcl 3 (X186 9 r185) = true) := h200
    obtain rfl : v178 = some (.int (nI r185)) := hw177
    have hP : va_P G.1 pCl (mW G h0 a (upd (upd (upd (upd (upd (upd (upd F 15 (nI fa180)) 16 pl181) 27 (nI nd182)) 31 (nI wr184)) 64 (nI at179)) 65 (nI ne)) 66 (nI lk183)) (updA X186 2 K)) _ := mW_to (F := F) (l1 := [(15, 0), (27, (nI nd)), (31, (nI wr)), (64, (nI at0)), (65, (nI ne)), (66, (nI lk)), (15, (nI fa180)), (16, pl181), (27, (nI nd182)), (31, (nI wr184)), (64, (nI at179)), (65, (nI ne)), (66, (nI lk183))]) (l2 := [(15, (nI fa180)), (16, pl181), (27, (nI nd182)), (31, (nI wr184)), (64, (nI at179)), (65, (nI ne)), (66, (nI lk183))]) (V := [(nI fa180), (nI nd182), (nI wr184), (nI at179), (nI ne), (nI lk183), (nI fa180), pl181, (nI nd182), (nI wr184), (nI at179), (nI ne), (nI lk183), (nI fa180), pl181, (nI nd182), (nI wr184), (nI at179), (nI ne), (nI lk183)]) rfl rfl rfl hP
    have hD : va_D A (mW G h0 a (upd (upd (upd (upd (upd (upd (upd F 15 (nI fa180)) 16 pl181) 27 (nI nd182)) 31 (nI wr184)) 64 (nI at179)) 65 (nI ne)) 66 (nI lk183)) (updA X186 2 K)) := mW_D hD
    refine W.widen (k := 0) (n := 0) (Nat.le_of_ble_eq_true rfl) (Nat.le_of_ble_eq_true rfl) ?_
    refine W.eq (g2 := F0 m 11 ls [.int (nI r185)]) rfl ?_
    have hkp201 : Kp B X186 wr184 T := (Kp.trans hkp1 h199)
    rcases Nat.eq_zero_or_pos fa180 with e202 | e202
    · subst e202
      have hP : va_P G.1 pCl (mW G h0 a (upd (upd (upd (upd (upd (upd (upd F 15 0) 16 pl181) 27 (nI nd182)) 31 (nI wr184)) 64 (nI at179)) 65 (nI ne)) 66 (nI lk183)) (updA X186 2 K)) _ := hP
      have hD : va_D A (mW G h0 a (upd (upd (upd (upd (upd (upd (upd F 15 0) 16 pl181) 27 (nI nd182)) 31 (nI wr184)) 64 (nI at179)) 65 (nI ne)) 66 (nI lk183)) (updA X186 2 K)) := mW_D hD
      obtain ⟨hlw203, hf204, hc205⟩ := h200 rfl
      have hlo206 : Low B X186 nd wr := (Low.trans hlo2 hlw203 (by omega) (by omega))
      have hm207 := Frs.mem hf204
      have hz208 : at0 ≤ at179 := (by omega)
      have hz209 : at179 ≤ T := (by omega)
      have hz210 : 0 ≤ 100 := (by omega)
      have hz211 : nd ≤ nd182 := (by omega)
      have hz212 : nd182 + 2 * at0 ≤ nd + 2 * at179 + 100000 * 0 := (by omega)
      have hz213 : nd182 + 2 * at0 ≤ nd + 2 * at179 + (60 * (20 - ne) + 40) := (by omega)
      have hz214 : wr ≤ wr184 := (by omega)
      have hz215 : wr184 + at0 ≤ wr + at179 := (by omega)
      have hz216 : lk ≤ lk183 := (by omega)
      have hz217 : lk183 ≤ lk := (by omega)
      have hz218 : at0 + 1 ≤ at179 + 0 := (by omega)
      have hz219 : r185 ≤ nd182 := (by omega)
      have hz220 : Kp B X186 wr184 T := hkp201
      have hz221 : If (0 = 0) (Low B X186 nd wr ∧ Frs K T wr184 X186 nd nd182 20000 [(r185, (280 + 4 * (20 - ne)))] ∧ kcl 7 (X186 9 r185) = true) := (fun _ => ⟨hlo206, Frs.up hf204 (by omega), (kcl_3_7 hc205)⟩)
      have hP : va_P G.1 pCl (mW G h0 a (upd (upd (upd (upd (upd (upd (upd F 15 (nI 0)) 16 pl181) 27 (nI nd182)) 31 (nI wr184)) 64 (nI at179)) 65 (nI ne)) 66 (nI lk183)) (updA X186 2 K)) _ := mW_to (F := F) (l1 := [(15, 0), (16, pl181), (27, (nI nd182)), (31, (nI wr184)), (64, (nI at179)), (65, (nI ne)), (66, (nI lk183))]) (l2 := [(15, (nI 0)), (16, pl181), (27, (nI nd182)), (31, (nI wr184)), (64, (nI at179)), (65, (nI ne)), (66, (nI lk183))]) (V := [(nI 0), pl181, (nI nd182), (nI wr184), (nI at179), (nI ne), (nI lk183), (nI 0), pl181, (nI nd182), (nI wr184), (nI at179), (nI ne), (nI lk183)]) rfl rfl rfl hP
      have hD : va_D A (mW G h0 a (upd (upd (upd (upd (upd (upd (upd F 15 (nI 0)) 16 pl181) 27 (nI nd182)) 31 (nI wr184)) 64 (nI at179)) 65 (nI ne)) 66 (nI lk183)) (updA X186 2 K)) := mW_D hD
      exact W.iret (v := (nI r185)) hx hb hr (fun t9 ht9 hW9 => ⟨⟨_, (at179, 0, pl181, nd182, lk183, wr184, r185, X186), rfl, ⟨rfl, hz208, hz209, hz210, hz211, hz212, hz213, hz214, hz215, hz216, hz217, hz218, hz219, hz220, hz221⟩, by rw [ht9]; exact hP, hD⟩, hS.F ht9⟩) hS.2.2 dX12_part_11
    · have e202 := e202
      have hz222 : at0 ≤ at179 := (by omega)
      have hz223 : at179 ≤ T := (by omega)
      have hz224 : fa180 ≤ 100 := (by omega)
      have hz225 : nd ≤ nd182 := (by omega)
      have hz226 : nd182 + 2 * at0 ≤ nd + 2 * at179 + 100000 * fa180 := (by omega)
      have hz227 : nd182 + 2 * at0 ≤ nd + 2 * at179 + (60 * (20 - ne) + 40) := (by omega)
      have hz228 : wr ≤ wr184 := (by omega)
      have hz229 : wr184 + at0 ≤ wr + at179 := (by omega)
      have hz230 : lk ≤ lk183 := (by omega)
      have hz231 : lk183 ≤ lk := (by omega)
      have hz232 : at0 + 1 ≤ at179 + fa180 := (by omega)
      have hz233 : r185 ≤ nd182 := (by omega)
      have hz234 : Kp B X186 wr184 T := hkp201
      have hz235 : If (fa180 = 0) (Low B X186 nd wr ∧ Frs K T wr184 X186 nd nd182 20000 [(r185, (280 + 4 * (20 - ne)))] ∧ kcl 7 (X186 9 r185) = true) := (fun e => absurd e (by omega))
      have hP : va_P G.1 pCl (mW G h0 a (upd (upd (upd (upd (upd (upd (upd F 15 (nI fa180)) 16 pl181) 27 (nI nd182)) 31 (nI wr184)) 64 (nI at179)) 65 (nI ne)) 66 (nI lk183)) (updA X186 2 K)) _ := hP
      have hD : va_D A (mW G h0 a (upd (upd (upd (upd (upd (upd (upd F 15 (nI fa180)) 16 pl181) 27 (nI nd182)) 31 (nI wr184)) 64 (nI at179)) 65 (nI ne)) 66 (nI lk183)) (updA X186 2 K)) := mW_D hD
      exact W.iret (v := (nI r185)) hx hb hr (fun t9 ht9 hW9 => ⟨⟨_, (at179, fa180, pl181, nd182, lk183, wr184, r185, X186), rfl, ⟨rfl, hz222, hz223, hz224, hz225, hz226, hz227, hz228, hz229, hz230, hz231, hz232, hz233, hz234, hz235⟩, by rw [ht9]; exact hP, hD⟩, hS.F ht9⟩) hS.2.2 dX12_part_11

theorem dX12_statement_9 : decode cX12_statement 9 = .ok (.aload_n 0, 1) := by decide +kernel
theorem dX12_statement_10 : decode cX12_statement 10 = .ok (.invokevirtual 453, 3) := by decide +kernel
theorem dX12_statement_13 : decode cX12_statement 13 = .ok (.ifCond .ne 10, 3) := by decide +kernel
theorem dX12_statement_23 : decode cX12_statement 23 = .ok (.aload_n 0, 1) := by decide +kernel
theorem dX12_statement_24 : decode cX12_statement 24 = .ok (.invokevirtual 441, 3) := by decide +kernel
theorem dX12_statement_27 : decode cX12_statement 27 = .ok (.aload_n 0, 1) := by decide +kernel
theorem dX12_statement_28 : decode cX12_statement 28 = .ok (.getfield 363, 3) := by decide +kernel
theorem dX12_statement_31 : decode cX12_statement 31 = .ok (.istore_n 1, 1) := by decide +kernel
theorem dX12_statement_32 : decode cX12_statement 32 = .ok (.aload_n 0, 1) := by decide +kernel
theorem dX12_statement_33 : decode cX12_statement 33 = .ok (.iconst 0, 1) := by decide +kernel
theorem dX12_statement_34 : decode cX12_statement 34 = .ok (.putfield 363, 3) := by decide +kernel
theorem dX12_statement_37 : decode cX12_statement 37 = .ok (.aload_n 0, 1) := by decide +kernel
theorem dX12_statement_38 : decode cX12_statement 38 = .ok (.getfield 350, 3) := by decide +kernel
theorem dX12_statement_41 : decode cX12_statement 41 = .ok (.ifCond .le 7, 3) := by decide +kernel
theorem dX12_statement_48 : decode cX12_statement 48 = .ok (.aload_n 0, 1) := by decide +kernel
theorem dX12_statement_49 : decode cX12_statement 49 = .ok (.invokevirtual 456, 3) := by decide +kernel
theorem dX12_statement_52 : decode cX12_statement 52 = .ok (.istore_n 2, 1) := by decide +kernel
theorem dX12_statement_53 : decode cX12_statement 53 = .ok (.aload_n 0, 1) := by decide +kernel
theorem dX12_statement_54 : decode cX12_statement 54 = .ok (.iload_n 1, 1) := by decide +kernel
theorem dX12_statement_55 : decode cX12_statement 55 = .ok (.putfield 363, 3) := by decide +kernel
theorem dX12_statement_58 : decode cX12_statement 58 = .ok (.aload_n 0, 1) := by decide +kernel
theorem dX12_statement_59 : decode cX12_statement 59 = .ok (.dup, 1) := by decide +kernel
theorem dX12_statement_60 : decode cX12_statement 60 = .ok (.getfield 366, 3) := by decide +kernel
theorem dX12_statement_63 : decode cX12_statement 63 = .ok (.iconst 1, 1) := by decide +kernel
theorem dX12_statement_64 : decode cX12_statement 64 = .ok (.isub, 1) := by decide +kernel
theorem dX12_statement_65 : decode cX12_statement 65 = .ok (.putfield 366, 3) := by decide +kernel
theorem dX12_statement_68 : decode cX12_statement 68 = .ok (.iload_n 2, 1) := by decide +kernel
theorem dX12_statement_69 : decode cX12_statement 69 = .ok (.ireturn, 1) := by decide +kernel
theorem dX12_statement_44 : decode cX12_statement 44 = .ok (.iconst 0, 1) := by decide +kernel
theorem dX12_statement_45 : decode cX12_statement 45 = .ok (.goto 7, 3) := by decide +kernel
theorem dX12_statement_16 : decode cX12_statement 16 = .ok (.aload_n 0, 1) := by decide +kernel
theorem dX12_statement_17 : decode cX12_statement 17 = .ok (.iconst 1, 1) := by decide +kernel
theorem dX12_statement_18 : decode cX12_statement 18 = .ok (.invokevirtual 356, 3) := by decide +kernel
theorem dX12_statement_21 : decode cX12_statement 21 = .ok (.iconst 0, 1) := by decide +kernel
theorem dX12_statement_22 : decode cX12_statement 22 = .ok (.ireturn, 1) := by decide +kernel
theorem hV_X12_isBegin : yX12_isBegin.cls = RX12 ∧ yX12_isBegin.cls ≠ "java/lang/invoke/MethodHandle" ∧ yX12_isBegin.cls ≠ "java/lang/invoke/VarHandle" ∧ (parseMethodDescriptor yX12_isBegin.desc).map (fun d => d.parameters.length) = some 0 := by decide +kernel
set_option maxHeartbeats 2000000 in
set_option maxRecDepth 100000 in
/-- statement(), no fault ahead -/
theorem RT_statement (l : Launch) (G : pT) (h0 : Nat) (a : Nat → Nat) (F : Nat → Int32) (B : Nat → Nat → Int32) (at0 : Nat) (T : Nat) (n : Nat) (ne : Nat) (nd : Nat) (wr : Nat) (lk : Nat) (K : Nat → Int32) (hat : at0 ≤ T) (hT : T ≤ 5000) (hK : K T = 0 ∨ K T = 3) (hne : ne ≤ 20) (hnd : nd ≤ 2 * at0) (hwr : wr ≤ at0) (hlk : lk ≤ 60) (hy : tkRow (B 19) wr T) (hn : 21 ≤ n + ne) (hO : PstatementOf l G (n - 1)) : PM l G pX0 yX12_statement cX12_statement 3 (some .int) ({ frames := (26 * n + 40), cells := 0, slots := 0, locals := (2000 * n + 4000) }) [.ref h0] (mW G h0 a (upd (upd (upd (upd (upd (upd F 15 0) 27 (nI nd)) 31 (nI wr)) 64 (nI at0)) 65 (nI ne)) 66 (nI lk)) (updA B 2 K)) (fun (v : Option Value) (u : Nat × Nat × Int32 × Nat × Nat × Nat × Nat × (Nat → Nat → Int32)) => v = some (.int (nI u.2.2.2.2.2.2.1)) ∧ (at0 ≤ u.1) ∧ (u.1 ≤ T) ∧ (u.2.1 ≤ 100) ∧ (nd ≤ u.2.2.2.1) ∧ (u.2.2.2.1 + 2 * at0 ≤ nd + 2 * u.1 + 100000 * u.2.1) ∧ (u.2.2.2.1 + 2 * at0 ≤ nd + 2 * u.1 + (60 * (20 - ne) + 40)) ∧ (wr ≤ u.2.2.2.2.2.1) ∧ (u.2.2.2.2.2.1 + at0 ≤ wr + u.1) ∧ (lk ≤ u.2.2.2.2.1) ∧ (u.2.2.2.2.1 ≤ lk) ∧ (at0 + 1 ≤ u.1 + u.2.1) ∧ (u.2.2.2.2.2.2.1 ≤ u.2.2.2.1) ∧ (Kp B u.2.2.2.2.2.2.2 u.2.2.2.2.2.1 T) ∧ (If (u.2.1 = 0) (Low B u.2.2.2.2.2.2.2 nd wr ∧ Frs K T u.2.2.2.2.2.1 u.2.2.2.2.2.2.2 nd u.2.2.2.1 20000 [(u.2.2.2.2.2.2.1, (280 + 4 * (20 - ne)))] ∧ kcl 3 (u.2.2.2.2.2.2.2 9 u.2.2.2.2.2.2.1) = true))) (fun u => (mW G h0 a (upd (upd (upd (upd (upd (upd (upd F 15 (nI u.2.1)) 16 u.2.2.1) 27 (nI u.2.2.2.1)) 31 (nI u.2.2.2.2.2.1)) 64 (nI u.1)) 65 (nI ne)) 66 (nI u.2.2.2.2.1)) (updA u.2.2.2.2.2.2.2 2 K))) := by
  intro sz
  refine Met.ofW (cc := cX12_statement) (maxL := 3) (ret := (some .int)) (by decide) rfl ?_
  intro p e s m args below meth c s₁ B9 hml hv
  obtain ⟨rfl, hsz, hP, hD0, hE, hX⟩ := hv
  have hx := B9.exec
  have hb := B9.bytes
  have hr := B9.returns
  have hts := atoms_spec (ws := Cond.code yX12_statement cX12_statement 3 (some .int) :: pw) B9.pre
  have hq : ∀ w ∈ pw, w.before _ s = true := fun w h => hts w (List.mem_cons_of_mem _ h)
  have hown : s.vm.findClass RX12 = some m.cls := findClass_of_methodNamed B9.named
  have hlocks := B9.notSynchronized
  subst hsz
  have hD := hD0.self (sz := s.heap.size)
  have hA : ∀ q : Nat, s.heap.size ≤ q → va_A (mW G h0 a (upd (upd (upd (upd (upd (upd F 15 0) 27 (nI nd)) 31 (nI wr)) 64 (nI at0)) 65 (nI ne)) 66 (nI lk)) (updA B 2 K)) s.heap.size q := fun q h => Or.inr h
  have hP : va_P G.1 pCl (mW G h0 a (upd (upd (upd (upd (upd (upd F 15 0) 27 (nI nd)) 31 (nI wr)) 64 (nI at0)) 65 (nI ne)) 66 (nI lk)) (updA B 2 K)) s.heap := hP
  generalize va_A (mW G h0 a (upd (upd (upd (upd (upd (upd F 15 0) 27 (nI nd)) 31 (nI wr)) 64 (nI at0)) 65 (nI ne)) 66 (nI lk)) (updA B 2 K)) s.heap.size = A at hD hE hA ⊢
  have hS : va_S A s.heap s.heap [] := va_S.rf
  have hl := lv_entry ([.ref h0]) (n := 3) (Nat.le_of_ble_eq_true rfl)
  rw [lg_entry_eq]
  generalize (lg_sl ([.ref h0]) ++ List.replicate (3 - (lg_sl ([.ref h0])).length) Slot.unset).toArray = ls at hl ⊢
  have hl : lv_has ls 3 [(0, .ref h0)] := hl
  have hkp1 : Kp B B wr T := Kp.rfl hy
  have hlo2 : Low B B nd wr := Low.rfl
  refine lv_aload_n hx hb dX12_statement_0 rfl (lv_at hl 0 rfl) ?_
  refine r_get (v := .int 0) hx hb hown hq hE hP 15 350 tFX12_15 (by decide) pw_1594 rfl dX12_statement_1 ?_
  refine lv_if_le (tgt := 9) hx hb dX12_statement_4 (by decide) (fun c3 => ?_) (fun c3 => absurd c3 (by decide))
  refine lv_aload_n hx hb dX12_statement_9 rfl (lv_at hl 0 rfl) ?_
  have hP : va_P G.1 pCl (mW G h0 a (upd (upd (upd (upd (upd (upd (upd (upd F 15 0) 27 (nI nd)) 31 (nI wr)) 64 (nI at0)) 65 (nI ne)) 66 (nI lk)) 15 (nI 0)) 64 (nI at0)) (updA (updA B 2 K) 2 K)) _ := mW_to (F := F) (l1 := [(15, 0), (27, (nI nd)), (31, (nI wr)), (64, (nI at0)), (65, (nI ne)), (66, (nI lk))]) (l2 := [(15, 0), (27, (nI nd)), (31, (nI wr)), (64, (nI at0)), (65, (nI ne)), (66, (nI lk)), (15, (nI 0)), (64, (nI at0))]) (V := [(nI 0), (nI nd), (nI wr), (nI at0), (nI ne), (nI lk), (nI 0), (nI nd), (nI wr), (nI at0), (nI ne), (nI lk), (nI 0), (nI at0)]) rfl rfl (show (updA B 2 K) = (updA (updA B 2 K) 2 K) from updsA_eq2 (F := B) (l1 := [(2, K)]) (l2 := [(2, K), (2, K)]) (V := [K, K, K]) rfl rfl) hP
  have hD : va_D A (mW G h0 a (upd (upd (upd (upd (upd (upd (upd (upd F 15 0) 27 (nI nd)) 31 (nI wr)) 64 (nI at0)) 65 (nI ne)) 66 (nI lk)) 15 (nI 0)) 64 (nI at0)) (updA (updA B 2 K) 2 K)) := mW_D hD
  refine pc_V0 (G := G) (As := []) (rest := []) hx hb hml hown hq hE hX pX0_al hP hD hS hA hl.1 (R_isBegin l G h0 a (upd (upd (upd (upd (upd (upd F 15 0) 27 (nI nd)) 31 (nI wr)) 64 (nI at0)) 65 (nI ne)) 66 (nI lk)) (updA B 2 K) at0 T 0 K (by omega) (by omega) hK (by omega)) (gV pw_1707 pw_1708 pw_1709 pw_1523 pw_1684) hV_X12_isBegin 0 9 rfl rfl rfl rfl (Nat.le_of_ble_eq_true rfl) dX12_statement_10 ⟨Nat.le_of_ble_eq_true rfl, Nat.le_of_ble_eq_true rfl⟩ ⟨(by show 4 + 1 ≤ (26 * n + 40); omega), (by show 8 + (2 + 11) + 101 ≤ (2000 * n + 4000); omega)⟩ (fun v6 u4 H locs hw5 hP hD hS => ?_)
  obtain ⟨r7, rfl⟩ : ∃ z, z = u4 := ⟨_, rfl⟩
  obtain ⟨hw5, h8, h9⟩ := hw5
  have h8 : r7 ≤ 1 := h8
  have h9 : at0 + r7 ≤ T := h9
  obtain rfl : v6 = some (.int (nI r7)) := hw5
  have hP : va_P G.1 pCl (mW G h0 a (upd (upd (upd (upd (upd (upd F 15 0) 27 (nI nd)) 31 (nI wr)) 64 (nI at0)) 65 (nI ne)) 66 (nI lk)) (updA B 2 K)) _ := mW_to (F := F) (l1 := [(15, 0), (27, (nI nd)), (31, (nI wr)), (64, (nI at0)), (65, (nI ne)), (66, (nI lk)), (15, (nI 0)), (64, (nI at0))]) (l2 := [(15, 0), (27, (nI nd)), (31, (nI wr)), (64, (nI at0)), (65, (nI ne)), (66, (nI lk))]) (V := [0, (nI nd), (nI wr), (nI at0), (nI ne), (nI lk), 0, (nI at0), 0, (nI nd), (nI wr), (nI at0), (nI ne), (nI lk)]) rfl rfl (show (updA (updA B 2 K) 2 K) = (updA B 2 K) from updsA_eq2 (F := B) (l1 := [(2, K), (2, K)]) (l2 := [(2, K)]) (V := [K, K, K]) rfl rfl) hP
  have hD : va_D A (mW G h0 a (upd (upd (upd (upd (upd (upd F 15 0) 27 (nI nd)) 31 (nI wr)) 64 (nI at0)) 65 (nI ne)) 66 (nI lk)) (updA B 2 K)) := mW_D hD
  refine W.widen (k := 0) (n := 0) (Nat.le_of_ble_eq_true rfl) (Nat.le_of_ble_eq_true rfl) ?_
  refine W.eq (g2 := F0 m 13 ls [.int (nI r7)]) rfl ?_
  refine lv_if_ne (tgt := 23) hx hb dX12_statement_13 (by decide) (fun c10 => ?_) (fun c10 => ?_)
  · have n11 : ¬ (r7 = 0) := fun h9 => c10 ((nI_eq (a := r7) (b := 0) (by omega) (by omega)).mpr h9)
    refine lv_aload_n hx hb dX12_statement_23 rfl (lv_at hl 0 rfl) ?_
    have hP : va_P G.1 pCl (mW G h0 a (upd (upd (upd (upd (upd (upd (upd (upd (upd F 15 0) 27 (nI nd)) 31 (nI wr)) 64 (nI at0)) 65 (nI ne)) 66 (nI lk)) 15 (nI 0)) 64 (nI at0)) 65 (nI ne)) (updA (updA B 2 K) 2 K)) _ := mW_to (F := F) (l1 := [(15, 0), (27, (nI nd)), (31, (nI wr)), (64, (nI at0)), (65, (nI ne)), (66, (nI lk))]) (l2 := [(15, 0), (27, (nI nd)), (31, (nI wr)), (64, (nI at0)), (65, (nI ne)), (66, (nI lk)), (15, (nI 0)), (64, (nI at0)), (65, (nI ne))]) (V := [(nI 0), (nI nd), (nI wr), (nI at0), (nI ne), (nI lk), (nI 0), (nI nd), (nI wr), (nI at0), (nI ne), (nI lk), (nI 0), (nI at0), (nI ne)]) rfl rfl (show (updA B 2 K) = (updA (updA B 2 K) 2 K) from updsA_eq2 (F := B) (l1 := [(2, K)]) (l2 := [(2, K), (2, K)]) (V := [K, K, K]) rfl rfl) hP
    have hD : va_D A (mW G h0 a (upd (upd (upd (upd (upd (upd (upd (upd (upd F 15 0) 27 (nI nd)) 31 (nI wr)) 64 (nI at0)) 65 (nI ne)) 66 (nI lk)) 15 (nI 0)) 64 (nI at0)) 65 (nI ne)) (updA (updA B 2 K) 2 K)) := mW_D hD
    refine pc_V0 (G := G) (As := []) (rest := []) hx hb hml hown hq hE hX pX0_al hP hD hS hA hl.1 (R_deeper l G h0 a (upd (upd (upd (upd (upd (upd F 15 0) 27 (nI nd)) 31 (nI wr)) 64 (nI at0)) 65 (nI ne)) 66 (nI lk)) (updA B 2 K) at0 T 0 K ne (by omega) (by omega) hK (by omega) (by omega)) (gV pw_1637 pw_1638 pw_1639 pw_1523 pw_1611) hV_X12_deeper 0 9 rfl rfl rfl rfl (Nat.le_of_ble_eq_true rfl) dX12_statement_24 ⟨Nat.le_of_ble_eq_true rfl, Nat.le_of_ble_eq_true rfl⟩ ⟨(by show 4 + 1 ≤ (26 * n + 40); omega), (by show 8 + (1 + 11) + 103 ≤ (2000 * n + 4000); omega)⟩ (fun v14 u12 H locs hw13 hP hD hS => ?_)
    obtain ⟨fa15, pl16⟩ := u12
    obtain ⟨hw13, h17, h18, h19, h20⟩ := hw13
    have h17 : 0 ≤ fa15 := h17
    have h18 : fa15 ≤ 100 := h18
    have h19 : If (0 < 0) (fa15 = 0) := h19
    have h20 : If (ne ≤ 20) (ne + 1 ≤ 20 + fa15) := h20
    obtain rfl : v14 = none := hw13
    have hP : va_P G.1 pCl (mW G h0 a (upd (upd (upd (upd (upd (upd (upd F 15 (nI fa15)) 16 pl16) 27 (nI nd)) 31 (nI wr)) 64 (nI at0)) 65 (nI (ne + 1))) 66 (nI lk)) (updA B 2 K)) _ := mW_to (F := F) (l1 := [(15, 0), (27, (nI nd)), (31, (nI wr)), (64, (nI at0)), (65, (nI ne)), (66, (nI lk)), (15, (nI fa15)), (16, pl16), (64, (nI at0)), (65, (nI (ne + 1)))]) (l2 := [(15, (nI fa15)), (16, pl16), (27, (nI nd)), (31, (nI wr)), (64, (nI at0)), (65, (nI (ne + 1))), (66, (nI lk))]) (V := [(nI fa15), (nI nd), (nI wr), (nI at0), (nI (ne + 1)), (nI lk), (nI fa15), pl16, (nI at0), (nI (ne + 1)), (nI fa15), pl16, (nI nd), (nI wr), (nI at0), (nI (ne + 1)), (nI lk)]) rfl rfl (show (updA (updA B 2 K) 2 K) = (updA B 2 K) from updsA_eq2 (F := B) (l1 := [(2, K), (2, K)]) (l2 := [(2, K)]) (V := [K, K, K]) rfl rfl) hP
    have hD : va_D A (mW G h0 a (upd (upd (upd (upd (upd (upd (upd F 15 (nI fa15)) 16 pl16) 27 (nI nd)) 31 (nI wr)) 64 (nI at0)) 65 (nI (ne + 1))) 66 (nI lk)) (updA B 2 K)) := mW_D hD
    refine W.widen (k := 0) (n := 0) (Nat.le_of_ble_eq_true rfl) (Nat.le_of_ble_eq_true rfl) ?_
    refine W.eq (g2 := F0 m 27 ls []) rfl ?_
    rcases Nat.eq_zero_or_pos fa15 with e21 | e21
    · subst e21
      have hP : va_P G.1 pCl (mW G h0 a (upd (upd (upd (upd (upd (upd (upd F 15 0) 16 pl16) 27 (nI nd)) 31 (nI wr)) 64 (nI at0)) 65 (nI (ne + 1))) 66 (nI lk)) (updA B 2 K)) _ := hP
      have hD : va_D A (mW G h0 a (upd (upd (upd (upd (upd (upd (upd F 15 0) 16 pl16) 27 (nI nd)) 31 (nI wr)) 64 (nI at0)) 65 (nI (ne + 1))) 66 (nI lk)) (updA B 2 K)) := mW_D hD
      have n22 : ne + 1 ≤ 20 := (h20 (by omega))
      refine lv_aload_n hx hb dX12_statement_27 rfl (lv_at hl 0 rfl) ?_
      refine r_get (v := .int (nI lk)) hx hb hown hq hE hP 66 363 tFX12_66 (by decide) pw_1610 rfl dX12_statement_28 ?_
      refine lv_istore_n (lv' := [(1, .int (nI lk)), (0, .ref h0)]) hx hb dX12_statement_31 rfl hl (by decide) rfl (fun ls hl => ?_)
      refine lv_aload_n hx hb dX12_statement_32 rfl (lv_at hl 1 rfl) ?_
      refine lv_iconst (v := 0) hx hb dX12_statement_33 (by decide) ?_
      refine r_put (v := 0) (ty := .int) hx hb hown hq hE hP hD hS 66 363 tFX12_66 (by decide) pw_1610 (by decide) rfl rfl (ms_66 a _ _) dX12_statement_34 (fun H locs hP hD hS => ?_)
      refine lv_aload_n hx hb dX12_statement_37 rfl (lv_at hl 1 rfl) ?_
      refine r_get (v := .int 0) hx hb hown hq hE hP 15 350 tFX12_15 (by decide) pw_1594 rfl dX12_statement_38 ?_
      refine lv_if_le (tgt := 48) hx hb dX12_statement_41 (by decide) (fun c23 => ?_) (fun c23 => absurd c23 (by decide))
      refine lv_aload_n hx hb dX12_statement_48 rfl (lv_at hl 1 rfl) ?_
      have hP : va_P G.1 pCl (mW G h0 a (upd (upd (upd (upd (upd (upd (upd (upd (upd (upd (upd (upd (upd F 15 0) 16 pl16) 27 (nI nd)) 31 (nI wr)) 64 (nI at0)) 65 (nI (ne + 1))) 66 0) 15 0) 27 (nI nd)) 31 (nI wr)) 64 (nI at0)) 65 (nI (ne + 1))) 66 (nI 0)) (updA B 2 K)) _ := mW_to (F := F) (l1 := [(15, 0), (16, pl16), (27, (nI nd)), (31, (nI wr)), (64, (nI at0)), (65, (nI (ne + 1))), (66, (nI lk)), (66, 0)]) (l2 := [(15, 0), (16, pl16), (27, (nI nd)), (31, (nI wr)), (64, (nI at0)), (65, (nI (ne + 1))), (66, 0), (15, 0), (27, (nI nd)), (31, (nI wr)), (64, (nI at0)), (65, (nI (ne + 1))), (66, (nI 0))]) (V := [0, pl16, (nI nd), (nI wr), (nI at0), (nI (ne + 1)), (nI 0), (nI 0), 0, pl16, (nI nd), (nI wr), (nI at0), (nI (ne + 1)), (nI 0), 0, (nI nd), (nI wr), (nI at0), (nI (ne + 1)), (nI 0)]) rfl rfl rfl hP
      have hD : va_D A (mW G h0 a (upd (upd (upd (upd (upd (upd (upd (upd (upd (upd (upd (upd (upd F 15 0) 16 pl16) 27 (nI nd)) 31 (nI wr)) 64 (nI at0)) 65 (nI (ne + 1))) 66 0) 15 0) 27 (nI nd)) 31 (nI wr)) 64 (nI at0)) 65 (nI (ne + 1))) 66 (nI 0)) (updA B 2 K)) := mW_D hD
      refine pc_V0 (G := G) (As := []) (rest := []) hx hb hml hown hq hE hX pX0_al hP hD hS hA hl.1 (hO h0 a (upd (upd (upd (upd (upd (upd (upd F 15 0) 16 pl16) 27 (nI nd)) 31 (nI wr)) 64 (nI at0)) 65 (nI (ne + 1))) 66 0) B at0 T (ne + 1) nd wr 0 K (by omega) (by omega) hK (by omega) (by omega) (by omega) (by omega) (hkp1).2 (by omega)) (gV pw_1710 pw_1711 pw_1712 pw_1523 pw_1713) hV_X12_statementOf 0 9 rfl rfl rfl rfl (Nat.le_of_ble_eq_true rfl) dX12_statement_49 ⟨Nat.le_of_ble_eq_true rfl, Nat.le_of_ble_eq_true rfl⟩ ⟨(by show (26 * (n - 1) + 44) + 1 ≤ (26 * n + 40); omega), (by show 8 + (3 + 11) + (2000 * (n - 1) + 4400) ≤ (2000 * n + 4000); omega)⟩ (fun v26 u24 H locs hw25 hP hD hS => ?_)
      obtain ⟨at27, fa28, pl29, nd30, lk31, wr32, r33, X34⟩ := u24
      obtain ⟨hw25, h35, h36, h37, h38, h39, h40, h41, h42, h43, h44, h45, h46, h47, h48⟩ := hw25
      have h35 : at0 ≤ at27 := h35
      have h36 : at27 ≤ T := h36
      have h37 : fa28 ≤ 100 := h37
      have h38 : nd ≤ nd30 := h38
      have h39 : nd30 + 2 * at0 ≤ nd + 2 * at27 + 100000 * fa28 := h39
      have h40 : nd30 + 2 * at0 ≤ nd + 2 * at27 + (60 * (21 - (ne + 1)) + 40) := h40
      have h41 : wr ≤ wr32 := h41
      have h42 : wr32 + at0 ≤ wr + at27 := h42
      have h43 : 0 ≤ lk31 := h43
      have h44 : lk31 ≤ 60 + 100 * fa28 := h44
      have h45 : at0 + 1 ≤ at27 + fa28 := h45
      have h46 : r33 ≤ nd30 := h46
      have h47 : Kp B X34 wr32 T := h47
      have h48 : If (fa28 = 0) (Low B X34 nd wr ∧ Frs K T wr32 X34 nd nd30 20000 [(r33, (280 + 4 * (21 - (ne + 1))))] ∧ kcl 3 (X34 9 r33) = true) := h48
      obtain rfl : v26 = some (.int (nI r33)) := hw25
      have hP : va_P G.1 pCl (mW G h0 a (upd (upd (upd (upd (upd (upd (upd F 15 (nI fa28)) 16 pl29) 27 (nI nd30)) 31 (nI wr32)) 64 (nI at27)) 65 (nI (ne + 1))) 66 (nI lk31)) (updA X34 2 K)) _ := mW_to (F := F) (l1 := [(15, 0), (16, pl16), (27, (nI nd)), (31, (nI wr)), (64, (nI at0)), (65, (nI (ne + 1))), (66, 0), (15, (nI fa28)), (16, pl29), (27, (nI nd30)), (31, (nI wr32)), (64, (nI at27)), (65, (nI (ne + 1))), (66, (nI lk31))]) (l2 := [(15, (nI fa28)), (16, pl29), (27, (nI nd30)), (31, (nI wr32)), (64, (nI at27)), (65, (nI (ne + 1))), (66, (nI lk31))]) (V := [(nI fa28), pl29, (nI nd30), (nI wr32), (nI at27), (nI (ne + 1)), (nI lk31), (nI fa28), pl29, (nI nd30), (nI wr32), (nI at27), (nI (ne + 1)), (nI lk31), (nI fa28), pl29, (nI nd30), (nI wr32), (nI at27), (nI (ne + 1)), (nI lk31)]) rfl rfl rfl hP
      have hD : va_D A (mW G h0 a (upd (upd (upd (upd (upd (upd (upd F 15 (nI fa28)) 16 pl29) 27 (nI nd30)) 31 (nI wr32)) 64 (nI at27)) 65 (nI (ne + 1))) 66 (nI lk31)) (updA X34 2 K)) := mW_D hD
      refine W.widen (k := 0) (n := 0) (Nat.le_of_ble_eq_true rfl) (Nat.le_of_ble_eq_true rfl) ?_
      refine W.eq (g2 := F0 m 52 ls [.int (nI r33)]) rfl ?_
      have hkp49 : Kp B X34 wr32 T := (Kp.trans hkp1 h47)
      rcases Nat.eq_zero_or_pos fa28 with e50 | e50
      · subst e50
        have hP : va_P G.1 pCl (mW G h0 a (upd (upd (upd (upd (upd (upd (upd F 15 0) 16 pl29) 27 (nI nd30)) 31 (nI wr32)) 64 (nI at27)) 65 (nI (ne + 1))) 66 (nI lk31)) (updA X34 2 K)) _ := hP
        have hD : va_D A (mW G h0 a (upd (upd (upd (upd (upd (upd (upd F 15 0) 16 pl29) 27 (nI nd30)) 31 (nI wr32)) 64 (nI at27)) 65 (nI (ne + 1))) 66 (nI lk31)) (updA X34 2 K)) := mW_D hD
        obtain ⟨hlw51, hf52, hc53⟩ := h48 rfl
        have hlo54 : Low B X34 nd wr := (Low.trans hlo2 hlw51 (by omega) (by omega))
        have hm55 := Frs.mem hf52
        refine lv_istore_n (lv' := [(2, .int (nI r33)), (1, .int (nI lk)), (0, .ref h0)]) hx hb dX12_statement_52 rfl hl (by decide) rfl (fun ls hl => ?_)
        refine lv_aload_n hx hb dX12_statement_53 rfl (lv_at hl 2 rfl) ?_
        refine lv_iload_n hx hb dX12_statement_54 rfl (lv_at hl 1 rfl) ?_
        refine r_put (v := (nI lk)) (ty := .int) hx hb hown hq hE hP hD hS 66 363 tFX12_66 (by decide) pw_1610 (by decide) rfl rfl (ms_66 a _ _) dX12_statement_55 (fun H locs hP hD hS => ?_)
        refine lv_aload_n hx hb dX12_statement_58 rfl (lv_at hl 2 rfl) ?_
        refine lv_dup hx hb dX12_statement_59 rfl ?_
        refine r_get (v := .int (nI (ne + 1))) hx hb hown hq hE hP 65 366 tFX12_65 (by decide) pw_1612 rfl dX12_statement_60 ?_
        refine lv_iconst (v := 1) hx hb dX12_statement_63 (by decide) ?_
        refine lv_isub hx hb dX12_statement_64 ?_
        refine lv_topi (fun x56 e57 => ?_)
        obtain rfl : x56 = nI ((ne + 1) - 1) := e57.trans (nI_subN (a := 1) (b := (ne + 1)) (by omega))
        refine r_put (v := (nI ((ne + 1) - 1))) (ty := .int) hx hb hown hq hE hP hD hS 65 366 tFX12_65 (by decide) pw_1612 (by decide) rfl rfl (ms_65 a _ _) dX12_statement_65 (fun H locs hP hD hS => ?_)
        refine lv_iload_n hx hb dX12_statement_68 rfl (lv_at hl 0 rfl) ?_
        have hz58 : at0 ≤ at27 := (by omega)
        have hz59 : at27 ≤ T := (by omega)
        have hz60 : 0 ≤ 100 := (by omega)
        have hz61 : nd ≤ nd30 := (by omega)
        have hz62 : nd30 + 2 * at0 ≤ nd + 2 * at27 + 100000 * 0 := (by omega)
        have hz63 : nd30 + 2 * at0 ≤ nd + 2 * at27 + (60 * (20 - ne) + 40) := (by omega)
        have hz64 : wr ≤ wr32 := (by omega)
        have hz65 : wr32 + at0 ≤ wr + at27 := (by omega)
        have hz66 : lk ≤ lk := (by omega)
        have hz67 : lk ≤ lk := (by omega)
        have hz68 : at0 + 1 ≤ at27 + 0 := (by omega)
        have hz69 : r33 ≤ nd30 := (by omega)
        have hz70 : Kp B X34 wr32 T := hkp49
        have hz71 : If (0 = 0) (Low B X34 nd wr ∧ Frs K T wr32 X34 nd nd30 20000 [(r33, (280 + 4 * (20 - ne)))] ∧ kcl 3 (X34 9 r33) = true) := (fun _ => ⟨hlo54, Frs.up hf52 (by omega), hc53⟩)
        have hP : va_P G.1 pCl (mW G h0 a (upd (upd (upd (upd (upd (upd (upd F 15 (nI 0)) 16 pl29) 27 (nI nd30)) 31 (nI wr32)) 64 (nI at27)) 65 (nI ne)) 66 (nI lk)) (updA X34 2 K)) _ := mW_to (F := F) (l1 := [(15, 0), (16, pl29), (27, (nI nd30)), (31, (nI wr32)), (64, (nI at27)), (65, (nI (ne + 1))), (66, (nI lk31)), (66, (nI lk)), (65, (nI ((ne + 1) - 1)))]) (l2 := [(15, (nI 0)), (16, pl29), (27, (nI nd30)), (31, (nI wr32)), (64, (nI at27)), (65, (nI ne)), (66, (nI lk))]) (V := [(nI 0), pl29, (nI nd30), (nI wr32), (nI at27), (nI ne), (nI lk), (nI lk), (nI ne), (nI 0), pl29, (nI nd30), (nI wr32), (nI at27), (nI ne), (nI lk)]) rfl rfl rfl hP
        have hD : va_D A (mW G h0 a (upd (upd (upd (upd (upd (upd (upd F 15 (nI 0)) 16 pl29) 27 (nI nd30)) 31 (nI wr32)) 64 (nI at27)) 65 (nI ne)) 66 (nI lk)) (updA X34 2 K)) := mW_D hD
        exact W.iret (v := (nI r33)) hx hb hr (fun t9 ht9 hW9 => ⟨⟨_, (at27, 0, pl29, nd30, lk, wr32, r33, X34), rfl, ⟨rfl, hz58, hz59, hz60, hz61, hz62, hz63, hz64, hz65, hz66, hz67, hz68, hz69, hz70, hz71⟩, by rw [ht9]; exact hP, hD⟩, hS.F ht9⟩) hS.2.2 dX12_statement_69
      · have e50 := e50
        refine lv_istore_n (lv' := [(2, .int (nI r33)), (1, .int (nI lk)), (0, .ref h0)]) hx hb dX12_statement_52 rfl hl (by decide) rfl (fun ls hl => ?_)
        refine lv_aload_n hx hb dX12_statement_53 rfl (lv_at hl 2 rfl) ?_
        refine lv_iload_n hx hb dX12_statement_54 rfl (lv_at hl 1 rfl) ?_
        refine r_put (v := (nI lk)) (ty := .int) hx hb hown hq hE hP hD hS 66 363 tFX12_66 (by decide) pw_1610 (by decide) rfl rfl (ms_66 a _ _) dX12_statement_55 (fun H locs hP hD hS => ?_)
        refine lv_aload_n hx hb dX12_statement_58 rfl (lv_at hl 2 rfl) ?_
        refine lv_dup hx hb dX12_statement_59 rfl ?_
        refine r_get (v := .int (nI (ne + 1))) hx hb hown hq hE hP 65 366 tFX12_65 (by decide) pw_1612 rfl dX12_statement_60 ?_
        refine lv_iconst (v := 1) hx hb dX12_statement_63 (by decide) ?_
        refine lv_isub hx hb dX12_statement_64 ?_
        refine lv_topi (fun x72 e73 => ?_)
        obtain rfl : x72 = nI ((ne + 1) - 1) := e73.trans (nI_subN (a := 1) (b := (ne + 1)) (by omega))
        refine r_put (v := (nI ((ne + 1) - 1))) (ty := .int) hx hb hown hq hE hP hD hS 65 366 tFX12_65 (by decide) pw_1612 (by decide) rfl rfl (ms_65 a _ _) dX12_statement_65 (fun H locs hP hD hS => ?_)
        refine lv_iload_n hx hb dX12_statement_68 rfl (lv_at hl 0 rfl) ?_
        have hz74 : at0 ≤ at27 := (by omega)
        have hz75 : at27 ≤ T := (by omega)
        have hz76 : fa28 ≤ 100 := (by omega)
        have hz77 : nd ≤ nd30 := (by omega)
        have hz78 : nd30 + 2 * at0 ≤ nd + 2 * at27 + 100000 * fa28 := (by omega)
        have hz79 : nd30 + 2 * at0 ≤ nd + 2 * at27 + (60 * (20 - ne) + 40) := (by omega)
        have hz80 : wr ≤ wr32 := (by omega)
        have hz81 : wr32 + at0 ≤ wr + at27 := (by omega)
        have hz82 : lk ≤ lk := (by omega)
        have hz83 : lk ≤ lk := (by omega)
        have hz84 : at0 + 1 ≤ at27 + fa28 := (by omega)
        have hz85 : r33 ≤ nd30 := (by omega)
        have hz86 : Kp B X34 wr32 T := hkp49
        have hz87 : If (fa28 = 0) (Low B X34 nd wr ∧ Frs K T wr32 X34 nd nd30 20000 [(r33, (280 + 4 * (20 - ne)))] ∧ kcl 3 (X34 9 r33) = true) := (fun e => absurd e (by omega))
        have hP : va_P G.1 pCl (mW G h0 a (upd (upd (upd (upd (upd (upd (upd F 15 (nI fa28)) 16 pl29) 27 (nI nd30)) 31 (nI wr32)) 64 (nI at27)) 65 (nI ne)) 66 (nI lk)) (updA X34 2 K)) _ := mW_to (F := F) (l1 := [(15, (nI fa28)), (16, pl29), (27, (nI nd30)), (31, (nI wr32)), (64, (nI at27)), (65, (nI (ne + 1))), (66, (nI lk31)), (66, (nI lk)), (65, (nI ((ne + 1) - 1)))]) (l2 := [(15, (nI fa28)), (16, pl29), (27, (nI nd30)), (31, (nI wr32)), (64, (nI at27)), (65, (nI ne)), (66, (nI lk))]) (V := [(nI fa28), pl29, (nI nd30), (nI wr32), (nI at27), (nI ne), (nI lk), (nI lk), (nI ne), (nI fa28), pl29, (nI nd30), (nI wr32), (nI at27), (nI ne), (nI lk)]) rfl rfl rfl hP
        have hD : va_D A (mW G h0 a (upd (upd (upd (upd (upd (upd (upd F 15 (nI fa28)) 16 pl29) 27 (nI nd30)) 31 (nI wr32)) 64 (nI at27)) 65 (nI ne)) 66 (nI lk)) (updA X34 2 K)) := mW_D hD
        exact W.iret (v := (nI r33)) hx hb hr (fun t9 ht9 hW9 => ⟨⟨_, (at27, fa28, pl29, nd30, lk, wr32, r33, X34), rfl, ⟨rfl, hz74, hz75, hz76, hz77, hz78, hz79, hz80, hz81, hz82, hz83, hz84, hz85, hz86, hz87⟩, by rw [ht9]; exact hP, hD⟩, hS.F ht9⟩) hS.2.2 dX12_statement_69
    · have e21 := e21
      refine lv_aload_n hx hb dX12_statement_27 rfl (lv_at hl 0 rfl) ?_
      refine r_get (v := .int (nI lk)) hx hb hown hq hE hP 66 363 tFX12_66 (by decide) pw_1610 rfl dX12_statement_28 ?_
      refine lv_istore_n (lv' := [(1, .int (nI lk)), (0, .ref h0)]) hx hb dX12_statement_31 rfl hl (by decide) rfl (fun ls hl => ?_)
      refine lv_aload_n hx hb dX12_statement_32 rfl (lv_at hl 1 rfl) ?_
      refine lv_iconst (v := 0) hx hb dX12_statement_33 (by decide) ?_
      refine r_put (v := 0) (ty := .int) hx hb hown hq hE hP hD hS 66 363 tFX12_66 (by decide) pw_1610 (by decide) rfl rfl (ms_66 a _ _) dX12_statement_34 (fun H locs hP hD hS => ?_)
      refine lv_aload_n hx hb dX12_statement_37 rfl (lv_at hl 1 rfl) ?_
      refine r_get (v := .int (nI fa15)) hx hb hown hq hE hP 15 350 tFX12_15 (by decide) pw_1594 rfl dX12_statement_38 ?_
      refine lv_if_le (tgt := 48) hx hb dX12_statement_41 (by decide) (fun c88 => (by have n89 : fa15 ≤ 0 := (nI_leI (a := fa15) (b := 0) (by omega) (by omega)).mp c88; omega)) (fun c88 => ?_)
      refine lv_iconst (v := 0) hx hb dX12_statement_44 (by decide) ?_
      refine lv_goto (tgt := 52) hx hb dX12_statement_45 (by decide) ?_
      refine lv_istore_n (lv' := [(2, .int 0), (1, .int (nI lk)), (0, .ref h0)]) hx hb dX12_statement_52 rfl hl (by decide) rfl (fun ls hl => ?_)
      refine lv_aload_n hx hb dX12_statement_53 rfl (lv_at hl 2 rfl) ?_
      refine lv_iload_n hx hb dX12_statement_54 rfl (lv_at hl 1 rfl) ?_
      refine r_put (v := (nI lk)) (ty := .int) hx hb hown hq hE hP hD hS 66 363 tFX12_66 (by decide) pw_1610 (by decide) rfl rfl (ms_66 a _ _) dX12_statement_55 (fun H locs hP hD hS => ?_)
      refine lv_aload_n hx hb dX12_statement_58 rfl (lv_at hl 2 rfl) ?_
      refine lv_dup hx hb dX12_statement_59 rfl ?_
      refine r_get (v := .int (nI (ne + 1))) hx hb hown hq hE hP 65 366 tFX12_65 (by decide) pw_1612 rfl dX12_statement_60 ?_
      refine lv_iconst (v := 1) hx hb dX12_statement_63 (by decide) ?_
      refine lv_isub hx hb dX12_statement_64 ?_
      refine lv_topi (fun x90 e91 => ?_)
      obtain rfl : x90 = nI ((ne + 1) - 1) := e91.trans (nI_subN (a := 1) (b := (ne + 1)) (by omega))
      refine r_put (v := (nI ((ne + 1) - 1))) (ty := .int) hx hb hown hq hE hP hD hS 65 366 tFX12_65 (by decide) pw_1612 (by decide) rfl rfl (ms_65 a _ _) dX12_statement_65 (fun H locs hP hD hS => ?_)
      refine lv_iload_n hx hb dX12_statement_68 rfl (lv_at hl 0 rfl) ?_
      have hz92 : at0 ≤ at0 := (by omega)
      have hz93 : at0 ≤ T := (by omega)
      have hz94 : fa15 ≤ 100 := (by omega)
      have hz95 : nd ≤ nd := (by omega)
      have hz96 : nd + 2 * at0 ≤ nd + 2 * at0 + 100000 * fa15 := (by omega)
      have hz97 : nd + 2 * at0 ≤ nd + 2 * at0 + (60 * (20 - ne) + 40) := (by omega)
      have hz98 : wr ≤ wr := (by omega)
      have hz99 : wr + at0 ≤ wr + at0 := (by omega)
      have hz100 : lk ≤ lk := (by omega)
      have hz101 : lk ≤ lk := (by omega)
      have hz102 : at0 + 1 ≤ at0 + fa15 := (by omega)
      have hz103 : 0 ≤ nd := (by omega)
      have hz104 : Kp B B wr T := hkp1
      have hz105 : If (fa15 = 0) (Low B B nd wr ∧ Frs K T wr B nd nd 20000 [(0, (280 + 4 * (20 - ne)))] ∧ kcl 3 (B 9 0) = true) := (fun e => absurd e (by omega))
      have hP : va_P G.1 pCl (mW G h0 a (upd (upd (upd (upd (upd (upd (upd F 15 (nI fa15)) 16 pl16) 27 (nI nd)) 31 (nI wr)) 64 (nI at0)) 65 (nI ne)) 66 (nI lk)) (updA B 2 K)) _ := mW_to (F := F) (l1 := [(15, (nI fa15)), (16, pl16), (27, (nI nd)), (31, (nI wr)), (64, (nI at0)), (65, (nI (ne + 1))), (66, (nI lk)), (66, 0), (66, (nI lk)), (65, (nI ((ne + 1) - 1)))]) (l2 := [(15, (nI fa15)), (16, pl16), (27, (nI nd)), (31, (nI wr)), (64, (nI at0)), (65, (nI ne)), (66, (nI lk))]) (V := [(nI fa15), pl16, (nI nd), (nI wr), (nI at0), (nI ne), (nI lk), (nI lk), (nI lk), (nI ne), (nI fa15), pl16, (nI nd), (nI wr), (nI at0), (nI ne), (nI lk)]) rfl rfl rfl hP
      have hD : va_D A (mW G h0 a (upd (upd (upd (upd (upd (upd (upd F 15 (nI fa15)) 16 pl16) 27 (nI nd)) 31 (nI wr)) 64 (nI at0)) 65 (nI ne)) 66 (nI lk)) (updA B 2 K)) := mW_D hD
      exact W.iret (v := 0) hx hb hr (fun t9 ht9 hW9 => ⟨⟨_, (at0, fa15, pl16, nd, lk, wr, 0, B), rfl, ⟨rfl, hz92, hz93, hz94, hz95, hz96, hz97, hz98, hz99, hz100, hz101, hz102, hz103, hz104, hz105⟩, by rw [ht9]; exact hP, hD⟩, hS.F ht9⟩) hS.2.2 dX12_statement_69
  · have n106 : r7 = 0 := (nI_eq (a := r7) (b := 0) (by omega) (by omega)).mp c10
    refine lv_aload_n hx hb dX12_statement_16 rfl (lv_at hl 0 rfl) ?_
    refine lv_iconst (v := 1) hx hb dX12_statement_17 (by decide) ?_
    have hP : va_P G.1 pCl (mW G h0 a (upd (upd (upd (upd (upd (upd (upd (upd F 15 0) 27 (nI nd)) 31 (nI wr)) 64 (nI at0)) 65 (nI ne)) 66 (nI lk)) 15 (nI 0)) 64 (nI at0)) (updA (updA B 2 K) 2 K)) _ := mW_to (F := F) (l1 := [(15, 0), (27, (nI nd)), (31, (nI wr)), (64, (nI at0)), (65, (nI ne)), (66, (nI lk))]) (l2 := [(15, 0), (27, (nI nd)), (31, (nI wr)), (64, (nI at0)), (65, (nI ne)), (66, (nI lk)), (15, (nI 0)), (64, (nI at0))]) (V := [(nI 0), (nI nd), (nI wr), (nI at0), (nI ne), (nI lk), (nI 0), (nI nd), (nI wr), (nI at0), (nI ne), (nI lk), (nI 0), (nI at0)]) rfl rfl (show (updA B 2 K) = (updA (updA B 2 K) 2 K) from updsA_eq2 (F := B) (l1 := [(2, K)]) (l2 := [(2, K), (2, K)]) (V := [K, K, K]) rfl rfl) hP
    have hD : va_D A (mW G h0 a (upd (upd (upd (upd (upd (upd (upd (upd F 15 0) 27 (nI nd)) 31 (nI wr)) 64 (nI at0)) 65 (nI ne)) 66 (nI lk)) 15 (nI 0)) 64 (nI at0)) (updA (updA B 2 K) 2 K)) := mW_D hD
    refine pc_V0 (G := G) (As := [.int (nI 1)]) (rest := []) hx hb hml hown hq hE hX pX0_al hP hD hS hA hl.1 (R_bad l G h0 a (upd (upd (upd (upd (upd (upd F 15 0) 27 (nI nd)) 31 (nI wr)) 64 (nI at0)) 65 (nI ne)) 66 (nI lk)) (updA B 2 K) at0 T 0 K 1 (by omega) (by omega) hK (by omega) (by omega) (by omega)) (gV pw_1602 pw_1603 pw_1604 pw_1523 pw_1596) hV_X12_bad 0 9 rfl rfl rfl rfl (Nat.le_of_ble_eq_true rfl) dX12_statement_18 ⟨Nat.le_of_ble_eq_true rfl, Nat.le_of_ble_eq_true rfl⟩ ⟨(by show 3 + 1 ≤ (26 * n + 40); omega), (by show 8 + (2 + 11) + 82 ≤ (2000 * n + 4000); omega)⟩ (fun v109 u107 H locs hw108 hP hD hS => ?_)
    obtain ⟨fa110, pl111⟩ := u107
    obtain ⟨hw108, h112, h113, h114, h115⟩ := hw108
    have h112 : 0 ≤ fa110 := h112
    have h113 : fa110 ≤ 0 + 1 := h113
    have h114 : 0 < fa110 := h114
    have h115 : If (0 < 0) (fa110 = 0) := h115
    obtain rfl : v109 = none := hw108
    have hP : va_P G.1 pCl (mW G h0 a (upd (upd (upd (upd (upd (upd (upd F 15 (nI fa110)) 16 pl111) 27 (nI nd)) 31 (nI wr)) 64 (nI at0)) 65 (nI ne)) 66 (nI lk)) (updA B 2 K)) _ := mW_to (F := F) (l1 := [(15, 0), (27, (nI nd)), (31, (nI wr)), (64, (nI at0)), (65, (nI ne)), (66, (nI lk)), (15, (nI fa110)), (16, pl111), (64, (nI at0))]) (l2 := [(15, (nI fa110)), (16, pl111), (27, (nI nd)), (31, (nI wr)), (64, (nI at0)), (65, (nI ne)), (66, (nI lk))]) (V := [(nI fa110), (nI nd), (nI wr), (nI at0), (nI ne), (nI lk), (nI fa110), pl111, (nI at0), (nI fa110), pl111, (nI nd), (nI wr), (nI at0), (nI ne), (nI lk)]) rfl rfl (show (updA (updA B 2 K) 2 K) = (updA B 2 K) from updsA_eq2 (F := B) (l1 := [(2, K), (2, K)]) (l2 := [(2, K)]) (V := [K, K, K]) rfl rfl) hP
    have hD : va_D A (mW G h0 a (upd (upd (upd (upd (upd (upd (upd F 15 (nI fa110)) 16 pl111) 27 (nI nd)) 31 (nI wr)) 64 (nI at0)) 65 (nI ne)) 66 (nI lk)) (updA B 2 K)) := mW_D hD
    refine W.widen (k := 0) (n := 0) (Nat.le_of_ble_eq_true rfl) (Nat.le_of_ble_eq_true rfl) ?_
    refine W.eq (g2 := F0 m 21 ls []) rfl ?_
    refine lv_iconst (v := 0) hx hb dX12_statement_21 (by decide) ?_
    have hz116 : at0 ≤ at0 := (by omega)
    have hz117 : at0 ≤ T := (by omega)
    have hz118 : fa110 ≤ 100 := (by omega)
    have hz119 : nd ≤ nd := (by omega)
    have hz120 : nd + 2 * at0 ≤ nd + 2 * at0 + 100000 * fa110 := (by omega)
    have hz121 : nd + 2 * at0 ≤ nd + 2 * at0 + (60 * (20 - ne) + 40) := (by omega)
    have hz122 : wr ≤ wr := (by omega)
    have hz123 : wr + at0 ≤ wr + at0 := (by omega)
    have hz124 : lk ≤ lk := (by omega)
    have hz125 : lk ≤ lk := (by omega)
    have hz126 : at0 + 1 ≤ at0 + fa110 := (by omega)
    have hz127 : 0 ≤ nd := (by omega)
    have hz128 : Kp B B wr T := hkp1
    have hz129 : If (fa110 = 0) (Low B B nd wr ∧ Frs K T wr B nd nd 20000 [(0, (280 + 4 * (20 - ne)))] ∧ kcl 3 (B 9 0) = true) := (fun e => absurd e (by omega))
    have hP : va_P G.1 pCl (mW G h0 a (upd (upd (upd (upd (upd (upd (upd F 15 (nI fa110)) 16 pl111) 27 (nI nd)) 31 (nI wr)) 64 (nI at0)) 65 (nI ne)) 66 (nI lk)) (updA B 2 K)) _ := hP
    have hD : va_D A (mW G h0 a (upd (upd (upd (upd (upd (upd (upd F 15 (nI fa110)) 16 pl111) 27 (nI nd)) 31 (nI wr)) 64 (nI at0)) 65 (nI ne)) 66 (nI lk)) (updA B 2 K)) := mW_D hD
    exact W.iret (v := 0) hx hb hr (fun t9 ht9 hW9 => ⟨⟨_, (at0, fa110, pl111, nd, lk, wr, 0, B), rfl, ⟨rfl, hz116, hz117, hz118, hz119, hz120, hz121, hz122, hz123, hz124, hz125, hz126, hz127, hz128, hz129⟩, by rw [ht9]; exact hP, hD⟩, hS.F ht9⟩) hS.2.2 dX12_statement_22

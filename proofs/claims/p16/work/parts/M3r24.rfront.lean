theorem dX12_front_11 : decode cX12_front 11 = .ok (.aload_n 0, 1) := by decide +kernel
theorem dX12_front_12 : decode cX12_front 12 = .ok (.invokevirtual 381, 3) := by decide +kernel
theorem dX12_front_39 : decode cX12_front 39 = .ok (.aload_n 0, 1) := by decide +kernel
theorem dX12_front_40 : decode cX12_front 40 = .ok (.getfield 343, 3) := by decide +kernel
theorem dX12_front_43 : decode cX12_front 43 = .ok (.istore_n 2, 1) := by decide +kernel
theorem dX12_front_44 : decode cX12_front 44 = .ok (.aload_n 0, 1) := by decide +kernel
theorem dX12_front_45 : decode cX12_front 45 = .ok (.invokevirtual 441, 3) := by decide +kernel
theorem dX12_front_48 : decode cX12_front 48 = .ok (.aload_n 0, 1) := by decide +kernel
theorem dX12_front_49 : decode cX12_front 49 = .ok (.dup, 1) := by decide +kernel
theorem dX12_front_50 : decode cX12_front 50 = .ok (.getfield 343, 3) := by decide +kernel
theorem dX12_front_53 : decode cX12_front 53 = .ok (.iconst 1, 1) := by decide +kernel
theorem dX12_front_54 : decode cX12_front 54 = .ok (.iadd, 1) := by decide +kernel
theorem dX12_front_55 : decode cX12_front 55 = .ok (.putfield 343, 3) := by decide +kernel
theorem dX12_front_58 : decode cX12_front 58 = .ok (.aload_n 0, 1) := by decide +kernel
theorem dX12_front_59 : decode cX12_front 59 = .ok (.bipush 17, 2) := by decide +kernel
theorem dX12_front_61 : decode cX12_front 61 = .ok (.iload_n 2, 1) := by decide +kernel
theorem dX12_front_62 : decode cX12_front 62 = .ok (.iload_n 2, 1) := by decide +kernel
theorem dX12_front_63 : decode cX12_front 63 = .ok (.aload_n 0, 1) := by decide +kernel
theorem dX12_front_64 : decode cX12_front 64 = .ok (.invokevirtual 475, 3) := by decide +kernel
theorem dX12_front_67 : decode cX12_front 67 = .ok (.iconst (-1), 1) := by decide +kernel
theorem dX12_front_68 : decode cX12_front 68 = .ok (.invokevirtual 428, 3) := by decide +kernel
theorem dX12_front_71 : decode cX12_front 71 = .ok (.istore_n 3, 1) := by decide +kernel
theorem dX12_front_72 : decode cX12_front 72 = .ok (.aload_n 0, 1) := by decide +kernel
theorem dX12_front_73 : decode cX12_front 73 = .ok (.dup, 1) := by decide +kernel
theorem dX12_front_74 : decode cX12_front 74 = .ok (.getfield 366, 3) := by decide +kernel
theorem dX12_front_77 : decode cX12_front 77 = .ok (.iconst 1, 1) := by decide +kernel
theorem dX12_front_78 : decode cX12_front 78 = .ok (.isub, 1) := by decide +kernel
theorem dX12_front_79 : decode cX12_front 79 = .ok (.putfield 366, 3) := by decide +kernel
theorem dX12_front_82 : decode cX12_front 82 = .ok (.iload_n 3, 1) := by decide +kernel
theorem dX12_front_83 : decode cX12_front 83 = .ok (.ireturn, 1) := by decide +kernel
set_option maxHeartbeats 2000000 in
set_option maxRecDepth 100000 in
/-- front(), no fault ahead -/
theorem RT_front (l : Launch) (G : pT) (h0 : Nat) (a : Nat → Nat) (F : Nat → Int32) (B : Nat → Nat → Int32) (at0 : Nat) (T : Nat) (n : Nat) (ne : Nat) (nd : Nat) (wr : Nat) (lk : Nat) (K : Nat → Int32) (hat : at0 ≤ T) (hT : T ≤ 5000) (hK : K T = 0 ∨ K T = 3) (hne : ne ≤ 20) (hnd : nd ≤ 2 * at0) (hwr : wr ≤ at0) (hlk : lk ≤ 60) (hy : tkRow (B 19) wr T) (hn : 21 ≤ n + ne) (ihf : Pfront l G (n - 1)) (hc : Pchain l G n) : PM l G pX0 yX12_front cX12_front 4 (some .int) ({ frames := (20 * n + 14), cells := 0, slots := 0, locals := (1000 * n + 40 * 14) }) [.ref h0] (mW G h0 a (upd (upd (upd (upd (upd (upd F 15 0) 27 (nI nd)) 31 (nI wr)) 64 (nI at0)) 65 (nI ne)) 66 (nI lk)) (updA B 2 K)) (fun (v : Option Value) (u : Nat × Nat × Int32 × Nat × Nat × Nat × Nat × (Nat → Nat → Int32)) => v = some (.int (nI u.2.2.2.2.2.2.1)) ∧ (at0 ≤ u.1) ∧ (u.1 ≤ T) ∧ (u.2.1 ≤ 100) ∧ (nd ≤ u.2.2.2.1) ∧ (u.2.2.2.1 + 2 * at0 ≤ nd + 2 * u.1 + 100000 * u.2.1) ∧ (u.2.2.2.1 + 2 * at0 ≤ nd + 2 * u.1 + 40 * (21 - ne)) ∧ (wr ≤ u.2.2.2.2.2.1) ∧ (u.2.2.2.2.2.1 + at0 ≤ wr + u.1) ∧ (lk ≤ u.2.2.2.2.1) ∧ (u.2.2.2.2.1 ≤ 60 + 100 * u.2.1) ∧ (at0 + 1 ≤ u.1 + u.2.1) ∧ (u.2.2.2.2.2.2.1 ≤ u.2.2.2.1) ∧ (Kp B u.2.2.2.2.2.2.2 u.2.2.2.2.2.1 T) ∧ (If (u.2.1 = 0) (Low B u.2.2.2.2.2.2.2 nd wr ∧ Frs K T u.2.2.2.2.2.1 u.2.2.2.2.2.2.2 nd u.2.2.2.1 20000 [(u.2.2.2.2.2.2.1, (210 + u.2.2.2.2.1 - (10 * ne + lk)))] ∧ kcl 1 (u.2.2.2.2.2.2.2 9 u.2.2.2.2.2.2.1) = true))) (fun u => (mW G h0 a (upd (upd (upd (upd (upd (upd (upd F 15 (nI u.2.1)) 16 u.2.2.1) 27 (nI u.2.2.2.1)) 31 (nI u.2.2.2.2.2.1)) 64 (nI u.1)) 65 (nI ne)) 66 (nI u.2.2.2.2.1)) (updA u.2.2.2.2.2.2.2 2 K))) := by
  intro sz
  refine Met.ofW (cc := cX12_front) (maxL := 4) (ret := (some .int)) (by decide) rfl ?_
  intro p e s m args below meth c s₁ B9 hml hv
  obtain ⟨rfl, hsz, hP, hD0, hE, hX⟩ := hv
  have hx := B9.exec
  have hb := B9.bytes
  have hr := B9.returns
  have hts := atoms_spec (ws := Cond.code yX12_front cX12_front 4 (some .int) :: pw) B9.pre
  have hq : ∀ w ∈ pw, w.before _ s = true := fun w h => hts w (List.mem_cons_of_mem _ h)
  have hown : s.vm.findClass RX12 = some m.cls := findClass_of_methodNamed B9.named
  have hlocks := B9.notSynchronized
  subst hsz
  have hD := hD0.self (sz := s.heap.size)
  have hA : ∀ q : Nat, s.heap.size ≤ q → va_A (mW G h0 a (upd (upd (upd (upd (upd (upd F 15 0) 27 (nI nd)) 31 (nI wr)) 64 (nI at0)) 65 (nI ne)) 66 (nI lk)) (updA B 2 K)) s.heap.size q := fun q h => Or.inr h
  have hP : va_P G.1 pCl (mW G h0 a (upd (upd (upd (upd (upd (upd F 15 0) 27 (nI nd)) 31 (nI wr)) 64 (nI at0)) 65 (nI ne)) 66 (nI lk)) (updA B 2 K)) s.heap := hP
  generalize va_A (mW G h0 a (upd (upd (upd (upd (upd (upd F 15 0) 27 (nI nd)) 31 (nI wr)) 64 (nI at0)) 65 (nI ne)) 66 (nI lk)) (updA B 2 K)) s.heap.size = A at hD hE hA ⊢
  have hS : va_S A s.heap s.heap [] := va_S.rf
  have hl := lv_entry ([.ref h0]) (n := 4) (Nat.le_of_ble_eq_true rfl)
  rw [lg_entry_eq]
  generalize (lg_sl ([.ref h0]) ++ List.replicate (4 - (lg_sl ([.ref h0])).length) Slot.unset).toArray = ls at hl ⊢
  have hl : lv_has ls 4 [(0, .ref h0)] := hl
  have hkp1 : Kp B B wr T := Kp.rfl hy
  have hlo2 : Low B B nd wr := Low.rfl
  refine lv_aload_n hx hb dX12_front_0 rfl (lv_at hl 0 rfl) ?_
  refine r_get (v := .int 0) hx hb hown hq hE hP 15 350 tFX12_15 (by decide) pw_1594 rfl dX12_front_1 ?_
  refine lv_if_le (tgt := 11) hx hb dX12_front_4 (by decide) (fun c3 => ?_) (fun c3 => absurd c3 (by decide))
  refine lv_aload_n hx hb dX12_front_11 rfl (lv_at hl 0 rfl) ?_
  have hP : va_P G.1 pCl (mW G h0 a (upd (upd (upd (upd (upd (upd (upd (upd F 15 0) 27 (nI nd)) 31 (nI wr)) 64 (nI at0)) 65 (nI ne)) 66 (nI lk)) 15 (nI 0)) 64 (nI at0)) (updA (updA B 2 K) 2 K)) _ := mW_to (F := F) (l1 := [(15, 0), (27, (nI nd)), (31, (nI wr)), (64, (nI at0)), (65, (nI ne)), (66, (nI lk))]) (l2 := [(15, 0), (27, (nI nd)), (31, (nI wr)), (64, (nI at0)), (65, (nI ne)), (66, (nI lk)), (15, (nI 0)), (64, (nI at0))]) (V := [(nI 0), (nI nd), (nI wr), (nI at0), (nI ne), (nI lk), (nI 0), (nI nd), (nI wr), (nI at0), (nI ne), (nI lk), (nI 0), (nI at0)]) rfl rfl (show (updA B 2 K) = (updA (updA B 2 K) 2 K) from updsA_eq2 (F := B) (l1 := [(2, K)]) (l2 := [(2, K), (2, K)]) (V := [K, K, K]) rfl rfl) hP
  have hD : va_D A (mW G h0 a (upd (upd (upd (upd (upd (upd (upd (upd F 15 0) 27 (nI nd)) 31 (nI wr)) 64 (nI at0)) 65 (nI ne)) 66 (nI lk)) 15 (nI 0)) 64 (nI at0)) (updA (updA B 2 K) 2 K)) := mW_D hD
  refine pc_V0 (G := G) (As := []) (rest := []) hx hb hml hown hq hE hX pX0_al hP hD hS hA hl.1 (R_kind l G h0 a (upd (upd (upd (upd (upd (upd F 15 0) 27 (nI nd)) 31 (nI wr)) 64 (nI at0)) 65 (nI ne)) 66 (nI lk)) (updA B 2 K) at0 T 0 K (by omega) (by omega) hK (by omega)) (gV pw_1626 pw_1627 pw_1628 pw_1523 pw_1591) hV_X12_kind 0 9 rfl rfl rfl rfl (Nat.le_of_ble_eq_true rfl) dX12_front_12 ⟨Nat.le_of_ble_eq_true rfl, Nat.le_of_ble_eq_true rfl⟩ ⟨(by show 2 + 1 ≤ (20 * n + 14); omega), (by show 8 + (1 + 11) + 60 ≤ (1000 * n + 40 * 14); omega)⟩ (fun v6 u4 H locs hw5 hP hD hS => ?_)
  obtain rfl : v6 = some (.int (K at0)) := hw5
  have hP : va_P G.1 pCl (mW G h0 a (upd (upd (upd (upd (upd (upd F 15 0) 27 (nI nd)) 31 (nI wr)) 64 (nI at0)) 65 (nI ne)) 66 (nI lk)) (updA B 2 K)) _ := mW_to (F := F) (l1 := [(15, 0), (27, (nI nd)), (31, (nI wr)), (64, (nI at0)), (65, (nI ne)), (66, (nI lk)), (15, (nI 0)), (64, (nI at0))]) (l2 := [(15, 0), (27, (nI nd)), (31, (nI wr)), (64, (nI at0)), (65, (nI ne)), (66, (nI lk))]) (V := [0, (nI nd), (nI wr), (nI at0), (nI ne), (nI lk), 0, (nI at0), 0, (nI nd), (nI wr), (nI at0), (nI ne), (nI lk)]) rfl rfl (show (updA (updA B 2 K) 2 K) = (updA B 2 K) from updsA_eq2 (F := B) (l1 := [(2, K), (2, K)]) (l2 := [(2, K)]) (V := [K, K, K]) rfl rfl) hP
  have hD : va_D A (mW G h0 a (upd (upd (upd (upd (upd (upd F 15 0) 27 (nI nd)) 31 (nI wr)) 64 (nI at0)) 65 (nI ne)) 66 (nI lk)) (updA B 2 K)) := mW_D hD
  refine W.widen (k := 0) (n := 0) (Nat.le_of_ble_eq_true rfl) (Nat.le_of_ble_eq_true rfl) ?_
  refine W.eq (g2 := F0 m 15 ls [.int (K at0)]) rfl ?_
  refine lv_istore_n (lv' := [(1, .int (K at0)), (0, .ref h0)]) hx hb dX12_front_15 rfl hl (by decide) rfl (fun ls hl => ?_)
  refine lv_iload_n hx hb dX12_front_16 rfl (lv_at hl 0 rfl) ?_
  refine lv_bipush (v := 45) hx hb dX12_front_17 (by decide) ?_
  refine lv_icmp_eq (tgt := 39) hx hb dX12_front_19 (by decide) (fun c7 => ?_) (fun c7 => ?_)
  · have n8 : at0 < T := tk_lt hat hK c7 (by decide) (by decide)
    refine lv_aload_n hx hb dX12_front_39 rfl (lv_at hl 1 rfl) ?_
    refine r_get (v := .int (nI at0)) hx hb hown hq hE hP 64 343 tFX12_64 (by decide) pw_1592 rfl dX12_front_40 ?_
    refine lv_istore_n (lv' := [(2, .int (nI at0)), (1, .int (K at0)), (0, .ref h0)]) hx hb dX12_front_43 rfl hl (by decide) rfl (fun ls hl => ?_)
    refine lv_aload_n hx hb dX12_front_44 rfl (lv_at hl 2 rfl) ?_
    have hP : va_P G.1 pCl (mW G h0 a (upd (upd (upd (upd (upd (upd (upd (upd (upd F 15 0) 27 (nI nd)) 31 (nI wr)) 64 (nI at0)) 65 (nI ne)) 66 (nI lk)) 15 (nI 0)) 64 (nI at0)) 65 (nI ne)) (updA (updA B 2 K) 2 K)) _ := mW_to (F := F) (l1 := [(15, 0), (27, (nI nd)), (31, (nI wr)), (64, (nI at0)), (65, (nI ne)), (66, (nI lk))]) (l2 := [(15, 0), (27, (nI nd)), (31, (nI wr)), (64, (nI at0)), (65, (nI ne)), (66, (nI lk)), (15, (nI 0)), (64, (nI at0)), (65, (nI ne))]) (V := [(nI 0), (nI nd), (nI wr), (nI at0), (nI ne), (nI lk), (nI 0), (nI nd), (nI wr), (nI at0), (nI ne), (nI lk), (nI 0), (nI at0), (nI ne)]) rfl rfl (show (updA B 2 K) = (updA (updA B 2 K) 2 K) from updsA_eq2 (F := B) (l1 := [(2, K)]) (l2 := [(2, K), (2, K)]) (V := [K, K, K]) rfl rfl) hP
    have hD : va_D A (mW G h0 a (upd (upd (upd (upd (upd (upd (upd (upd (upd F 15 0) 27 (nI nd)) 31 (nI wr)) 64 (nI at0)) 65 (nI ne)) 66 (nI lk)) 15 (nI 0)) 64 (nI at0)) 65 (nI ne)) (updA (updA B 2 K) 2 K)) := mW_D hD
    refine pc_V0 (G := G) (As := []) (rest := []) hx hb hml hown hq hE hX pX0_al hP hD hS hA hl.1 (R_deeper l G h0 a (upd (upd (upd (upd (upd (upd F 15 0) 27 (nI nd)) 31 (nI wr)) 64 (nI at0)) 65 (nI ne)) 66 (nI lk)) (updA B 2 K) at0 T 0 K ne (by omega) (by omega) hK (by omega) (by omega)) (gV pw_1637 pw_1638 pw_1639 pw_1523 pw_1611) hV_X12_deeper 0 9 rfl rfl rfl rfl (Nat.le_of_ble_eq_true rfl) dX12_front_45 ⟨Nat.le_of_ble_eq_true rfl, Nat.le_of_ble_eq_true rfl⟩ ⟨(by show 4 + 1 ≤ (20 * n + 14); omega), (by show 8 + (1 + 11) + 103 ≤ (1000 * n + 40 * 14); omega)⟩ (fun v11 u9 H locs hw10 hP hD hS => ?_)
    obtain ⟨fa12, pl13⟩ := u9
    obtain ⟨hw10, h14, h15, h16, h17⟩ := hw10
    have h14 : 0 ≤ fa12 := h14
    have h15 : fa12 ≤ 100 := h15
    have h16 : If (0 < 0) (fa12 = 0) := h16
    have h17 : If (ne ≤ 20) (ne + 1 ≤ 20 + fa12) := h17
    obtain rfl : v11 = none := hw10
    have hP : va_P G.1 pCl (mW G h0 a (upd (upd (upd (upd (upd (upd (upd F 15 (nI fa12)) 16 pl13) 27 (nI nd)) 31 (nI wr)) 64 (nI at0)) 65 (nI (ne + 1))) 66 (nI lk)) (updA B 2 K)) _ := mW_to (F := F) (l1 := [(15, 0), (27, (nI nd)), (31, (nI wr)), (64, (nI at0)), (65, (nI ne)), (66, (nI lk)), (15, (nI fa12)), (16, pl13), (64, (nI at0)), (65, (nI (ne + 1)))]) (l2 := [(15, (nI fa12)), (16, pl13), (27, (nI nd)), (31, (nI wr)), (64, (nI at0)), (65, (nI (ne + 1))), (66, (nI lk))]) (V := [(nI fa12), (nI nd), (nI wr), (nI at0), (nI (ne + 1)), (nI lk), (nI fa12), pl13, (nI at0), (nI (ne + 1)), (nI fa12), pl13, (nI nd), (nI wr), (nI at0), (nI (ne + 1)), (nI lk)]) rfl rfl (show (updA (updA B 2 K) 2 K) = (updA B 2 K) from updsA_eq2 (F := B) (l1 := [(2, K), (2, K)]) (l2 := [(2, K)]) (V := [K, K, K]) rfl rfl) hP
    have hD : va_D A (mW G h0 a (upd (upd (upd (upd (upd (upd (upd F 15 (nI fa12)) 16 pl13) 27 (nI nd)) 31 (nI wr)) 64 (nI at0)) 65 (nI (ne + 1))) 66 (nI lk)) (updA B 2 K)) := mW_D hD
    refine W.widen (k := 0) (n := 0) (Nat.le_of_ble_eq_true rfl) (Nat.le_of_ble_eq_true rfl) ?_
    refine W.eq (g2 := F0 m 48 ls []) rfl ?_
    rcases Nat.eq_zero_or_pos fa12 with e18 | e18
    · subst e18
      have hP : va_P G.1 pCl (mW G h0 a (upd (upd (upd (upd (upd (upd (upd F 15 0) 16 pl13) 27 (nI nd)) 31 (nI wr)) 64 (nI at0)) 65 (nI (ne + 1))) 66 (nI lk)) (updA B 2 K)) _ := hP
      have hD : va_D A (mW G h0 a (upd (upd (upd (upd (upd (upd (upd F 15 0) 16 pl13) 27 (nI nd)) 31 (nI wr)) 64 (nI at0)) 65 (nI (ne + 1))) 66 (nI lk)) (updA B 2 K)) := mW_D hD
      have n19 : ne + 1 ≤ 20 := (h17 (by omega))
      refine lv_aload_n hx hb dX12_front_48 rfl (lv_at hl 2 rfl) ?_
      refine lv_dup hx hb dX12_front_49 rfl ?_
      refine r_get (v := .int (nI at0)) hx hb hown hq hE hP 64 343 tFX12_64 (by decide) pw_1592 rfl dX12_front_50 ?_
      refine lv_iconst (v := 1) hx hb dX12_front_53 (by decide) ?_
      refine lv_iadd hx hb dX12_front_54 ?_
      refine lv_topi (fun x20 e21 => ?_)
      obtain rfl : x20 = nI (at0 + 1) := e21.trans (nI_add (at0) (1))
      refine r_put (v := (nI (at0 + 1))) (ty := .int) hx hb hown hq hE hP hD hS 64 343 tFX12_64 (by decide) pw_1592 (by decide) rfl rfl (ms_64 a _ _) dX12_front_55 (fun H locs hP hD hS => ?_)
      refine lv_aload_n hx hb dX12_front_58 rfl (lv_at hl 2 rfl) ?_
      refine lv_bipush (v := 17) hx hb dX12_front_59 (by decide) ?_
      refine lv_iload_n hx hb dX12_front_61 rfl (lv_at hl 0 rfl) ?_
      refine lv_iload_n hx hb dX12_front_62 rfl (lv_at hl 0 rfl) ?_
      refine lv_aload_n hx hb dX12_front_63 rfl (lv_at hl 2 rfl) ?_
      have hP : va_P G.1 pCl (mW G h0 a (upd (upd (upd (upd (upd (upd (upd (upd (upd (upd (upd (upd (upd F 15 0) 16 pl13) 27 (nI nd)) 31 (nI wr)) 64 (nI (at0 + 1))) 65 (nI (ne + 1))) 66 (nI lk)) 15 0) 27 (nI nd)) 31 (nI wr)) 64 (nI (at0 + 1))) 65 (nI (ne + 1))) 66 (nI lk)) (updA B 2 K)) _ := mW_to (F := F) (l1 := [(15, 0), (16, pl13), (27, (nI nd)), (31, (nI wr)), (64, (nI at0)), (65, (nI (ne + 1))), (66, (nI lk)), (64, (nI (at0 + 1)))]) (l2 := [(15, 0), (16, pl13), (27, (nI nd)), (31, (nI wr)), (64, (nI (at0 + 1))), (65, (nI (ne + 1))), (66, (nI lk)), (15, 0), (27, (nI nd)), (31, (nI wr)), (64, (nI (at0 + 1))), (65, (nI (ne + 1))), (66, (nI lk))]) (V := [0, pl13, (nI nd), (nI wr), (nI (at0 + 1)), (nI (ne + 1)), (nI lk), (nI (at0 + 1)), 0, pl13, (nI nd), (nI wr), (nI (at0 + 1)), (nI (ne + 1)), (nI lk), 0, (nI nd), (nI wr), (nI (at0 + 1)), (nI (ne + 1)), (nI lk)]) rfl rfl rfl hP
      have hD : va_D A (mW G h0 a (upd (upd (upd (upd (upd (upd (upd (upd (upd (upd (upd (upd (upd F 15 0) 16 pl13) 27 (nI nd)) 31 (nI wr)) 64 (nI (at0 + 1))) 65 (nI (ne + 1))) 66 (nI lk)) 15 0) 27 (nI nd)) 31 (nI wr)) 64 (nI (at0 + 1))) 65 (nI (ne + 1))) 66 (nI lk)) (updA B 2 K)) := mW_D hD
      refine pc_V0 (G := G) (As := []) (rest := [.int (nI at0), .int (nI at0), .int 17, .ref h0]) hx hb hml hown hq hE hX pX0_al hP hD hS hA hl.1 (ihf h0 a (upd (upd (upd (upd (upd (upd (upd F 15 0) 16 pl13) 27 (nI nd)) 31 (nI wr)) 64 (nI (at0 + 1))) 65 (nI (ne + 1))) 66 (nI lk)) B (at0 + 1) T (ne + 1) nd wr lk K (by omega) (by omega) hK (by omega) (by omega) (by omega) (by omega) (hkp1).2 (by omega)) (gV pw_1664 pw_1665 pw_1666 pw_1523 pw_1660) hV_X12_front 0 9 rfl rfl rfl rfl (Nat.le_of_ble_eq_true rfl) dX12_front_64 ⟨Nat.le_of_ble_eq_true rfl, Nat.le_of_ble_eq_true rfl⟩ ⟨(by show (20 * (n - 1) + 14) + 1 ≤ (20 * n + 14); omega), (by show 8 + (4 + 11) + (1000 * (n - 1) + 40 * 14) ≤ (1000 * n + 40 * 14); omega)⟩ (fun v24 u22 H locs hw23 hP hD hS => ?_)
      obtain ⟨at25, fa26, pl27, nd28, lk29, wr30, r31, X32⟩ := u22
      obtain ⟨hw23, h33, h34, h35, h36, h37, h38, h39, h40, h41, h42, h43, h44, h45, h46⟩ := hw23
      have h33 : (at0 + 1) ≤ at25 := h33
      have h34 : at25 ≤ T := h34
      have h35 : fa26 ≤ 100 := h35
      have h36 : nd ≤ nd28 := h36
      have h37 : nd28 + 2 * (at0 + 1) ≤ nd + 2 * at25 + 100000 * fa26 := h37
      have h38 : nd28 + 2 * (at0 + 1) ≤ nd + 2 * at25 + 40 * (21 - (ne + 1)) := h38
      have h39 : wr ≤ wr30 := h39
      have h40 : wr30 + (at0 + 1) ≤ wr + at25 := h40
      have h41 : lk ≤ lk29 := h41
      have h42 : lk29 ≤ 60 + 100 * fa26 := h42
      have h43 : (at0 + 1) + 1 ≤ at25 + fa26 := h43
      have h44 : r31 ≤ nd28 := h44
      have h45 : Kp B X32 wr30 T := h45
      have h46 : If (fa26 = 0) (Low B X32 nd wr ∧ Frs K T wr30 X32 nd nd28 20000 [(r31, (210 + lk29 - (10 * (ne + 1) + lk)))] ∧ kcl 1 (X32 9 r31) = true) := h46
      obtain rfl : v24 = some (.int (nI r31)) := hw23
      have hP : va_P G.1 pCl (mW G h0 a (upd (upd (upd (upd (upd (upd (upd F 15 (nI fa26)) 16 pl27) 27 (nI nd28)) 31 (nI wr30)) 64 (nI at25)) 65 (nI (ne + 1))) 66 (nI lk29)) (updA X32 2 K)) _ := mW_to (F := F) (l1 := [(15, 0), (16, pl13), (27, (nI nd)), (31, (nI wr)), (64, (nI (at0 + 1))), (65, (nI (ne + 1))), (66, (nI lk)), (15, (nI fa26)), (16, pl27), (27, (nI nd28)), (31, (nI wr30)), (64, (nI at25)), (65, (nI (ne + 1))), (66, (nI lk29))]) (l2 := [(15, (nI fa26)), (16, pl27), (27, (nI nd28)), (31, (nI wr30)), (64, (nI at25)), (65, (nI (ne + 1))), (66, (nI lk29))]) (V := [(nI fa26), pl27, (nI nd28), (nI wr30), (nI at25), (nI (ne + 1)), (nI lk29), (nI fa26), pl27, (nI nd28), (nI wr30), (nI at25), (nI (ne + 1)), (nI lk29), (nI fa26), pl27, (nI nd28), (nI wr30), (nI at25), (nI (ne + 1)), (nI lk29)]) rfl rfl rfl hP
      have hD : va_D A (mW G h0 a (upd (upd (upd (upd (upd (upd (upd F 15 (nI fa26)) 16 pl27) 27 (nI nd28)) 31 (nI wr30)) 64 (nI at25)) 65 (nI (ne + 1))) 66 (nI lk29)) (updA X32 2 K)) := mW_D hD
      refine W.widen (k := 0) (n := 0) (Nat.le_of_ble_eq_true rfl) (Nat.le_of_ble_eq_true rfl) ?_
      refine W.eq (g2 := F0 m 67 ls [.int (nI r31), .int (nI at0), .int (nI at0), .int 17, .ref h0]) rfl ?_
      have hkp47 : Kp B X32 wr30 T := (Kp.trans hkp1 h45)
      rcases Nat.eq_zero_or_pos fa26 with e48 | e48
      · subst e48
        have hP : va_P G.1 pCl (mW G h0 a (upd (upd (upd (upd (upd (upd (upd F 15 0) 16 pl27) 27 (nI nd28)) 31 (nI wr30)) 64 (nI at25)) 65 (nI (ne + 1))) 66 (nI lk29)) (updA X32 2 K)) _ := hP
        have hD : va_D A (mW G h0 a (upd (upd (upd (upd (upd (upd (upd F 15 0) 16 pl27) 27 (nI nd28)) 31 (nI wr30)) 64 (nI at25)) 65 (nI (ne + 1))) 66 (nI lk29)) (updA X32 2 K)) := mW_D hD
        obtain ⟨hlw49, hf50, hc51⟩ := h46 rfl
        have hlo52 : Low B X32 nd wr := (Low.trans hlo2 hlw49 (by omega) (by omega))
        have hm53 := Frs.mem hf50
        refine lv_iconst (v := (-1)) hx hb dX12_front_67 (by decide) ?_
        have hP : va_P G.1 pCl (mW G h0 a (upd (upd (upd (upd (upd (upd (upd (upd F 15 0) 16 pl27) 27 (nI nd28)) 31 (nI wr30)) 64 (nI at25)) 65 (nI (ne + 1))) 66 (nI lk29)) 27 (nI nd28)) (updA X32 2 K)) _ := mW_to (F := F) (l1 := [(15, 0), (16, pl27), (27, (nI nd28)), (31, (nI wr30)), (64, (nI at25)), (65, (nI (ne + 1))), (66, (nI lk29))]) (l2 := [(15, 0), (16, pl27), (27, (nI nd28)), (31, (nI wr30)), (64, (nI at25)), (65, (nI (ne + 1))), (66, (nI lk29)), (27, (nI nd28))]) (V := [0, pl27, (nI nd28), (nI wr30), (nI at25), (nI (ne + 1)), (nI lk29), 0, pl27, (nI nd28), (nI wr30), (nI at25), (nI (ne + 1)), (nI lk29), (nI nd28)]) rfl rfl rfl hP
        have hD : va_D A (mW G h0 a (upd (upd (upd (upd (upd (upd (upd (upd F 15 0) 16 pl27) 27 (nI nd28)) 31 (nI wr30)) 64 (nI at25)) 65 (nI (ne + 1))) 66 (nI lk29)) 27 (nI nd28)) (updA X32 2 K)) := mW_D hD
        refine pc_V0 (G := G) (As := [.int 17, .int (nI at0), .int (nI at0), .int (nI r31), .int (-1)]) (rest := []) hx hb hml hown hq hE hX pX0_al hP hD hS hA hl.1 (R_nodeB l G h0 a (upd (upd (upd (upd (upd (upd (upd F 15 0) 16 pl27) 27 (nI nd28)) 31 (nI wr30)) 64 (nI at25)) 65 (nI (ne + 1))) 66 (nI lk29)) X32 17 (nI at0) (nI at0) (nI r31) (-1) nd28 K (by omega)) (gV pw_1650 pw_1651 pw_1652 pw_1523 pw_1589) hV_X12_node 0 9 rfl rfl rfl rfl (Nat.le_of_ble_eq_true rfl) dX12_front_68 ⟨Nat.le_of_ble_eq_true rfl, Nat.le_of_ble_eq_true rfl⟩ ⟨(by show 2 + 1 ≤ (20 * n + 14); omega), (by show 8 + (7 + 11) + 60 ≤ (1000 * n + 40 * 14); omega)⟩ (fun v56 u54 H locs hw55 hP hD hS => ?_)
        obtain ⟨X57, rfl⟩ : ∃ z, z = u54 := ⟨_, rfl⟩
        obtain ⟨hw55, h58⟩ := hw55
        have h58 : NewN X32 X57 nd28 17 (nI at0) (nI at0) (nI r31) (-1) := h58
        obtain rfl : v56 = some (.int (nI nd28)) := hw55
        have hP : va_P G.1 pCl (mW G h0 a (upd (upd (upd (upd (upd (upd (upd F 15 0) 16 pl27) 27 (nI (nd28 + 1))) 31 (nI wr30)) 64 (nI at25)) 65 (nI (ne + 1))) 66 (nI lk29)) (updA X57 2 K)) _ := mW_to (F := F) (l1 := [(15, 0), (16, pl27), (27, (nI nd28)), (31, (nI wr30)), (64, (nI at25)), (65, (nI (ne + 1))), (66, (nI lk29)), (27, (nI (nd28 + 1)))]) (l2 := [(15, 0), (16, pl27), (27, (nI (nd28 + 1))), (31, (nI wr30)), (64, (nI at25)), (65, (nI (ne + 1))), (66, (nI lk29))]) (V := [0, pl27, (nI (nd28 + 1)), (nI wr30), (nI at25), (nI (ne + 1)), (nI lk29), (nI (nd28 + 1)), 0, pl27, (nI (nd28 + 1)), (nI wr30), (nI at25), (nI (ne + 1)), (nI lk29)]) rfl rfl rfl hP
        have hD : va_D A (mW G h0 a (upd (upd (upd (upd (upd (upd (upd F 15 0) 16 pl27) 27 (nI (nd28 + 1))) 31 (nI wr30)) 64 (nI at25)) 65 (nI (ne + 1))) 66 (nI lk29)) (updA X57 2 K)) := mW_D hD
        refine W.widen (k := 0) (n := 0) (Nat.le_of_ble_eq_true rfl) (Nat.le_of_ble_eq_true rfl) ?_
        refine W.eq (g2 := F0 m 71 ls [.int (nI nd28)]) rfl ?_
        have hkp59 : Kp B X57 wr30 T := (Kp.new hkp47 h58)
        have hlo60 : Low B X57 nd wr := (Low.new hlo52 h58 (by omega))
        have hc61 : kcl 1 (X57 9 r31) = true := by rw [h58.2.1 9 r31 (by omega)]; exact hc51
        have hf62 : Frs K T wr30 X57 nd (nd28 + 1) nd28 [(nd28, (210 + lk29 - (10 * ne + lk)))] := (Frs.new1 (k := 17) hf50 (by omega) (by omega) (by omega) h58 rfl rfl (by decide) (by decide) (by omega) (by omega) (by decide) (by simp) ⟨by decide, by decide, by decide, by decide⟩ hc51 (newOK.m1 (by decide)) (newOK.m1 (by decide)) (newOK.m1 (by decide)) (by omega))
        have hn63 : Nd X57 nd28 17 (nI r31) (-1) (-1) (-1) := (NewN.toNd h58)
        have hf64 : Frs K T wr30 X57 nd (nd28 + 1) 20000 [(nd28, (210 + lk29 - (10 * ne + lk)))] := (Frs.fin (k := 17) hf62 hn63 rfl (by decide) (fun _ => nI_m1 (by omega)) (fun h => absurd h (by decide)) (fun h => absurd h (by decide)) (fun h => absurd h (by decide)))
        refine lv_istore_n (lv' := [(3, .int (nI nd28)), (2, .int (nI at0)), (1, .int (K at0)), (0, .ref h0)]) hx hb dX12_front_71 rfl hl (by decide) rfl (fun ls hl => ?_)
        refine lv_aload_n hx hb dX12_front_72 rfl (lv_at hl 3 rfl) ?_
        refine lv_dup hx hb dX12_front_73 rfl ?_
        refine r_get (v := .int (nI (ne + 1))) hx hb hown hq hE hP 65 366 tFX12_65 (by decide) pw_1612 rfl dX12_front_74 ?_
        refine lv_iconst (v := 1) hx hb dX12_front_77 (by decide) ?_
        refine lv_isub hx hb dX12_front_78 ?_
        refine lv_topi (fun x65 e66 => ?_)
        obtain rfl : x65 = nI ((ne + 1) - 1) := e66.trans (nI_subN (a := 1) (b := (ne + 1)) (by omega))
        refine r_put (v := (nI ((ne + 1) - 1))) (ty := .int) hx hb hown hq hE hP hD hS 65 366 tFX12_65 (by decide) pw_1612 (by decide) rfl rfl (ms_65 a _ _) dX12_front_79 (fun H locs hP hD hS => ?_)
        refine lv_iload_n hx hb dX12_front_82 rfl (lv_at hl 0 rfl) ?_
        have hz67 : at0 ≤ at25 := (by omega)
        have hz68 : at25 ≤ T := (by omega)
        have hz69 : 0 ≤ 100 := (by omega)
        have hz70 : nd ≤ (nd28 + 1) := (by omega)
        have hz71 : (nd28 + 1) + 2 * at0 ≤ nd + 2 * at25 + 100000 * 0 := (by omega)
        have hz72 : (nd28 + 1) + 2 * at0 ≤ nd + 2 * at25 + 40 * (21 - ne) := (by omega)
        have hz73 : wr ≤ wr30 := (by omega)
        have hz74 : wr30 + at0 ≤ wr + at25 := (by omega)
        have hz75 : lk ≤ lk29 := (by omega)
        have hz76 : lk29 ≤ 60 + 100 * 0 := (by omega)
        have hz77 : at0 + 1 ≤ at25 + 0 := (by omega)
        have hz78 : nd28 ≤ (nd28 + 1) := (by omega)
        have hz79 : Kp B X57 wr30 T := hkp59
        have hz80 : If (0 = 0) (Low B X57 nd wr ∧ Frs K T wr30 X57 nd (nd28 + 1) 20000 [(nd28, (210 + lk29 - (10 * ne + lk)))] ∧ kcl 1 (X57 9 nd28) = true) := (fun _ => ⟨hlo60, Frs.up hf64 (by omega), (by rw [hn63.1]; decide)⟩)
        have hP : va_P G.1 pCl (mW G h0 a (upd (upd (upd (upd (upd (upd (upd F 15 (nI 0)) 16 pl27) 27 (nI (nd28 + 1))) 31 (nI wr30)) 64 (nI at25)) 65 (nI ne)) 66 (nI lk29)) (updA X57 2 K)) _ := mW_to (F := F) (l1 := [(15, 0), (16, pl27), (27, (nI (nd28 + 1))), (31, (nI wr30)), (64, (nI at25)), (65, (nI (ne + 1))), (66, (nI lk29)), (65, (nI ((ne + 1) - 1)))]) (l2 := [(15, (nI 0)), (16, pl27), (27, (nI (nd28 + 1))), (31, (nI wr30)), (64, (nI at25)), (65, (nI ne)), (66, (nI lk29))]) (V := [(nI 0), pl27, (nI (nd28 + 1)), (nI wr30), (nI at25), (nI ne), (nI lk29), (nI ne), (nI 0), pl27, (nI (nd28 + 1)), (nI wr30), (nI at25), (nI ne), (nI lk29)]) rfl rfl rfl hP
        have hD : va_D A (mW G h0 a (upd (upd (upd (upd (upd (upd (upd F 15 (nI 0)) 16 pl27) 27 (nI (nd28 + 1))) 31 (nI wr30)) 64 (nI at25)) 65 (nI ne)) 66 (nI lk29)) (updA X57 2 K)) := mW_D hD
        exact W.iret (v := (nI nd28)) hx hb hr (fun t9 ht9 hW9 => ⟨⟨_, (at25, 0, pl27, (nd28 + 1), lk29, wr30, nd28, X57), rfl, ⟨rfl, hz67, hz68, hz69, hz70, hz71, hz72, hz73, hz74, hz75, hz76, hz77, hz78, hz79, hz80⟩, by rw [ht9]; exact hP, hD⟩, hS.F ht9⟩) hS.2.2 dX12_front_83
      · have e48 := e48
        refine lv_iconst (v := (-1)) hx hb dX12_front_67 (by decide) ?_
        have hP : va_P G.1 pCl (mW G h0 a (upd (upd (upd (upd (upd (upd (upd (upd F 15 (nI fa26)) 16 pl27) 27 (nI nd28)) 31 (nI wr30)) 64 (nI at25)) 65 (nI (ne + 1))) 66 (nI lk29)) 27 (nI nd28)) (updA X32 2 K)) _ := mW_to (F := F) (l1 := [(15, (nI fa26)), (16, pl27), (27, (nI nd28)), (31, (nI wr30)), (64, (nI at25)), (65, (nI (ne + 1))), (66, (nI lk29))]) (l2 := [(15, (nI fa26)), (16, pl27), (27, (nI nd28)), (31, (nI wr30)), (64, (nI at25)), (65, (nI (ne + 1))), (66, (nI lk29)), (27, (nI nd28))]) (V := [(nI fa26), pl27, (nI nd28), (nI wr30), (nI at25), (nI (ne + 1)), (nI lk29), (nI fa26), pl27, (nI nd28), (nI wr30), (nI at25), (nI (ne + 1)), (nI lk29), (nI nd28)]) rfl rfl rfl hP
        have hD : va_D A (mW G h0 a (upd (upd (upd (upd (upd (upd (upd (upd F 15 (nI fa26)) 16 pl27) 27 (nI nd28)) 31 (nI wr30)) 64 (nI at25)) 65 (nI (ne + 1))) 66 (nI lk29)) 27 (nI nd28)) (updA X32 2 K)) := mW_D hD
        refine pc_V0 (G := G) (As := [.int 17, .int (nI at0), .int (nI at0), .int (nI r31), .int (-1)]) (rest := []) hx hb hml hown hq hE hX pX0_al hP hD hS hA hl.1 (R_nodeB l G h0 a (upd (upd (upd (upd (upd (upd (upd F 15 (nI fa26)) 16 pl27) 27 (nI nd28)) 31 (nI wr30)) 64 (nI at25)) 65 (nI (ne + 1))) 66 (nI lk29)) X32 17 (nI at0) (nI at0) (nI r31) (-1) nd28 K (by omega)) (gV pw_1650 pw_1651 pw_1652 pw_1523 pw_1589) hV_X12_node 0 9 rfl rfl rfl rfl (Nat.le_of_ble_eq_true rfl) dX12_front_68 ⟨Nat.le_of_ble_eq_true rfl, Nat.le_of_ble_eq_true rfl⟩ ⟨(by show 2 + 1 ≤ (20 * n + 14); omega), (by show 8 + (7 + 11) + 60 ≤ (1000 * n + 40 * 14); omega)⟩ (fun v83 u81 H locs hw82 hP hD hS => ?_)
        obtain ⟨X84, rfl⟩ : ∃ z, z = u81 := ⟨_, rfl⟩
        obtain ⟨hw82, h85⟩ := hw82
        have h85 : NewN X32 X84 nd28 17 (nI at0) (nI at0) (nI r31) (-1) := h85
        obtain rfl : v83 = some (.int (nI nd28)) := hw82
        have hP : va_P G.1 pCl (mW G h0 a (upd (upd (upd (upd (upd (upd (upd F 15 (nI fa26)) 16 pl27) 27 (nI (nd28 + 1))) 31 (nI wr30)) 64 (nI at25)) 65 (nI (ne + 1))) 66 (nI lk29)) (updA X84 2 K)) _ := mW_to (F := F) (l1 := [(15, (nI fa26)), (16, pl27), (27, (nI nd28)), (31, (nI wr30)), (64, (nI at25)), (65, (nI (ne + 1))), (66, (nI lk29)), (27, (nI (nd28 + 1)))]) (l2 := [(15, (nI fa26)), (16, pl27), (27, (nI (nd28 + 1))), (31, (nI wr30)), (64, (nI at25)), (65, (nI (ne + 1))), (66, (nI lk29))]) (V := [(nI fa26), pl27, (nI (nd28 + 1)), (nI wr30), (nI at25), (nI (ne + 1)), (nI lk29), (nI (nd28 + 1)), (nI fa26), pl27, (nI (nd28 + 1)), (nI wr30), (nI at25), (nI (ne + 1)), (nI lk29)]) rfl rfl rfl hP
        have hD : va_D A (mW G h0 a (upd (upd (upd (upd (upd (upd (upd F 15 (nI fa26)) 16 pl27) 27 (nI (nd28 + 1))) 31 (nI wr30)) 64 (nI at25)) 65 (nI (ne + 1))) 66 (nI lk29)) (updA X84 2 K)) := mW_D hD
        refine W.widen (k := 0) (n := 0) (Nat.le_of_ble_eq_true rfl) (Nat.le_of_ble_eq_true rfl) ?_
        refine W.eq (g2 := F0 m 71 ls [.int (nI nd28)]) rfl ?_
        have hkp86 : Kp B X84 wr30 T := (Kp.new hkp47 h85)
        refine lv_istore_n (lv' := [(3, .int (nI nd28)), (2, .int (nI at0)), (1, .int (K at0)), (0, .ref h0)]) hx hb dX12_front_71 rfl hl (by decide) rfl (fun ls hl => ?_)
        refine lv_aload_n hx hb dX12_front_72 rfl (lv_at hl 3 rfl) ?_
        refine lv_dup hx hb dX12_front_73 rfl ?_
        refine r_get (v := .int (nI (ne + 1))) hx hb hown hq hE hP 65 366 tFX12_65 (by decide) pw_1612 rfl dX12_front_74 ?_
        refine lv_iconst (v := 1) hx hb dX12_front_77 (by decide) ?_
        refine lv_isub hx hb dX12_front_78 ?_
        refine lv_topi (fun x87 e88 => ?_)
        obtain rfl : x87 = nI ((ne + 1) - 1) := e88.trans (nI_subN (a := 1) (b := (ne + 1)) (by omega))
        refine r_put (v := (nI ((ne + 1) - 1))) (ty := .int) hx hb hown hq hE hP hD hS 65 366 tFX12_65 (by decide) pw_1612 (by decide) rfl rfl (ms_65 a _ _) dX12_front_79 (fun H locs hP hD hS => ?_)
        refine lv_iload_n hx hb dX12_front_82 rfl (lv_at hl 0 rfl) ?_
        have hz89 : at0 ≤ at25 := (by omega)
        have hz90 : at25 ≤ T := (by omega)
        have hz91 : fa26 ≤ 100 := (by omega)
        have hz92 : nd ≤ (nd28 + 1) := (by omega)
        have hz93 : (nd28 + 1) + 2 * at0 ≤ nd + 2 * at25 + 100000 * fa26 := (by omega)
        have hz94 : (nd28 + 1) + 2 * at0 ≤ nd + 2 * at25 + 40 * (21 - ne) := (by omega)
        have hz95 : wr ≤ wr30 := (by omega)
        have hz96 : wr30 + at0 ≤ wr + at25 := (by omega)
        have hz97 : lk ≤ lk29 := (by omega)
        have hz98 : lk29 ≤ 60 + 100 * fa26 := (by omega)
        have hz99 : at0 + 1 ≤ at25 + fa26 := (by omega)
        have hz100 : nd28 ≤ (nd28 + 1) := (by omega)
        have hz101 : Kp B X84 wr30 T := hkp86
        have hz102 : If (fa26 = 0) (Low B X84 nd wr ∧ Frs K T wr30 X84 nd (nd28 + 1) 20000 [(nd28, (210 + lk29 - (10 * ne + lk)))] ∧ kcl 1 (X84 9 nd28) = true) := (fun e => absurd e (by omega))
        have hP : va_P G.1 pCl (mW G h0 a (upd (upd (upd (upd (upd (upd (upd F 15 (nI fa26)) 16 pl27) 27 (nI (nd28 + 1))) 31 (nI wr30)) 64 (nI at25)) 65 (nI ne)) 66 (nI lk29)) (updA X84 2 K)) _ := mW_to (F := F) (l1 := [(15, (nI fa26)), (16, pl27), (27, (nI (nd28 + 1))), (31, (nI wr30)), (64, (nI at25)), (65, (nI (ne + 1))), (66, (nI lk29)), (65, (nI ((ne + 1) - 1)))]) (l2 := [(15, (nI fa26)), (16, pl27), (27, (nI (nd28 + 1))), (31, (nI wr30)), (64, (nI at25)), (65, (nI ne)), (66, (nI lk29))]) (V := [(nI fa26), pl27, (nI (nd28 + 1)), (nI wr30), (nI at25), (nI ne), (nI lk29), (nI ne), (nI fa26), pl27, (nI (nd28 + 1)), (nI wr30), (nI at25), (nI ne), (nI lk29)]) rfl rfl rfl hP
        have hD : va_D A (mW G h0 a (upd (upd (upd (upd (upd (upd (upd F 15 (nI fa26)) 16 pl27) 27 (nI (nd28 + 1))) 31 (nI wr30)) 64 (nI at25)) 65 (nI ne)) 66 (nI lk29)) (updA X84 2 K)) := mW_D hD
        exact W.iret (v := (nI nd28)) hx hb hr (fun t9 ht9 hW9 => ⟨⟨_, (at25, fa26, pl27, (nd28 + 1), lk29, wr30, nd28, X84), rfl, ⟨rfl, hz89, hz90, hz91, hz92, hz93, hz94, hz95, hz96, hz97, hz98, hz99, hz100, hz101, hz102⟩, by rw [ht9]; exact hP, hD⟩, hS.F ht9⟩) hS.2.2 dX12_front_83
    · have e18 := e18
      refine lv_aload_n hx hb dX12_front_48 rfl (lv_at hl 2 rfl) ?_
      refine lv_dup hx hb dX12_front_49 rfl ?_
      refine r_get (v := .int (nI at0)) hx hb hown hq hE hP 64 343 tFX12_64 (by decide) pw_1592 rfl dX12_front_50 ?_
      refine lv_iconst (v := 1) hx hb dX12_front_53 (by decide) ?_
      refine lv_iadd hx hb dX12_front_54 ?_
      refine lv_topi (fun x103 e104 => ?_)
      obtain rfl : x103 = nI (at0 + 1) := e104.trans (nI_add (at0) (1))
      refine r_put (v := (nI (at0 + 1))) (ty := .int) hx hb hown hq hE hP hD hS 64 343 tFX12_64 (by decide) pw_1592 (by decide) rfl rfl (ms_64 a _ _) dX12_front_55 (fun H locs hP hD hS => ?_)
      refine lv_aload_n hx hb dX12_front_58 rfl (lv_at hl 2 rfl) ?_
      refine lv_bipush (v := 17) hx hb dX12_front_59 (by decide) ?_
      refine lv_iload_n hx hb dX12_front_61 rfl (lv_at hl 0 rfl) ?_
      refine lv_iload_n hx hb dX12_front_62 rfl (lv_at hl 0 rfl) ?_
      refine lv_aload_n hx hb dX12_front_63 rfl (lv_at hl 2 rfl) ?_
      have hP : va_P G.1 pCl (mW G h0 a (upd (upd (upd (upd (upd (upd (upd (upd (upd F 15 (nI fa12)) 16 pl13) 27 (nI nd)) 31 (nI wr)) 64 (nI (at0 + 1))) 65 (nI (ne + 1))) 66 (nI lk)) 15 (nI fa12)) 64 (nI (at0 + 1))) (updA (updA B 2 K) 2 K)) _ := mW_to (F := F) (l1 := [(15, (nI fa12)), (16, pl13), (27, (nI nd)), (31, (nI wr)), (64, (nI at0)), (65, (nI (ne + 1))), (66, (nI lk)), (64, (nI (at0 + 1)))]) (l2 := [(15, (nI fa12)), (16, pl13), (27, (nI nd)), (31, (nI wr)), (64, (nI (at0 + 1))), (65, (nI (ne + 1))), (66, (nI lk)), (15, (nI fa12)), (64, (nI (at0 + 1)))]) (V := [(nI fa12), pl13, (nI nd), (nI wr), (nI (at0 + 1)), (nI (ne + 1)), (nI lk), (nI (at0 + 1)), (nI fa12), pl13, (nI nd), (nI wr), (nI (at0 + 1)), (nI (ne + 1)), (nI lk), (nI fa12), (nI (at0 + 1))]) rfl rfl (show (updA B 2 K) = (updA (updA B 2 K) 2 K) from updsA_eq2 (F := B) (l1 := [(2, K)]) (l2 := [(2, K), (2, K)]) (V := [K, K, K]) rfl rfl) hP
      have hD : va_D A (mW G h0 a (upd (upd (upd (upd (upd (upd (upd (upd (upd F 15 (nI fa12)) 16 pl13) 27 (nI nd)) 31 (nI wr)) 64 (nI (at0 + 1))) 65 (nI (ne + 1))) 66 (nI lk)) 15 (nI fa12)) 64 (nI (at0 + 1))) (updA (updA B 2 K) 2 K)) := mW_D hD
      refine pc_V0 (G := G) (As := []) (rest := [.int (nI at0), .int (nI at0), .int 17, .ref h0]) hx hb hml hown hq hE hX pX0_al hP hD hS hA hl.1 (RF_front l G h0 a (upd (upd (upd (upd (upd (upd (upd F 15 (nI fa12)) 16 pl13) 27 (nI nd)) 31 (nI wr)) 64 (nI (at0 + 1))) 65 (nI (ne + 1))) 66 (nI lk)) (updA B 2 K) (at0 + 1) T fa12 K (by omega) (by omega) hK (by omega) e18) (gV pw_1664 pw_1665 pw_1666 pw_1523 pw_1660) hV_X12_front 0 9 rfl rfl rfl rfl (Nat.le_of_ble_eq_true rfl) dX12_front_64 ⟨Nat.le_of_ble_eq_true rfl, Nat.le_of_ble_eq_true rfl⟩ ⟨(by show 4 + 1 ≤ (20 * n + 14); omega), (by show 8 + (4 + 11) + 107 ≤ (1000 * n + 40 * 14); omega)⟩ (fun v107 u105 H locs hw106 hP hD hS => ?_)
      obtain rfl : v107 = some (.int 0) := hw106
      have hP : va_P G.1 pCl (mW G h0 a (upd (upd (upd (upd (upd (upd (upd F 15 (nI fa12)) 16 pl13) 27 (nI nd)) 31 (nI wr)) 64 (nI (at0 + 1))) 65 (nI (ne + 1))) 66 (nI lk)) (updA B 2 K)) _ := mW_to (F := F) (l1 := [(15, (nI fa12)), (16, pl13), (27, (nI nd)), (31, (nI wr)), (64, (nI (at0 + 1))), (65, (nI (ne + 1))), (66, (nI lk)), (15, (nI fa12)), (64, (nI (at0 + 1)))]) (l2 := [(15, (nI fa12)), (16, pl13), (27, (nI nd)), (31, (nI wr)), (64, (nI (at0 + 1))), (65, (nI (ne + 1))), (66, (nI lk))]) (V := [(nI fa12), pl13, (nI nd), (nI wr), (nI (at0 + 1)), (nI (ne + 1)), (nI lk), (nI fa12), (nI (at0 + 1)), (nI fa12), pl13, (nI nd), (nI wr), (nI (at0 + 1)), (nI (ne + 1)), (nI lk)]) rfl rfl (show (updA (updA B 2 K) 2 K) = (updA B 2 K) from updsA_eq2 (F := B) (l1 := [(2, K), (2, K)]) (l2 := [(2, K)]) (V := [K, K, K]) rfl rfl) hP
      have hD : va_D A (mW G h0 a (upd (upd (upd (upd (upd (upd (upd F 15 (nI fa12)) 16 pl13) 27 (nI nd)) 31 (nI wr)) 64 (nI (at0 + 1))) 65 (nI (ne + 1))) 66 (nI lk)) (updA B 2 K)) := mW_D hD
      refine W.widen (k := 0) (n := 0) (Nat.le_of_ble_eq_true rfl) (Nat.le_of_ble_eq_true rfl) ?_
      refine W.eq (g2 := F0 m 67 ls [.int 0, .int (nI at0), .int (nI at0), .int 17, .ref h0]) rfl ?_
      refine lv_iconst (v := (-1)) hx hb dX12_front_67 (by decide) ?_
      have hP : va_P G.1 pCl (mW G h0 a (upd (upd (upd (upd (upd (upd (upd (upd F 15 (nI fa12)) 16 pl13) 27 (nI nd)) 31 (nI wr)) 64 (nI (at0 + 1))) 65 (nI (ne + 1))) 66 (nI lk)) 27 (nI nd)) (updA B 2 K)) _ := mW_to (F := F) (l1 := [(15, (nI fa12)), (16, pl13), (27, (nI nd)), (31, (nI wr)), (64, (nI (at0 + 1))), (65, (nI (ne + 1))), (66, (nI lk))]) (l2 := [(15, (nI fa12)), (16, pl13), (27, (nI nd)), (31, (nI wr)), (64, (nI (at0 + 1))), (65, (nI (ne + 1))), (66, (nI lk)), (27, (nI nd))]) (V := [(nI fa12), pl13, (nI nd), (nI wr), (nI (at0 + 1)), (nI (ne + 1)), (nI lk), (nI fa12), pl13, (nI nd), (nI wr), (nI (at0 + 1)), (nI (ne + 1)), (nI lk), (nI nd)]) rfl rfl rfl hP
      have hD : va_D A (mW G h0 a (upd (upd (upd (upd (upd (upd (upd (upd F 15 (nI fa12)) 16 pl13) 27 (nI nd)) 31 (nI wr)) 64 (nI (at0 + 1))) 65 (nI (ne + 1))) 66 (nI lk)) 27 (nI nd)) (updA B 2 K)) := mW_D hD
      refine pc_V0 (G := G) (As := [.int 17, .int (nI at0), .int (nI at0), .int 0, .int (-1)]) (rest := []) hx hb hml hown hq hE hX pX0_al hP hD hS hA hl.1 (R_nodeB l G h0 a (upd (upd (upd (upd (upd (upd (upd F 15 (nI fa12)) 16 pl13) 27 (nI nd)) 31 (nI wr)) 64 (nI (at0 + 1))) 65 (nI (ne + 1))) 66 (nI lk)) B 17 (nI at0) (nI at0) 0 (-1) nd K (by omega)) (gV pw_1650 pw_1651 pw_1652 pw_1523 pw_1589) hV_X12_node 0 9 rfl rfl rfl rfl (Nat.le_of_ble_eq_true rfl) dX12_front_68 ⟨Nat.le_of_ble_eq_true rfl, Nat.le_of_ble_eq_true rfl⟩ ⟨(by show 2 + 1 ≤ (20 * n + 14); omega), (by show 8 + (7 + 11) + 60 ≤ (1000 * n + 40 * 14); omega)⟩ (fun v110 u108 H locs hw109 hP hD hS => ?_)
      obtain ⟨X111, rfl⟩ : ∃ z, z = u108 := ⟨_, rfl⟩
      obtain ⟨hw109, h112⟩ := hw109
      have h112 : NewN B X111 nd 17 (nI at0) (nI at0) 0 (-1) := h112
      obtain rfl : v110 = some (.int (nI nd)) := hw109
      have hP : va_P G.1 pCl (mW G h0 a (upd (upd (upd (upd (upd (upd (upd F 15 (nI fa12)) 16 pl13) 27 (nI (nd + 1))) 31 (nI wr)) 64 (nI (at0 + 1))) 65 (nI (ne + 1))) 66 (nI lk)) (updA X111 2 K)) _ := mW_to (F := F) (l1 := [(15, (nI fa12)), (16, pl13), (27, (nI nd)), (31, (nI wr)), (64, (nI (at0 + 1))), (65, (nI (ne + 1))), (66, (nI lk)), (27, (nI (nd + 1)))]) (l2 := [(15, (nI fa12)), (16, pl13), (27, (nI (nd + 1))), (31, (nI wr)), (64, (nI (at0 + 1))), (65, (nI (ne + 1))), (66, (nI lk))]) (V := [(nI fa12), pl13, (nI (nd + 1)), (nI wr), (nI (at0 + 1)), (nI (ne + 1)), (nI lk), (nI (nd + 1)), (nI fa12), pl13, (nI (nd + 1)), (nI wr), (nI (at0 + 1)), (nI (ne + 1)), (nI lk)]) rfl rfl rfl hP
      have hD : va_D A (mW G h0 a (upd (upd (upd (upd (upd (upd (upd F 15 (nI fa12)) 16 pl13) 27 (nI (nd + 1))) 31 (nI wr)) 64 (nI (at0 + 1))) 65 (nI (ne + 1))) 66 (nI lk)) (updA X111 2 K)) := mW_D hD
      refine W.widen (k := 0) (n := 0) (Nat.le_of_ble_eq_true rfl) (Nat.le_of_ble_eq_true rfl) ?_
      refine W.eq (g2 := F0 m 71 ls [.int (nI nd)]) rfl ?_
      have hkp113 : Kp B X111 wr T := (Kp.new hkp1 h112)
      refine lv_istore_n (lv' := [(3, .int (nI nd)), (2, .int (nI at0)), (1, .int (K at0)), (0, .ref h0)]) hx hb dX12_front_71 rfl hl (by decide) rfl (fun ls hl => ?_)
      refine lv_aload_n hx hb dX12_front_72 rfl (lv_at hl 3 rfl) ?_
      refine lv_dup hx hb dX12_front_73 rfl ?_
      refine r_get (v := .int (nI (ne + 1))) hx hb hown hq hE hP 65 366 tFX12_65 (by decide) pw_1612 rfl dX12_front_74 ?_
      refine lv_iconst (v := 1) hx hb dX12_front_77 (by decide) ?_
      refine lv_isub hx hb dX12_front_78 ?_
      refine lv_topi (fun x114 e115 => ?_)
      obtain rfl : x114 = nI ((ne + 1) - 1) := e115.trans (nI_subN (a := 1) (b := (ne + 1)) (by omega))
      refine r_put (v := (nI ((ne + 1) - 1))) (ty := .int) hx hb hown hq hE hP hD hS 65 366 tFX12_65 (by decide) pw_1612 (by decide) rfl rfl (ms_65 a _ _) dX12_front_79 (fun H locs hP hD hS => ?_)
      refine lv_iload_n hx hb dX12_front_82 rfl (lv_at hl 0 rfl) ?_
      have hz116 : at0 ≤ (at0 + 1) := (by omega)
      have hz117 : (at0 + 1) ≤ T := (by omega)
      have hz118 : fa12 ≤ 100 := (by omega)
      have hz119 : nd ≤ (nd + 1) := (by omega)
      have hz120 : (nd + 1) + 2 * at0 ≤ nd + 2 * (at0 + 1) + 100000 * fa12 := (by omega)
      have hz121 : (nd + 1) + 2 * at0 ≤ nd + 2 * (at0 + 1) + 40 * (21 - ne) := (by omega)
      have hz122 : wr ≤ wr := (by omega)
      have hz123 : wr + at0 ≤ wr + (at0 + 1) := (by omega)
      have hz124 : lk ≤ lk := (by omega)
      have hz125 : lk ≤ 60 + 100 * fa12 := (by omega)
      have hz126 : at0 + 1 ≤ (at0 + 1) + fa12 := (by omega)
      have hz127 : nd ≤ (nd + 1) := (by omega)
      have hz128 : Kp B X111 wr T := hkp113
      have hz129 : If (fa12 = 0) (Low B X111 nd wr ∧ Frs K T wr X111 nd (nd + 1) 20000 [(nd, (210 + lk - (10 * ne + lk)))] ∧ kcl 1 (X111 9 nd) = true) := (fun e => absurd e (by omega))
      have hP : va_P G.1 pCl (mW G h0 a (upd (upd (upd (upd (upd (upd (upd F 15 (nI fa12)) 16 pl13) 27 (nI (nd + 1))) 31 (nI wr)) 64 (nI (at0 + 1))) 65 (nI ne)) 66 (nI lk)) (updA X111 2 K)) _ := mW_to (F := F) (l1 := [(15, (nI fa12)), (16, pl13), (27, (nI (nd + 1))), (31, (nI wr)), (64, (nI (at0 + 1))), (65, (nI (ne + 1))), (66, (nI lk)), (65, (nI ((ne + 1) - 1)))]) (l2 := [(15, (nI fa12)), (16, pl13), (27, (nI (nd + 1))), (31, (nI wr)), (64, (nI (at0 + 1))), (65, (nI ne)), (66, (nI lk))]) (V := [(nI fa12), pl13, (nI (nd + 1)), (nI wr), (nI (at0 + 1)), (nI ne), (nI lk), (nI ne), (nI fa12), pl13, (nI (nd + 1)), (nI wr), (nI (at0 + 1)), (nI ne), (nI lk)]) rfl rfl rfl hP
      have hD : va_D A (mW G h0 a (upd (upd (upd (upd (upd (upd (upd F 15 (nI fa12)) 16 pl13) 27 (nI (nd + 1))) 31 (nI wr)) 64 (nI (at0 + 1))) 65 (nI ne)) 66 (nI lk)) (updA X111 2 K)) := mW_D hD
      exact W.iret (v := (nI nd)) hx hb hr (fun t9 ht9 hW9 => ⟨⟨_, ((at0 + 1), fa12, pl13, (nd + 1), lk, wr, nd, X111), rfl, ⟨rfl, hz116, hz117, hz118, hz119, hz120, hz121, hz122, hz123, hz124, hz125, hz126, hz127, hz128, hz129⟩, by rw [ht9]; exact hP, hD⟩, hS.F ht9⟩) hS.2.2 dX12_front_83
  · refine lv_iload_n hx hb dX12_front_22 rfl (lv_at hl 0 rfl) ?_
    refine lv_bipush (v := 126) hx hb dX12_front_23 (by decide) ?_
    refine lv_icmp_eq (tgt := 39) hx hb dX12_front_25 (by decide) (fun c130 => ?_) (fun c130 => ?_)
    · have n131 : at0 < T := tk_lt hat hK c130 (by decide) (by decide)
      refine lv_aload_n hx hb dX12_front_39 rfl (lv_at hl 1 rfl) ?_
      refine r_get (v := .int (nI at0)) hx hb hown hq hE hP 64 343 tFX12_64 (by decide) pw_1592 rfl dX12_front_40 ?_
      refine lv_istore_n (lv' := [(2, .int (nI at0)), (1, .int (K at0)), (0, .ref h0)]) hx hb dX12_front_43 rfl hl (by decide) rfl (fun ls hl => ?_)
      refine lv_aload_n hx hb dX12_front_44 rfl (lv_at hl 2 rfl) ?_
      have hP : va_P G.1 pCl (mW G h0 a (upd (upd (upd (upd (upd (upd (upd (upd (upd F 15 0) 27 (nI nd)) 31 (nI wr)) 64 (nI at0)) 65 (nI ne)) 66 (nI lk)) 15 (nI 0)) 64 (nI at0)) 65 (nI ne)) (updA (updA B 2 K) 2 K)) _ := mW_to (F := F) (l1 := [(15, 0), (27, (nI nd)), (31, (nI wr)), (64, (nI at0)), (65, (nI ne)), (66, (nI lk))]) (l2 := [(15, 0), (27, (nI nd)), (31, (nI wr)), (64, (nI at0)), (65, (nI ne)), (66, (nI lk)), (15, (nI 0)), (64, (nI at0)), (65, (nI ne))]) (V := [(nI 0), (nI nd), (nI wr), (nI at0), (nI ne), (nI lk), (nI 0), (nI nd), (nI wr), (nI at0), (nI ne), (nI lk), (nI 0), (nI at0), (nI ne)]) rfl rfl (show (updA B 2 K) = (updA (updA B 2 K) 2 K) from updsA_eq2 (F := B) (l1 := [(2, K)]) (l2 := [(2, K), (2, K)]) (V := [K, K, K]) rfl rfl) hP
      have hD : va_D A (mW G h0 a (upd (upd (upd (upd (upd (upd (upd (upd (upd F 15 0) 27 (nI nd)) 31 (nI wr)) 64 (nI at0)) 65 (nI ne)) 66 (nI lk)) 15 (nI 0)) 64 (nI at0)) 65 (nI ne)) (updA (updA B 2 K) 2 K)) := mW_D hD
      refine pc_V0 (G := G) (As := []) (rest := []) hx hb hml hown hq hE hX pX0_al hP hD hS hA hl.1 (R_deeper l G h0 a (upd (upd (upd (upd (upd (upd F 15 0) 27 (nI nd)) 31 (nI wr)) 64 (nI at0)) 65 (nI ne)) 66 (nI lk)) (updA B 2 K) at0 T 0 K ne (by omega) (by omega) hK (by omega) (by omega)) (gV pw_1637 pw_1638 pw_1639 pw_1523 pw_1611) hV_X12_deeper 0 9 rfl rfl rfl rfl (Nat.le_of_ble_eq_true rfl) dX12_front_45 ⟨Nat.le_of_ble_eq_true rfl, Nat.le_of_ble_eq_true rfl⟩ ⟨(by show 4 + 1 ≤ (20 * n + 14); omega), (by show 8 + (1 + 11) + 103 ≤ (1000 * n + 40 * 14); omega)⟩ (fun v134 u132 H locs hw133 hP hD hS => ?_)
      obtain ⟨fa135, pl136⟩ := u132
      obtain ⟨hw133, h137, h138, h139, h140⟩ := hw133
      have h137 : 0 ≤ fa135 := h137
      have h138 : fa135 ≤ 100 := h138
      have h139 : If (0 < 0) (fa135 = 0) := h139
      have h140 : If (ne ≤ 20) (ne + 1 ≤ 20 + fa135) := h140
      obtain rfl : v134 = none := hw133
      have hP : va_P G.1 pCl (mW G h0 a (upd (upd (upd (upd (upd (upd (upd F 15 (nI fa135)) 16 pl136) 27 (nI nd)) 31 (nI wr)) 64 (nI at0)) 65 (nI (ne + 1))) 66 (nI lk)) (updA B 2 K)) _ := mW_to (F := F) (l1 := [(15, 0), (27, (nI nd)), (31, (nI wr)), (64, (nI at0)), (65, (nI ne)), (66, (nI lk)), (15, (nI fa135)), (16, pl136), (64, (nI at0)), (65, (nI (ne + 1)))]) (l2 := [(15, (nI fa135)), (16, pl136), (27, (nI nd)), (31, (nI wr)), (64, (nI at0)), (65, (nI (ne + 1))), (66, (nI lk))]) (V := [(nI fa135), (nI nd), (nI wr), (nI at0), (nI (ne + 1)), (nI lk), (nI fa135), pl136, (nI at0), (nI (ne + 1)), (nI fa135), pl136, (nI nd), (nI wr), (nI at0), (nI (ne + 1)), (nI lk)]) rfl rfl (show (updA (updA B 2 K) 2 K) = (updA B 2 K) from updsA_eq2 (F := B) (l1 := [(2, K), (2, K)]) (l2 := [(2, K)]) (V := [K, K, K]) rfl rfl) hP
      have hD : va_D A (mW G h0 a (upd (upd (upd (upd (upd (upd (upd F 15 (nI fa135)) 16 pl136) 27 (nI nd)) 31 (nI wr)) 64 (nI at0)) 65 (nI (ne + 1))) 66 (nI lk)) (updA B 2 K)) := mW_D hD
      refine W.widen (k := 0) (n := 0) (Nat.le_of_ble_eq_true rfl) (Nat.le_of_ble_eq_true rfl) ?_
      refine W.eq (g2 := F0 m 48 ls []) rfl ?_
      rcases Nat.eq_zero_or_pos fa135 with e141 | e141
      · subst e141
        have hP : va_P G.1 pCl (mW G h0 a (upd (upd (upd (upd (upd (upd (upd F 15 0) 16 pl136) 27 (nI nd)) 31 (nI wr)) 64 (nI at0)) 65 (nI (ne + 1))) 66 (nI lk)) (updA B 2 K)) _ := hP
        have hD : va_D A (mW G h0 a (upd (upd (upd (upd (upd (upd (upd F 15 0) 16 pl136) 27 (nI nd)) 31 (nI wr)) 64 (nI at0)) 65 (nI (ne + 1))) 66 (nI lk)) (updA B 2 K)) := mW_D hD
        have n142 : ne + 1 ≤ 20 := (h140 (by omega))
        refine lv_aload_n hx hb dX12_front_48 rfl (lv_at hl 2 rfl) ?_
        refine lv_dup hx hb dX12_front_49 rfl ?_
        refine r_get (v := .int (nI at0)) hx hb hown hq hE hP 64 343 tFX12_64 (by decide) pw_1592 rfl dX12_front_50 ?_
        refine lv_iconst (v := 1) hx hb dX12_front_53 (by decide) ?_
        refine lv_iadd hx hb dX12_front_54 ?_
        refine lv_topi (fun x143 e144 => ?_)
        obtain rfl : x143 = nI (at0 + 1) := e144.trans (nI_add (at0) (1))
        refine r_put (v := (nI (at0 + 1))) (ty := .int) hx hb hown hq hE hP hD hS 64 343 tFX12_64 (by decide) pw_1592 (by decide) rfl rfl (ms_64 a _ _) dX12_front_55 (fun H locs hP hD hS => ?_)
        refine lv_aload_n hx hb dX12_front_58 rfl (lv_at hl 2 rfl) ?_
        refine lv_bipush (v := 17) hx hb dX12_front_59 (by decide) ?_
        refine lv_iload_n hx hb dX12_front_61 rfl (lv_at hl 0 rfl) ?_
        refine lv_iload_n hx hb dX12_front_62 rfl (lv_at hl 0 rfl) ?_
        refine lv_aload_n hx hb dX12_front_63 rfl (lv_at hl 2 rfl) ?_
        have hP : va_P G.1 pCl (mW G h0 a (upd (upd (upd (upd (upd (upd (upd (upd (upd (upd (upd (upd (upd F 15 0) 16 pl136) 27 (nI nd)) 31 (nI wr)) 64 (nI (at0 + 1))) 65 (nI (ne + 1))) 66 (nI lk)) 15 0) 27 (nI nd)) 31 (nI wr)) 64 (nI (at0 + 1))) 65 (nI (ne + 1))) 66 (nI lk)) (updA B 2 K)) _ := mW_to (F := F) (l1 := [(15, 0), (16, pl136), (27, (nI nd)), (31, (nI wr)), (64, (nI at0)), (65, (nI (ne + 1))), (66, (nI lk)), (64, (nI (at0 + 1)))]) (l2 := [(15, 0), (16, pl136), (27, (nI nd)), (31, (nI wr)), (64, (nI (at0 + 1))), (65, (nI (ne + 1))), (66, (nI lk)), (15, 0), (27, (nI nd)), (31, (nI wr)), (64, (nI (at0 + 1))), (65, (nI (ne + 1))), (66, (nI lk))]) (V := [0, pl136, (nI nd), (nI wr), (nI (at0 + 1)), (nI (ne + 1)), (nI lk), (nI (at0 + 1)), 0, pl136, (nI nd), (nI wr), (nI (at0 + 1)), (nI (ne + 1)), (nI lk), 0, (nI nd), (nI wr), (nI (at0 + 1)), (nI (ne + 1)), (nI lk)]) rfl rfl rfl hP
        have hD : va_D A (mW G h0 a (upd (upd (upd (upd (upd (upd (upd (upd (upd (upd (upd (upd (upd F 15 0) 16 pl136) 27 (nI nd)) 31 (nI wr)) 64 (nI (at0 + 1))) 65 (nI (ne + 1))) 66 (nI lk)) 15 0) 27 (nI nd)) 31 (nI wr)) 64 (nI (at0 + 1))) 65 (nI (ne + 1))) 66 (nI lk)) (updA B 2 K)) := mW_D hD
        refine pc_V0 (G := G) (As := []) (rest := [.int (nI at0), .int (nI at0), .int 17, .ref h0]) hx hb hml hown hq hE hX pX0_al hP hD hS hA hl.1 (ihf h0 a (upd (upd (upd (upd (upd (upd (upd F 15 0) 16 pl136) 27 (nI nd)) 31 (nI wr)) 64 (nI (at0 + 1))) 65 (nI (ne + 1))) 66 (nI lk)) B (at0 + 1) T (ne + 1) nd wr lk K (by omega) (by omega) hK (by omega) (by omega) (by omega) (by omega) (hkp1).2 (by omega)) (gV pw_1664 pw_1665 pw_1666 pw_1523 pw_1660) hV_X12_front 0 9 rfl rfl rfl rfl (Nat.le_of_ble_eq_true rfl) dX12_front_64 ⟨Nat.le_of_ble_eq_true rfl, Nat.le_of_ble_eq_true rfl⟩ ⟨(by show (20 * (n - 1) + 14) + 1 ≤ (20 * n + 14); omega), (by show 8 + (4 + 11) + (1000 * (n - 1) + 40 * 14) ≤ (1000 * n + 40 * 14); omega)⟩ (fun v147 u145 H locs hw146 hP hD hS => ?_)
        obtain ⟨at148, fa149, pl150, nd151, lk152, wr153, r154, X155⟩ := u145
        obtain ⟨hw146, h156, h157, h158, h159, h160, h161, h162, h163, h164, h165, h166, h167, h168, h169⟩ := hw146
        have h156 : (at0 + 1) ≤ at148 := h156
        have h157 : at148 ≤ T := h157
        have h158 : fa149 ≤ 100 := h158
        have h159 : nd ≤ nd151 := h159
        have h160 : nd151 + 2 * (at0 + 1) ≤ nd + 2 * at148 + 100000 * fa149 := h160
        have h161 : nd151 + 2 * (at0 + 1) ≤ nd + 2 * at148 + 40 * (21 - (ne + 1)) := h161
        have h162 : wr ≤ wr153 := h162
        have h163 : wr153 + (at0 + 1) ≤ wr + at148 := h163
        have h164 : lk ≤ lk152 := h164
        have h165 : lk152 ≤ 60 + 100 * fa149 := h165
        have h166 : (at0 + 1) + 1 ≤ at148 + fa149 := h166
        have h167 : r154 ≤ nd151 := h167
        have h168 : Kp B X155 wr153 T := h168
        have h169 : If (fa149 = 0) (Low B X155 nd wr ∧ Frs K T wr153 X155 nd nd151 20000 [(r154, (210 + lk152 - (10 * (ne + 1) + lk)))] ∧ kcl 1 (X155 9 r154) = true) := h169
        obtain rfl : v147 = some (.int (nI r154)) := hw146
        have hP : va_P G.1 pCl (mW G h0 a (upd (upd (upd (upd (upd (upd (upd F 15 (nI fa149)) 16 pl150) 27 (nI nd151)) 31 (nI wr153)) 64 (nI at148)) 65 (nI (ne + 1))) 66 (nI lk152)) (updA X155 2 K)) _ := mW_to (F := F) (l1 := [(15, 0), (16, pl136), (27, (nI nd)), (31, (nI wr)), (64, (nI (at0 + 1))), (65, (nI (ne + 1))), (66, (nI lk)), (15, (nI fa149)), (16, pl150), (27, (nI nd151)), (31, (nI wr153)), (64, (nI at148)), (65, (nI (ne + 1))), (66, (nI lk152))]) (l2 := [(15, (nI fa149)), (16, pl150), (27, (nI nd151)), (31, (nI wr153)), (64, (nI at148)), (65, (nI (ne + 1))), (66, (nI lk152))]) (V := [(nI fa149), pl150, (nI nd151), (nI wr153), (nI at148), (nI (ne + 1)), (nI lk152), (nI fa149), pl150, (nI nd151), (nI wr153), (nI at148), (nI (ne + 1)), (nI lk152), (nI fa149), pl150, (nI nd151), (nI wr153), (nI at148), (nI (ne + 1)), (nI lk152)]) rfl rfl rfl hP
        have hD : va_D A (mW G h0 a (upd (upd (upd (upd (upd (upd (upd F 15 (nI fa149)) 16 pl150) 27 (nI nd151)) 31 (nI wr153)) 64 (nI at148)) 65 (nI (ne + 1))) 66 (nI lk152)) (updA X155 2 K)) := mW_D hD
        refine W.widen (k := 0) (n := 0) (Nat.le_of_ble_eq_true rfl) (Nat.le_of_ble_eq_true rfl) ?_
        refine W.eq (g2 := F0 m 67 ls [.int (nI r154), .int (nI at0), .int (nI at0), .int 17, .ref h0]) rfl ?_
        have hkp170 : Kp B X155 wr153 T := (Kp.trans hkp1 h168)
        rcases Nat.eq_zero_or_pos fa149 with e171 | e171
        · subst e171
          have hP : va_P G.1 pCl (mW G h0 a (upd (upd (upd (upd (upd (upd (upd F 15 0) 16 pl150) 27 (nI nd151)) 31 (nI wr153)) 64 (nI at148)) 65 (nI (ne + 1))) 66 (nI lk152)) (updA X155 2 K)) _ := hP
          have hD : va_D A (mW G h0 a (upd (upd (upd (upd (upd (upd (upd F 15 0) 16 pl150) 27 (nI nd151)) 31 (nI wr153)) 64 (nI at148)) 65 (nI (ne + 1))) 66 (nI lk152)) (updA X155 2 K)) := mW_D hD
          obtain ⟨hlw172, hf173, hc174⟩ := h169 rfl
          have hlo175 : Low B X155 nd wr := (Low.trans hlo2 hlw172 (by omega) (by omega))
          have hm176 := Frs.mem hf173
          refine lv_iconst (v := (-1)) hx hb dX12_front_67 (by decide) ?_
          have hP : va_P G.1 pCl (mW G h0 a (upd (upd (upd (upd (upd (upd (upd (upd F 15 0) 16 pl150) 27 (nI nd151)) 31 (nI wr153)) 64 (nI at148)) 65 (nI (ne + 1))) 66 (nI lk152)) 27 (nI nd151)) (updA X155 2 K)) _ := mW_to (F := F) (l1 := [(15, 0), (16, pl150), (27, (nI nd151)), (31, (nI wr153)), (64, (nI at148)), (65, (nI (ne + 1))), (66, (nI lk152))]) (l2 := [(15, 0), (16, pl150), (27, (nI nd151)), (31, (nI wr153)), (64, (nI at148)), (65, (nI (ne + 1))), (66, (nI lk152)), (27, (nI nd151))]) (V := [0, pl150, (nI nd151), (nI wr153), (nI at148), (nI (ne + 1)), (nI lk152), 0, pl150, (nI nd151), (nI wr153), (nI at148), (nI (ne + 1)), (nI lk152), (nI nd151)]) rfl rfl rfl hP
          have hD : va_D A (mW G h0 a (upd (upd (upd (upd (upd (upd (upd (upd F 15 0) 16 pl150) 27 (nI nd151)) 31 (nI wr153)) 64 (nI at148)) 65 (nI (ne + 1))) 66 (nI lk152)) 27 (nI nd151)) (updA X155 2 K)) := mW_D hD
          refine pc_V0 (G := G) (As := [.int 17, .int (nI at0), .int (nI at0), .int (nI r154), .int (-1)]) (rest := []) hx hb hml hown hq hE hX pX0_al hP hD hS hA hl.1 (R_nodeB l G h0 a (upd (upd (upd (upd (upd (upd (upd F 15 0) 16 pl150) 27 (nI nd151)) 31 (nI wr153)) 64 (nI at148)) 65 (nI (ne + 1))) 66 (nI lk152)) X155 17 (nI at0) (nI at0) (nI r154) (-1) nd151 K (by omega)) (gV pw_1650 pw_1651 pw_1652 pw_1523 pw_1589) hV_X12_node 0 9 rfl rfl rfl rfl (Nat.le_of_ble_eq_true rfl) dX12_front_68 ⟨Nat.le_of_ble_eq_true rfl, Nat.le_of_ble_eq_true rfl⟩ ⟨(by show 2 + 1 ≤ (20 * n + 14); omega), (by show 8 + (7 + 11) + 60 ≤ (1000 * n + 40 * 14); omega)⟩ (fun v179 u177 H locs hw178 hP hD hS => ?_)
          obtain ⟨X180, rfl⟩ : ∃ z, z = u177 := ⟨_, rfl⟩
          obtain ⟨hw178, h181⟩ := hw178
          have h181 : NewN X155 X180 nd151 17 (nI at0) (nI at0) (nI r154) (-1) := h181
          obtain rfl : v179 = some (.int (nI nd151)) := hw178
          have hP : va_P G.1 pCl (mW G h0 a (upd (upd (upd (upd (upd (upd (upd F 15 0) 16 pl150) 27 (nI (nd151 + 1))) 31 (nI wr153)) 64 (nI at148)) 65 (nI (ne + 1))) 66 (nI lk152)) (updA X180 2 K)) _ := mW_to (F := F) (l1 := [(15, 0), (16, pl150), (27, (nI nd151)), (31, (nI wr153)), (64, (nI at148)), (65, (nI (ne + 1))), (66, (nI lk152)), (27, (nI (nd151 + 1)))]) (l2 := [(15, 0), (16, pl150), (27, (nI (nd151 + 1))), (31, (nI wr153)), (64, (nI at148)), (65, (nI (ne + 1))), (66, (nI lk152))]) (V := [0, pl150, (nI (nd151 + 1)), (nI wr153), (nI at148), (nI (ne + 1)), (nI lk152), (nI (nd151 + 1)), 0, pl150, (nI (nd151 + 1)), (nI wr153), (nI at148), (nI (ne + 1)), (nI lk152)]) rfl rfl rfl hP
          have hD : va_D A (mW G h0 a (upd (upd (upd (upd (upd (upd (upd F 15 0) 16 pl150) 27 (nI (nd151 + 1))) 31 (nI wr153)) 64 (nI at148)) 65 (nI (ne + 1))) 66 (nI lk152)) (updA X180 2 K)) := mW_D hD
          refine W.widen (k := 0) (n := 0) (Nat.le_of_ble_eq_true rfl) (Nat.le_of_ble_eq_true rfl) ?_
          refine W.eq (g2 := F0 m 71 ls [.int (nI nd151)]) rfl ?_
          have hkp182 : Kp B X180 wr153 T := (Kp.new hkp170 h181)
          have hlo183 : Low B X180 nd wr := (Low.new hlo175 h181 (by omega))
          have hc184 : kcl 1 (X180 9 r154) = true := by rw [h181.2.1 9 r154 (by omega)]; exact hc174
          have hf185 : Frs K T wr153 X180 nd (nd151 + 1) nd151 [(nd151, (210 + lk152 - (10 * ne + lk)))] := (Frs.new1 (k := 17) hf173 (by omega) (by omega) (by omega) h181 rfl rfl (by decide) (by decide) (by omega) (by omega) (by decide) (by simp) ⟨by decide, by decide, by decide, by decide⟩ hc174 (newOK.m1 (by decide)) (newOK.m1 (by decide)) (newOK.m1 (by decide)) (by omega))
          have hn186 : Nd X180 nd151 17 (nI r154) (-1) (-1) (-1) := (NewN.toNd h181)
          have hf187 : Frs K T wr153 X180 nd (nd151 + 1) 20000 [(nd151, (210 + lk152 - (10 * ne + lk)))] := (Frs.fin (k := 17) hf185 hn186 rfl (by decide) (fun _ => nI_m1 (by omega)) (fun h => absurd h (by decide)) (fun h => absurd h (by decide)) (fun h => absurd h (by decide)))
          refine lv_istore_n (lv' := [(3, .int (nI nd151)), (2, .int (nI at0)), (1, .int (K at0)), (0, .ref h0)]) hx hb dX12_front_71 rfl hl (by decide) rfl (fun ls hl => ?_)
          refine lv_aload_n hx hb dX12_front_72 rfl (lv_at hl 3 rfl) ?_
          refine lv_dup hx hb dX12_front_73 rfl ?_
          refine r_get (v := .int (nI (ne + 1))) hx hb hown hq hE hP 65 366 tFX12_65 (by decide) pw_1612 rfl dX12_front_74 ?_
          refine lv_iconst (v := 1) hx hb dX12_front_77 (by decide) ?_
          refine lv_isub hx hb dX12_front_78 ?_
          refine lv_topi (fun x188 e189 => ?_)
          obtain rfl : x188 = nI ((ne + 1) - 1) := e189.trans (nI_subN (a := 1) (b := (ne + 1)) (by omega))
          refine r_put (v := (nI ((ne + 1) - 1))) (ty := .int) hx hb hown hq hE hP hD hS 65 366 tFX12_65 (by decide) pw_1612 (by decide) rfl rfl (ms_65 a _ _) dX12_front_79 (fun H locs hP hD hS => ?_)
          refine lv_iload_n hx hb dX12_front_82 rfl (lv_at hl 0 rfl) ?_
          have hz190 : at0 ≤ at148 := (by omega)
          have hz191 : at148 ≤ T := (by omega)
          have hz192 : 0 ≤ 100 := (by omega)
          have hz193 : nd ≤ (nd151 + 1) := (by omega)
          have hz194 : (nd151 + 1) + 2 * at0 ≤ nd + 2 * at148 + 100000 * 0 := (by omega)
          have hz195 : (nd151 + 1) + 2 * at0 ≤ nd + 2 * at148 + 40 * (21 - ne) := (by omega)
          have hz196 : wr ≤ wr153 := (by omega)
          have hz197 : wr153 + at0 ≤ wr + at148 := (by omega)
          have hz198 : lk ≤ lk152 := (by omega)
          have hz199 : lk152 ≤ 60 + 100 * 0 := (by omega)
          have hz200 : at0 + 1 ≤ at148 + 0 := (by omega)
          have hz201 : nd151 ≤ (nd151 + 1) := (by omega)
          have hz202 : Kp B X180 wr153 T := hkp182
          have hz203 : If (0 = 0) (Low B X180 nd wr ∧ Frs K T wr153 X180 nd (nd151 + 1) 20000 [(nd151, (210 + lk152 - (10 * ne + lk)))] ∧ kcl 1 (X180 9 nd151) = true) := (fun _ => ⟨hlo183, Frs.up hf187 (by omega), (by rw [hn186.1]; decide)⟩)
          have hP : va_P G.1 pCl (mW G h0 a (upd (upd (upd (upd (upd (upd (upd F 15 (nI 0)) 16 pl150) 27 (nI (nd151 + 1))) 31 (nI wr153)) 64 (nI at148)) 65 (nI ne)) 66 (nI lk152)) (updA X180 2 K)) _ := mW_to (F := F) (l1 := [(15, 0), (16, pl150), (27, (nI (nd151 + 1))), (31, (nI wr153)), (64, (nI at148)), (65, (nI (ne + 1))), (66, (nI lk152)), (65, (nI ((ne + 1) - 1)))]) (l2 := [(15, (nI 0)), (16, pl150), (27, (nI (nd151 + 1))), (31, (nI wr153)), (64, (nI at148)), (65, (nI ne)), (66, (nI lk152))]) (V := [(nI 0), pl150, (nI (nd151 + 1)), (nI wr153), (nI at148), (nI ne), (nI lk152), (nI ne), (nI 0), pl150, (nI (nd151 + 1)), (nI wr153), (nI at148), (nI ne), (nI lk152)]) rfl rfl rfl hP
          have hD : va_D A (mW G h0 a (upd (upd (upd (upd (upd (upd (upd F 15 (nI 0)) 16 pl150) 27 (nI (nd151 + 1))) 31 (nI wr153)) 64 (nI at148)) 65 (nI ne)) 66 (nI lk152)) (updA X180 2 K)) := mW_D hD
          exact W.iret (v := (nI nd151)) hx hb hr (fun t9 ht9 hW9 => ⟨⟨_, (at148, 0, pl150, (nd151 + 1), lk152, wr153, nd151, X180), rfl, ⟨rfl, hz190, hz191, hz192, hz193, hz194, hz195, hz196, hz197, hz198, hz199, hz200, hz201, hz202, hz203⟩, by rw [ht9]; exact hP, hD⟩, hS.F ht9⟩) hS.2.2 dX12_front_83
        · have e171 := e171
          refine lv_iconst (v := (-1)) hx hb dX12_front_67 (by decide) ?_
          have hP : va_P G.1 pCl (mW G h0 a (upd (upd (upd (upd (upd (upd (upd (upd F 15 (nI fa149)) 16 pl150) 27 (nI nd151)) 31 (nI wr153)) 64 (nI at148)) 65 (nI (ne + 1))) 66 (nI lk152)) 27 (nI nd151)) (updA X155 2 K)) _ := mW_to (F := F) (l1 := [(15, (nI fa149)), (16, pl150), (27, (nI nd151)), (31, (nI wr153)), (64, (nI at148)), (65, (nI (ne + 1))), (66, (nI lk152))]) (l2 := [(15, (nI fa149)), (16, pl150), (27, (nI nd151)), (31, (nI wr153)), (64, (nI at148)), (65, (nI (ne + 1))), (66, (nI lk152)), (27, (nI nd151))]) (V := [(nI fa149), pl150, (nI nd151), (nI wr153), (nI at148), (nI (ne + 1)), (nI lk152), (nI fa149), pl150, (nI nd151), (nI wr153), (nI at148), (nI (ne + 1)), (nI lk152), (nI nd151)]) rfl rfl rfl hP
          have hD : va_D A (mW G h0 a (upd (upd (upd (upd (upd (upd (upd (upd F 15 (nI fa149)) 16 pl150) 27 (nI nd151)) 31 (nI wr153)) 64 (nI at148)) 65 (nI (ne + 1))) 66 (nI lk152)) 27 (nI nd151)) (updA X155 2 K)) := mW_D hD
          refine pc_V0 (G := G) (As := [.int 17, .int (nI at0), .int (nI at0), .int (nI r154), .int (-1)]) (rest := []) hx hb hml hown hq hE hX pX0_al hP hD hS hA hl.1 (R_nodeB l G h0 a (upd (upd (upd (upd (upd (upd (upd F 15 (nI fa149)) 16 pl150) 27 (nI nd151)) 31 (nI wr153)) 64 (nI at148)) 65 (nI (ne + 1))) 66 (nI lk152)) X155 17 (nI at0) (nI at0) (nI r154) (-1) nd151 K (by omega)) (gV pw_1650 pw_1651 pw_1652 pw_1523 pw_1589) hV_X12_node 0 9 rfl rfl rfl rfl (Nat.le_of_ble_eq_true rfl) dX12_front_68 ⟨Nat.le_of_ble_eq_true rfl, Nat.le_of_ble_eq_true rfl⟩ ⟨(by show 2 + 1 ≤ (20 * n + 14); omega), (by show 8 + (7 + 11) + 60 ≤ (1000 * n + 40 * 14); omega)⟩ (fun v206 u204 H locs hw205 hP hD hS => ?_)
          obtain ⟨X207, rfl⟩ : ∃ z, z = u204 := ⟨_, rfl⟩
          obtain ⟨hw205, h208⟩ := hw205
          have h208 : NewN X155 X207 nd151 17 (nI at0) (nI at0) (nI r154) (-1) := h208
          obtain rfl : v206 = some (.int (nI nd151)) := hw205
          have hP : va_P G.1 pCl (mW G h0 a (upd (upd (upd (upd (upd (upd (upd F 15 (nI fa149)) 16 pl150) 27 (nI (nd151 + 1))) 31 (nI wr153)) 64 (nI at148)) 65 (nI (ne + 1))) 66 (nI lk152)) (updA X207 2 K)) _ := mW_to (F := F) (l1 := [(15, (nI fa149)), (16, pl150), (27, (nI nd151)), (31, (nI wr153)), (64, (nI at148)), (65, (nI (ne + 1))), (66, (nI lk152)), (27, (nI (nd151 + 1)))]) (l2 := [(15, (nI fa149)), (16, pl150), (27, (nI (nd151 + 1))), (31, (nI wr153)), (64, (nI at148)), (65, (nI (ne + 1))), (66, (nI lk152))]) (V := [(nI fa149), pl150, (nI (nd151 + 1)), (nI wr153), (nI at148), (nI (ne + 1)), (nI lk152), (nI (nd151 + 1)), (nI fa149), pl150, (nI (nd151 + 1)), (nI wr153), (nI at148), (nI (ne + 1)), (nI lk152)]) rfl rfl rfl hP
          have hD : va_D A (mW G h0 a (upd (upd (upd (upd (upd (upd (upd F 15 (nI fa149)) 16 pl150) 27 (nI (nd151 + 1))) 31 (nI wr153)) 64 (nI at148)) 65 (nI (ne + 1))) 66 (nI lk152)) (updA X207 2 K)) := mW_D hD
          refine W.widen (k := 0) (n := 0) (Nat.le_of_ble_eq_true rfl) (Nat.le_of_ble_eq_true rfl) ?_
          refine W.eq (g2 := F0 m 71 ls [.int (nI nd151)]) rfl ?_
          have hkp209 : Kp B X207 wr153 T := (Kp.new hkp170 h208)
          refine lv_istore_n (lv' := [(3, .int (nI nd151)), (2, .int (nI at0)), (1, .int (K at0)), (0, .ref h0)]) hx hb dX12_front_71 rfl hl (by decide) rfl (fun ls hl => ?_)
          refine lv_aload_n hx hb dX12_front_72 rfl (lv_at hl 3 rfl) ?_
          refine lv_dup hx hb dX12_front_73 rfl ?_
          refine r_get (v := .int (nI (ne + 1))) hx hb hown hq hE hP 65 366 tFX12_65 (by decide) pw_1612 rfl dX12_front_74 ?_
          refine lv_iconst (v := 1) hx hb dX12_front_77 (by decide) ?_
          refine lv_isub hx hb dX12_front_78 ?_
          refine lv_topi (fun x210 e211 => ?_)
          obtain rfl : x210 = nI ((ne + 1) - 1) := e211.trans (nI_subN (a := 1) (b := (ne + 1)) (by omega))
          refine r_put (v := (nI ((ne + 1) - 1))) (ty := .int) hx hb hown hq hE hP hD hS 65 366 tFX12_65 (by decide) pw_1612 (by decide) rfl rfl (ms_65 a _ _) dX12_front_79 (fun H locs hP hD hS => ?_)
          refine lv_iload_n hx hb dX12_front_82 rfl (lv_at hl 0 rfl) ?_
          have hz212 : at0 ≤ at148 := (by omega)
          have hz213 : at148 ≤ T := (by omega)
          have hz214 : fa149 ≤ 100 := (by omega)
          have hz215 : nd ≤ (nd151 + 1) := (by omega)
          have hz216 : (nd151 + 1) + 2 * at0 ≤ nd + 2 * at148 + 100000 * fa149 := (by omega)
          have hz217 : (nd151 + 1) + 2 * at0 ≤ nd + 2 * at148 + 40 * (21 - ne) := (by omega)
          have hz218 : wr ≤ wr153 := (by omega)
          have hz219 : wr153 + at0 ≤ wr + at148 := (by omega)
          have hz220 : lk ≤ lk152 := (by omega)
          have hz221 : lk152 ≤ 60 + 100 * fa149 := (by omega)
          have hz222 : at0 + 1 ≤ at148 + fa149 := (by omega)
          have hz223 : nd151 ≤ (nd151 + 1) := (by omega)
          have hz224 : Kp B X207 wr153 T := hkp209
          have hz225 : If (fa149 = 0) (Low B X207 nd wr ∧ Frs K T wr153 X207 nd (nd151 + 1) 20000 [(nd151, (210 + lk152 - (10 * ne + lk)))] ∧ kcl 1 (X207 9 nd151) = true) := (fun e => absurd e (by omega))
          have hP : va_P G.1 pCl (mW G h0 a (upd (upd (upd (upd (upd (upd (upd F 15 (nI fa149)) 16 pl150) 27 (nI (nd151 + 1))) 31 (nI wr153)) 64 (nI at148)) 65 (nI ne)) 66 (nI lk152)) (updA X207 2 K)) _ := mW_to (F := F) (l1 := [(15, (nI fa149)), (16, pl150), (27, (nI (nd151 + 1))), (31, (nI wr153)), (64, (nI at148)), (65, (nI (ne + 1))), (66, (nI lk152)), (65, (nI ((ne + 1) - 1)))]) (l2 := [(15, (nI fa149)), (16, pl150), (27, (nI (nd151 + 1))), (31, (nI wr153)), (64, (nI at148)), (65, (nI ne)), (66, (nI lk152))]) (V := [(nI fa149), pl150, (nI (nd151 + 1)), (nI wr153), (nI at148), (nI ne), (nI lk152), (nI ne), (nI fa149), pl150, (nI (nd151 + 1)), (nI wr153), (nI at148), (nI ne), (nI lk152)]) rfl rfl rfl hP
          have hD : va_D A (mW G h0 a (upd (upd (upd (upd (upd (upd (upd F 15 (nI fa149)) 16 pl150) 27 (nI (nd151 + 1))) 31 (nI wr153)) 64 (nI at148)) 65 (nI ne)) 66 (nI lk152)) (updA X207 2 K)) := mW_D hD
          exact W.iret (v := (nI nd151)) hx hb hr (fun t9 ht9 hW9 => ⟨⟨_, (at148, fa149, pl150, (nd151 + 1), lk152, wr153, nd151, X207), rfl, ⟨rfl, hz212, hz213, hz214, hz215, hz216, hz217, hz218, hz219, hz220, hz221, hz222, hz223, hz224, hz225⟩, by rw [ht9]; exact hP, hD⟩, hS.F ht9⟩) hS.2.2 dX12_front_83
      · have e141 := e141
        refine lv_aload_n hx hb dX12_front_48 rfl (lv_at hl 2 rfl) ?_
        refine lv_dup hx hb dX12_front_49 rfl ?_
        refine r_get (v := .int (nI at0)) hx hb hown hq hE hP 64 343 tFX12_64 (by decide) pw_1592 rfl dX12_front_50 ?_
        refine lv_iconst (v := 1) hx hb dX12_front_53 (by decide) ?_
        refine lv_iadd hx hb dX12_front_54 ?_
        refine lv_topi (fun x226 e227 => ?_)
        obtain rfl : x226 = nI (at0 + 1) := e227.trans (nI_add (at0) (1))
        refine r_put (v := (nI (at0 + 1))) (ty := .int) hx hb hown hq hE hP hD hS 64 343 tFX12_64 (by decide) pw_1592 (by decide) rfl rfl (ms_64 a _ _) dX12_front_55 (fun H locs hP hD hS => ?_)
        refine lv_aload_n hx hb dX12_front_58 rfl (lv_at hl 2 rfl) ?_
        refine lv_bipush (v := 17) hx hb dX12_front_59 (by decide) ?_
        refine lv_iload_n hx hb dX12_front_61 rfl (lv_at hl 0 rfl) ?_
        refine lv_iload_n hx hb dX12_front_62 rfl (lv_at hl 0 rfl) ?_
        refine lv_aload_n hx hb dX12_front_63 rfl (lv_at hl 2 rfl) ?_
        have hP : va_P G.1 pCl (mW G h0 a (upd (upd (upd (upd (upd (upd (upd (upd (upd F 15 (nI fa135)) 16 pl136) 27 (nI nd)) 31 (nI wr)) 64 (nI (at0 + 1))) 65 (nI (ne + 1))) 66 (nI lk)) 15 (nI fa135)) 64 (nI (at0 + 1))) (updA (updA B 2 K) 2 K)) _ := mW_to (F := F) (l1 := [(15, (nI fa135)), (16, pl136), (27, (nI nd)), (31, (nI wr)), (64, (nI at0)), (65, (nI (ne + 1))), (66, (nI lk)), (64, (nI (at0 + 1)))]) (l2 := [(15, (nI fa135)), (16, pl136), (27, (nI nd)), (31, (nI wr)), (64, (nI (at0 + 1))), (65, (nI (ne + 1))), (66, (nI lk)), (15, (nI fa135)), (64, (nI (at0 + 1)))]) (V := [(nI fa135), pl136, (nI nd), (nI wr), (nI (at0 + 1)), (nI (ne + 1)), (nI lk), (nI (at0 + 1)), (nI fa135), pl136, (nI nd), (nI wr), (nI (at0 + 1)), (nI (ne + 1)), (nI lk), (nI fa135), (nI (at0 + 1))]) rfl rfl (show (updA B 2 K) = (updA (updA B 2 K) 2 K) from updsA_eq2 (F := B) (l1 := [(2, K)]) (l2 := [(2, K), (2, K)]) (V := [K, K, K]) rfl rfl) hP
        have hD : va_D A (mW G h0 a (upd (upd (upd (upd (upd (upd (upd (upd (upd F 15 (nI fa135)) 16 pl136) 27 (nI nd)) 31 (nI wr)) 64 (nI (at0 + 1))) 65 (nI (ne + 1))) 66 (nI lk)) 15 (nI fa135)) 64 (nI (at0 + 1))) (updA (updA B 2 K) 2 K)) := mW_D hD
        refine pc_V0 (G := G) (As := []) (rest := [.int (nI at0), .int (nI at0), .int 17, .ref h0]) hx hb hml hown hq hE hX pX0_al hP hD hS hA hl.1 (RF_front l G h0 a (upd (upd (upd (upd (upd (upd (upd F 15 (nI fa135)) 16 pl136) 27 (nI nd)) 31 (nI wr)) 64 (nI (at0 + 1))) 65 (nI (ne + 1))) 66 (nI lk)) (updA B 2 K) (at0 + 1) T fa135 K (by omega) (by omega) hK (by omega) e141) (gV pw_1664 pw_1665 pw_1666 pw_1523 pw_1660) hV_X12_front 0 9 rfl rfl rfl rfl (Nat.le_of_ble_eq_true rfl) dX12_front_64 ⟨Nat.le_of_ble_eq_true rfl, Nat.le_of_ble_eq_true rfl⟩ ⟨(by show 4 + 1 ≤ (20 * n + 14); omega), (by show 8 + (4 + 11) + 107 ≤ (1000 * n + 40 * 14); omega)⟩ (fun v230 u228 H locs hw229 hP hD hS => ?_)
        obtain rfl : v230 = some (.int 0) := hw229
        have hP : va_P G.1 pCl (mW G h0 a (upd (upd (upd (upd (upd (upd (upd F 15 (nI fa135)) 16 pl136) 27 (nI nd)) 31 (nI wr)) 64 (nI (at0 + 1))) 65 (nI (ne + 1))) 66 (nI lk)) (updA B 2 K)) _ := mW_to (F := F) (l1 := [(15, (nI fa135)), (16, pl136), (27, (nI nd)), (31, (nI wr)), (64, (nI (at0 + 1))), (65, (nI (ne + 1))), (66, (nI lk)), (15, (nI fa135)), (64, (nI (at0 + 1)))]) (l2 := [(15, (nI fa135)), (16, pl136), (27, (nI nd)), (31, (nI wr)), (64, (nI (at0 + 1))), (65, (nI (ne + 1))), (66, (nI lk))]) (V := [(nI fa135), pl136, (nI nd), (nI wr), (nI (at0 + 1)), (nI (ne + 1)), (nI lk), (nI fa135), (nI (at0 + 1)), (nI fa135), pl136, (nI nd), (nI wr), (nI (at0 + 1)), (nI (ne + 1)), (nI lk)]) rfl rfl (show (updA (updA B 2 K) 2 K) = (updA B 2 K) from updsA_eq2 (F := B) (l1 := [(2, K), (2, K)]) (l2 := [(2, K)]) (V := [K, K, K]) rfl rfl) hP
        have hD : va_D A (mW G h0 a (upd (upd (upd (upd (upd (upd (upd F 15 (nI fa135)) 16 pl136) 27 (nI nd)) 31 (nI wr)) 64 (nI (at0 + 1))) 65 (nI (ne + 1))) 66 (nI lk)) (updA B 2 K)) := mW_D hD
        refine W.widen (k := 0) (n := 0) (Nat.le_of_ble_eq_true rfl) (Nat.le_of_ble_eq_true rfl) ?_
        refine W.eq (g2 := F0 m 67 ls [.int 0, .int (nI at0), .int (nI at0), .int 17, .ref h0]) rfl ?_
        refine lv_iconst (v := (-1)) hx hb dX12_front_67 (by decide) ?_
        have hP : va_P G.1 pCl (mW G h0 a (upd (upd (upd (upd (upd (upd (upd (upd F 15 (nI fa135)) 16 pl136) 27 (nI nd)) 31 (nI wr)) 64 (nI (at0 + 1))) 65 (nI (ne + 1))) 66 (nI lk)) 27 (nI nd)) (updA B 2 K)) _ := mW_to (F := F) (l1 := [(15, (nI fa135)), (16, pl136), (27, (nI nd)), (31, (nI wr)), (64, (nI (at0 + 1))), (65, (nI (ne + 1))), (66, (nI lk))]) (l2 := [(15, (nI fa135)), (16, pl136), (27, (nI nd)), (31, (nI wr)), (64, (nI (at0 + 1))), (65, (nI (ne + 1))), (66, (nI lk)), (27, (nI nd))]) (V := [(nI fa135), pl136, (nI nd), (nI wr), (nI (at0 + 1)), (nI (ne + 1)), (nI lk), (nI fa135), pl136, (nI nd), (nI wr), (nI (at0 + 1)), (nI (ne + 1)), (nI lk), (nI nd)]) rfl rfl rfl hP
        have hD : va_D A (mW G h0 a (upd (upd (upd (upd (upd (upd (upd (upd F 15 (nI fa135)) 16 pl136) 27 (nI nd)) 31 (nI wr)) 64 (nI (at0 + 1))) 65 (nI (ne + 1))) 66 (nI lk)) 27 (nI nd)) (updA B 2 K)) := mW_D hD
        refine pc_V0 (G := G) (As := [.int 17, .int (nI at0), .int (nI at0), .int 0, .int (-1)]) (rest := []) hx hb hml hown hq hE hX pX0_al hP hD hS hA hl.1 (R_nodeB l G h0 a (upd (upd (upd (upd (upd (upd (upd F 15 (nI fa135)) 16 pl136) 27 (nI nd)) 31 (nI wr)) 64 (nI (at0 + 1))) 65 (nI (ne + 1))) 66 (nI lk)) B 17 (nI at0) (nI at0) 0 (-1) nd K (by omega)) (gV pw_1650 pw_1651 pw_1652 pw_1523 pw_1589) hV_X12_node 0 9 rfl rfl rfl rfl (Nat.le_of_ble_eq_true rfl) dX12_front_68 ⟨Nat.le_of_ble_eq_true rfl, Nat.le_of_ble_eq_true rfl⟩ ⟨(by show 2 + 1 ≤ (20 * n + 14); omega), (by show 8 + (7 + 11) + 60 ≤ (1000 * n + 40 * 14); omega)⟩ (fun v233 u231 H locs hw232 hP hD hS => ?_)
        obtain ⟨X234, rfl⟩ : ∃ z, z = u231 := ⟨_, rfl⟩
        obtain ⟨hw232, h235⟩ := hw232
        have h235 : NewN B X234 nd 17 (nI at0) (nI at0) 0 (-1) := h235
        obtain rfl : v233 = some (.int (nI nd)) := hw232
        have hP : va_P G.1 pCl (mW G h0 a (upd (upd (upd (upd (upd (upd (upd F 15 (nI fa135)) 16 pl136) 27 (nI (nd + 1))) 31 (nI wr)) 64 (nI (at0 + 1))) 65 (nI (ne + 1))) 66 (nI lk)) (updA X234 2 K)) _ := mW_to (F := F) (l1 := [(15, (nI fa135)), (16, pl136), (27, (nI nd)), (31, (nI wr)), (64, (nI (at0 + 1))), (65, (nI (ne + 1))), (66, (nI lk)), (27, (nI (nd + 1)))]) (l2 := [(15, (nI fa135)), (16, pl136), (27, (nI (nd + 1))), (31, (nI wr)), (64, (nI (at0 + 1))), (65, (nI (ne + 1))), (66, (nI lk))]) (V := [(nI fa135), pl136, (nI (nd + 1)), (nI wr), (nI (at0 + 1)), (nI (ne + 1)), (nI lk), (nI (nd + 1)), (nI fa135), pl136, (nI (nd + 1)), (nI wr), (nI (at0 + 1)), (nI (ne + 1)), (nI lk)]) rfl rfl rfl hP
        have hD : va_D A (mW G h0 a (upd (upd (upd (upd (upd (upd (upd F 15 (nI fa135)) 16 pl136) 27 (nI (nd + 1))) 31 (nI wr)) 64 (nI (at0 + 1))) 65 (nI (ne + 1))) 66 (nI lk)) (updA X234 2 K)) := mW_D hD
        refine W.widen (k := 0) (n := 0) (Nat.le_of_ble_eq_true rfl) (Nat.le_of_ble_eq_true rfl) ?_
        refine W.eq (g2 := F0 m 71 ls [.int (nI nd)]) rfl ?_
        have hkp236 : Kp B X234 wr T := (Kp.new hkp1 h235)
        refine lv_istore_n (lv' := [(3, .int (nI nd)), (2, .int (nI at0)), (1, .int (K at0)), (0, .ref h0)]) hx hb dX12_front_71 rfl hl (by decide) rfl (fun ls hl => ?_)
        refine lv_aload_n hx hb dX12_front_72 rfl (lv_at hl 3 rfl) ?_
        refine lv_dup hx hb dX12_front_73 rfl ?_
        refine r_get (v := .int (nI (ne + 1))) hx hb hown hq hE hP 65 366 tFX12_65 (by decide) pw_1612 rfl dX12_front_74 ?_
        refine lv_iconst (v := 1) hx hb dX12_front_77 (by decide) ?_
        refine lv_isub hx hb dX12_front_78 ?_
        refine lv_topi (fun x237 e238 => ?_)
        obtain rfl : x237 = nI ((ne + 1) - 1) := e238.trans (nI_subN (a := 1) (b := (ne + 1)) (by omega))
        refine r_put (v := (nI ((ne + 1) - 1))) (ty := .int) hx hb hown hq hE hP hD hS 65 366 tFX12_65 (by decide) pw_1612 (by decide) rfl rfl (ms_65 a _ _) dX12_front_79 (fun H locs hP hD hS => ?_)
        refine lv_iload_n hx hb dX12_front_82 rfl (lv_at hl 0 rfl) ?_
        have hz239 : at0 ≤ (at0 + 1) := (by omega)
        have hz240 : (at0 + 1) ≤ T := (by omega)
        have hz241 : fa135 ≤ 100 := (by omega)
        have hz242 : nd ≤ (nd + 1) := (by omega)
        have hz243 : (nd + 1) + 2 * at0 ≤ nd + 2 * (at0 + 1) + 100000 * fa135 := (by omega)
        have hz244 : (nd + 1) + 2 * at0 ≤ nd + 2 * (at0 + 1) + 40 * (21 - ne) := (by omega)
        have hz245 : wr ≤ wr := (by omega)
        have hz246 : wr + at0 ≤ wr + (at0 + 1) := (by omega)
        have hz247 : lk ≤ lk := (by omega)
        have hz248 : lk ≤ 60 + 100 * fa135 := (by omega)
        have hz249 : at0 + 1 ≤ (at0 + 1) + fa135 := (by omega)
        have hz250 : nd ≤ (nd + 1) := (by omega)
        have hz251 : Kp B X234 wr T := hkp236
        have hz252 : If (fa135 = 0) (Low B X234 nd wr ∧ Frs K T wr X234 nd (nd + 1) 20000 [(nd, (210 + lk - (10 * ne + lk)))] ∧ kcl 1 (X234 9 nd) = true) := (fun e => absurd e (by omega))
        have hP : va_P G.1 pCl (mW G h0 a (upd (upd (upd (upd (upd (upd (upd F 15 (nI fa135)) 16 pl136) 27 (nI (nd + 1))) 31 (nI wr)) 64 (nI (at0 + 1))) 65 (nI ne)) 66 (nI lk)) (updA X234 2 K)) _ := mW_to (F := F) (l1 := [(15, (nI fa135)), (16, pl136), (27, (nI (nd + 1))), (31, (nI wr)), (64, (nI (at0 + 1))), (65, (nI (ne + 1))), (66, (nI lk)), (65, (nI ((ne + 1) - 1)))]) (l2 := [(15, (nI fa135)), (16, pl136), (27, (nI (nd + 1))), (31, (nI wr)), (64, (nI (at0 + 1))), (65, (nI ne)), (66, (nI lk))]) (V := [(nI fa135), pl136, (nI (nd + 1)), (nI wr), (nI (at0 + 1)), (nI ne), (nI lk), (nI ne), (nI fa135), pl136, (nI (nd + 1)), (nI wr), (nI (at0 + 1)), (nI ne), (nI lk)]) rfl rfl rfl hP
        have hD : va_D A (mW G h0 a (upd (upd (upd (upd (upd (upd (upd F 15 (nI fa135)) 16 pl136) 27 (nI (nd + 1))) 31 (nI wr)) 64 (nI (at0 + 1))) 65 (nI ne)) 66 (nI lk)) (updA X234 2 K)) := mW_D hD
        exact W.iret (v := (nI nd)) hx hb hr (fun t9 ht9 hW9 => ⟨⟨_, ((at0 + 1), fa135, pl136, (nd + 1), lk, wr, nd, X234), rfl, ⟨rfl, hz239, hz240, hz241, hz242, hz243, hz244, hz245, hz246, hz247, hz248, hz249, hz250, hz251, hz252⟩, by rw [ht9]; exact hP, hD⟩, hS.F ht9⟩) hS.2.2 dX12_front_83
    · refine lv_iload_n hx hb dX12_front_28 rfl (lv_at hl 0 rfl) ?_
      refine lv_bipush (v := 33) hx hb dX12_front_29 (by decide) ?_
      refine lv_icmp_eq (tgt := 39) hx hb dX12_front_31 (by decide) (fun c253 => ?_) (fun c253 => ?_)
      · have n254 : at0 < T := tk_lt hat hK c253 (by decide) (by decide)
        refine lv_aload_n hx hb dX12_front_39 rfl (lv_at hl 1 rfl) ?_
        refine r_get (v := .int (nI at0)) hx hb hown hq hE hP 64 343 tFX12_64 (by decide) pw_1592 rfl dX12_front_40 ?_
        refine lv_istore_n (lv' := [(2, .int (nI at0)), (1, .int (K at0)), (0, .ref h0)]) hx hb dX12_front_43 rfl hl (by decide) rfl (fun ls hl => ?_)
        refine lv_aload_n hx hb dX12_front_44 rfl (lv_at hl 2 rfl) ?_
        have hP : va_P G.1 pCl (mW G h0 a (upd (upd (upd (upd (upd (upd (upd (upd (upd F 15 0) 27 (nI nd)) 31 (nI wr)) 64 (nI at0)) 65 (nI ne)) 66 (nI lk)) 15 (nI 0)) 64 (nI at0)) 65 (nI ne)) (updA (updA B 2 K) 2 K)) _ := mW_to (F := F) (l1 := [(15, 0), (27, (nI nd)), (31, (nI wr)), (64, (nI at0)), (65, (nI ne)), (66, (nI lk))]) (l2 := [(15, 0), (27, (nI nd)), (31, (nI wr)), (64, (nI at0)), (65, (nI ne)), (66, (nI lk)), (15, (nI 0)), (64, (nI at0)), (65, (nI ne))]) (V := [(nI 0), (nI nd), (nI wr), (nI at0), (nI ne), (nI lk), (nI 0), (nI nd), (nI wr), (nI at0), (nI ne), (nI lk), (nI 0), (nI at0), (nI ne)]) rfl rfl (show (updA B 2 K) = (updA (updA B 2 K) 2 K) from updsA_eq2 (F := B) (l1 := [(2, K)]) (l2 := [(2, K), (2, K)]) (V := [K, K, K]) rfl rfl) hP
        have hD : va_D A (mW G h0 a (upd (upd (upd (upd (upd (upd (upd (upd (upd F 15 0) 27 (nI nd)) 31 (nI wr)) 64 (nI at0)) 65 (nI ne)) 66 (nI lk)) 15 (nI 0)) 64 (nI at0)) 65 (nI ne)) (updA (updA B 2 K) 2 K)) := mW_D hD
        refine pc_V0 (G := G) (As := []) (rest := []) hx hb hml hown hq hE hX pX0_al hP hD hS hA hl.1 (R_deeper l G h0 a (upd (upd (upd (upd (upd (upd F 15 0) 27 (nI nd)) 31 (nI wr)) 64 (nI at0)) 65 (nI ne)) 66 (nI lk)) (updA B 2 K) at0 T 0 K ne (by omega) (by omega) hK (by omega) (by omega)) (gV pw_1637 pw_1638 pw_1639 pw_1523 pw_1611) hV_X12_deeper 0 9 rfl rfl rfl rfl (Nat.le_of_ble_eq_true rfl) dX12_front_45 ⟨Nat.le_of_ble_eq_true rfl, Nat.le_of_ble_eq_true rfl⟩ ⟨(by show 4 + 1 ≤ (20 * n + 14); omega), (by show 8 + (1 + 11) + 103 ≤ (1000 * n + 40 * 14); omega)⟩ (fun v257 u255 H locs hw256 hP hD hS => ?_)
        obtain ⟨fa258, pl259⟩ := u255
        obtain ⟨hw256, h260, h261, h262, h263⟩ := hw256
        have h260 : 0 ≤ fa258 := h260
        have h261 : fa258 ≤ 100 := h261
        have h262 : If (0 < 0) (fa258 = 0) := h262
        have h263 : If (ne ≤ 20) (ne + 1 ≤ 20 + fa258) := h263
        obtain rfl : v257 = none := hw256
        have hP : va_P G.1 pCl (mW G h0 a (upd (upd (upd (upd (upd (upd (upd F 15 (nI fa258)) 16 pl259) 27 (nI nd)) 31 (nI wr)) 64 (nI at0)) 65 (nI (ne + 1))) 66 (nI lk)) (updA B 2 K)) _ := mW_to (F := F) (l1 := [(15, 0), (27, (nI nd)), (31, (nI wr)), (64, (nI at0)), (65, (nI ne)), (66, (nI lk)), (15, (nI fa258)), (16, pl259), (64, (nI at0)), (65, (nI (ne + 1)))]) (l2 := [(15, (nI fa258)), (16, pl259), (27, (nI nd)), (31, (nI wr)), (64, (nI at0)), (65, (nI (ne + 1))), (66, (nI lk))]) (V := [(nI fa258), (nI nd), (nI wr), (nI at0), (nI (ne + 1)), (nI lk), (nI fa258), pl259, (nI at0), (nI (ne + 1)), (nI fa258), pl259, (nI nd), (nI wr), (nI at0), (nI (ne + 1)), (nI lk)]) rfl rfl (show (updA (updA B 2 K) 2 K) = (updA B 2 K) from updsA_eq2 (F := B) (l1 := [(2, K), (2, K)]) (l2 := [(2, K)]) (V := [K, K, K]) rfl rfl) hP
        have hD : va_D A (mW G h0 a (upd (upd (upd (upd (upd (upd (upd F 15 (nI fa258)) 16 pl259) 27 (nI nd)) 31 (nI wr)) 64 (nI at0)) 65 (nI (ne + 1))) 66 (nI lk)) (updA B 2 K)) := mW_D hD
        refine W.widen (k := 0) (n := 0) (Nat.le_of_ble_eq_true rfl) (Nat.le_of_ble_eq_true rfl) ?_
        refine W.eq (g2 := F0 m 48 ls []) rfl ?_
        rcases Nat.eq_zero_or_pos fa258 with e264 | e264
        · subst e264
          have hP : va_P G.1 pCl (mW G h0 a (upd (upd (upd (upd (upd (upd (upd F 15 0) 16 pl259) 27 (nI nd)) 31 (nI wr)) 64 (nI at0)) 65 (nI (ne + 1))) 66 (nI lk)) (updA B 2 K)) _ := hP
          have hD : va_D A (mW G h0 a (upd (upd (upd (upd (upd (upd (upd F 15 0) 16 pl259) 27 (nI nd)) 31 (nI wr)) 64 (nI at0)) 65 (nI (ne + 1))) 66 (nI lk)) (updA B 2 K)) := mW_D hD
          have n265 : ne + 1 ≤ 20 := (h263 (by omega))
          refine lv_aload_n hx hb dX12_front_48 rfl (lv_at hl 2 rfl) ?_
          refine lv_dup hx hb dX12_front_49 rfl ?_
          refine r_get (v := .int (nI at0)) hx hb hown hq hE hP 64 343 tFX12_64 (by decide) pw_1592 rfl dX12_front_50 ?_
          refine lv_iconst (v := 1) hx hb dX12_front_53 (by decide) ?_
          refine lv_iadd hx hb dX12_front_54 ?_
          refine lv_topi (fun x266 e267 => ?_)
          obtain rfl : x266 = nI (at0 + 1) := e267.trans (nI_add (at0) (1))
          refine r_put (v := (nI (at0 + 1))) (ty := .int) hx hb hown hq hE hP hD hS 64 343 tFX12_64 (by decide) pw_1592 (by decide) rfl rfl (ms_64 a _ _) dX12_front_55 (fun H locs hP hD hS => ?_)
          refine lv_aload_n hx hb dX12_front_58 rfl (lv_at hl 2 rfl) ?_
          refine lv_bipush (v := 17) hx hb dX12_front_59 (by decide) ?_
          refine lv_iload_n hx hb dX12_front_61 rfl (lv_at hl 0 rfl) ?_
          refine lv_iload_n hx hb dX12_front_62 rfl (lv_at hl 0 rfl) ?_
          refine lv_aload_n hx hb dX12_front_63 rfl (lv_at hl 2 rfl) ?_
          have hP : va_P G.1 pCl (mW G h0 a (upd (upd (upd (upd (upd (upd (upd (upd (upd (upd (upd (upd (upd F 15 0) 16 pl259) 27 (nI nd)) 31 (nI wr)) 64 (nI (at0 + 1))) 65 (nI (ne + 1))) 66 (nI lk)) 15 0) 27 (nI nd)) 31 (nI wr)) 64 (nI (at0 + 1))) 65 (nI (ne + 1))) 66 (nI lk)) (updA B 2 K)) _ := mW_to (F := F) (l1 := [(15, 0), (16, pl259), (27, (nI nd)), (31, (nI wr)), (64, (nI at0)), (65, (nI (ne + 1))), (66, (nI lk)), (64, (nI (at0 + 1)))]) (l2 := [(15, 0), (16, pl259), (27, (nI nd)), (31, (nI wr)), (64, (nI (at0 + 1))), (65, (nI (ne + 1))), (66, (nI lk)), (15, 0), (27, (nI nd)), (31, (nI wr)), (64, (nI (at0 + 1))), (65, (nI (ne + 1))), (66, (nI lk))]) (V := [0, pl259, (nI nd), (nI wr), (nI (at0 + 1)), (nI (ne + 1)), (nI lk), (nI (at0 + 1)), 0, pl259, (nI nd), (nI wr), (nI (at0 + 1)), (nI (ne + 1)), (nI lk), 0, (nI nd), (nI wr), (nI (at0 + 1)), (nI (ne + 1)), (nI lk)]) rfl rfl rfl hP
          have hD : va_D A (mW G h0 a (upd (upd (upd (upd (upd (upd (upd (upd (upd (upd (upd (upd (upd F 15 0) 16 pl259) 27 (nI nd)) 31 (nI wr)) 64 (nI (at0 + 1))) 65 (nI (ne + 1))) 66 (nI lk)) 15 0) 27 (nI nd)) 31 (nI wr)) 64 (nI (at0 + 1))) 65 (nI (ne + 1))) 66 (nI lk)) (updA B 2 K)) := mW_D hD
          refine pc_V0 (G := G) (As := []) (rest := [.int (nI at0), .int (nI at0), .int 17, .ref h0]) hx hb hml hown hq hE hX pX0_al hP hD hS hA hl.1 (ihf h0 a (upd (upd (upd (upd (upd (upd (upd F 15 0) 16 pl259) 27 (nI nd)) 31 (nI wr)) 64 (nI (at0 + 1))) 65 (nI (ne + 1))) 66 (nI lk)) B (at0 + 1) T (ne + 1) nd wr lk K (by omega) (by omega) hK (by omega) (by omega) (by omega) (by omega) (hkp1).2 (by omega)) (gV pw_1664 pw_1665 pw_1666 pw_1523 pw_1660) hV_X12_front 0 9 rfl rfl rfl rfl (Nat.le_of_ble_eq_true rfl) dX12_front_64 ⟨Nat.le_of_ble_eq_true rfl, Nat.le_of_ble_eq_true rfl⟩ ⟨(by show (20 * (n - 1) + 14) + 1 ≤ (20 * n + 14); omega), (by show 8 + (4 + 11) + (1000 * (n - 1) + 40 * 14) ≤ (1000 * n + 40 * 14); omega)⟩ (fun v270 u268 H locs hw269 hP hD hS => ?_)
          obtain ⟨at271, fa272, pl273, nd274, lk275, wr276, r277, X278⟩ := u268
          obtain ⟨hw269, h279, h280, h281, h282, h283, h284, h285, h286, h287, h288, h289, h290, h291, h292⟩ := hw269
          have h279 : (at0 + 1) ≤ at271 := h279
          have h280 : at271 ≤ T := h280
          have h281 : fa272 ≤ 100 := h281
          have h282 : nd ≤ nd274 := h282
          have h283 : nd274 + 2 * (at0 + 1) ≤ nd + 2 * at271 + 100000 * fa272 := h283
          have h284 : nd274 + 2 * (at0 + 1) ≤ nd + 2 * at271 + 40 * (21 - (ne + 1)) := h284
          have h285 : wr ≤ wr276 := h285
          have h286 : wr276 + (at0 + 1) ≤ wr + at271 := h286
          have h287 : lk ≤ lk275 := h287
          have h288 : lk275 ≤ 60 + 100 * fa272 := h288
          have h289 : (at0 + 1) + 1 ≤ at271 + fa272 := h289
          have h290 : r277 ≤ nd274 := h290
          have h291 : Kp B X278 wr276 T := h291
          have h292 : If (fa272 = 0) (Low B X278 nd wr ∧ Frs K T wr276 X278 nd nd274 20000 [(r277, (210 + lk275 - (10 * (ne + 1) + lk)))] ∧ kcl 1 (X278 9 r277) = true) := h292
          obtain rfl : v270 = some (.int (nI r277)) := hw269
          have hP : va_P G.1 pCl (mW G h0 a (upd (upd (upd (upd (upd (upd (upd F 15 (nI fa272)) 16 pl273) 27 (nI nd274)) 31 (nI wr276)) 64 (nI at271)) 65 (nI (ne + 1))) 66 (nI lk275)) (updA X278 2 K)) _ := mW_to (F := F) (l1 := [(15, 0), (16, pl259), (27, (nI nd)), (31, (nI wr)), (64, (nI (at0 + 1))), (65, (nI (ne + 1))), (66, (nI lk)), (15, (nI fa272)), (16, pl273), (27, (nI nd274)), (31, (nI wr276)), (64, (nI at271)), (65, (nI (ne + 1))), (66, (nI lk275))]) (l2 := [(15, (nI fa272)), (16, pl273), (27, (nI nd274)), (31, (nI wr276)), (64, (nI at271)), (65, (nI (ne + 1))), (66, (nI lk275))]) (V := [(nI fa272), pl273, (nI nd274), (nI wr276), (nI at271), (nI (ne + 1)), (nI lk275), (nI fa272), pl273, (nI nd274), (nI wr276), (nI at271), (nI (ne + 1)), (nI lk275), (nI fa272), pl273, (nI nd274), (nI wr276), (nI at271), (nI (ne + 1)), (nI lk275)]) rfl rfl rfl hP
          have hD : va_D A (mW G h0 a (upd (upd (upd (upd (upd (upd (upd F 15 (nI fa272)) 16 pl273) 27 (nI nd274)) 31 (nI wr276)) 64 (nI at271)) 65 (nI (ne + 1))) 66 (nI lk275)) (updA X278 2 K)) := mW_D hD
          refine W.widen (k := 0) (n := 0) (Nat.le_of_ble_eq_true rfl) (Nat.le_of_ble_eq_true rfl) ?_
          refine W.eq (g2 := F0 m 67 ls [.int (nI r277), .int (nI at0), .int (nI at0), .int 17, .ref h0]) rfl ?_
          have hkp293 : Kp B X278 wr276 T := (Kp.trans hkp1 h291)
          rcases Nat.eq_zero_or_pos fa272 with e294 | e294
          · subst e294
            have hP : va_P G.1 pCl (mW G h0 a (upd (upd (upd (upd (upd (upd (upd F 15 0) 16 pl273) 27 (nI nd274)) 31 (nI wr276)) 64 (nI at271)) 65 (nI (ne + 1))) 66 (nI lk275)) (updA X278 2 K)) _ := hP
            have hD : va_D A (mW G h0 a (upd (upd (upd (upd (upd (upd (upd F 15 0) 16 pl273) 27 (nI nd274)) 31 (nI wr276)) 64 (nI at271)) 65 (nI (ne + 1))) 66 (nI lk275)) (updA X278 2 K)) := mW_D hD
            obtain ⟨hlw295, hf296, hc297⟩ := h292 rfl
            have hlo298 : Low B X278 nd wr := (Low.trans hlo2 hlw295 (by omega) (by omega))
            have hm299 := Frs.mem hf296
            refine lv_iconst (v := (-1)) hx hb dX12_front_67 (by decide) ?_
            have hP : va_P G.1 pCl (mW G h0 a (upd (upd (upd (upd (upd (upd (upd (upd F 15 0) 16 pl273) 27 (nI nd274)) 31 (nI wr276)) 64 (nI at271)) 65 (nI (ne + 1))) 66 (nI lk275)) 27 (nI nd274)) (updA X278 2 K)) _ := mW_to (F := F) (l1 := [(15, 0), (16, pl273), (27, (nI nd274)), (31, (nI wr276)), (64, (nI at271)), (65, (nI (ne + 1))), (66, (nI lk275))]) (l2 := [(15, 0), (16, pl273), (27, (nI nd274)), (31, (nI wr276)), (64, (nI at271)), (65, (nI (ne + 1))), (66, (nI lk275)), (27, (nI nd274))]) (V := [0, pl273, (nI nd274), (nI wr276), (nI at271), (nI (ne + 1)), (nI lk275), 0, pl273, (nI nd274), (nI wr276), (nI at271), (nI (ne + 1)), (nI lk275), (nI nd274)]) rfl rfl rfl hP
            have hD : va_D A (mW G h0 a (upd (upd (upd (upd (upd (upd (upd (upd F 15 0) 16 pl273) 27 (nI nd274)) 31 (nI wr276)) 64 (nI at271)) 65 (nI (ne + 1))) 66 (nI lk275)) 27 (nI nd274)) (updA X278 2 K)) := mW_D hD
            refine pc_V0 (G := G) (As := [.int 17, .int (nI at0), .int (nI at0), .int (nI r277), .int (-1)]) (rest := []) hx hb hml hown hq hE hX pX0_al hP hD hS hA hl.1 (R_nodeB l G h0 a (upd (upd (upd (upd (upd (upd (upd F 15 0) 16 pl273) 27 (nI nd274)) 31 (nI wr276)) 64 (nI at271)) 65 (nI (ne + 1))) 66 (nI lk275)) X278 17 (nI at0) (nI at0) (nI r277) (-1) nd274 K (by omega)) (gV pw_1650 pw_1651 pw_1652 pw_1523 pw_1589) hV_X12_node 0 9 rfl rfl rfl rfl (Nat.le_of_ble_eq_true rfl) dX12_front_68 ⟨Nat.le_of_ble_eq_true rfl, Nat.le_of_ble_eq_true rfl⟩ ⟨(by show 2 + 1 ≤ (20 * n + 14); omega), (by show 8 + (7 + 11) + 60 ≤ (1000 * n + 40 * 14); omega)⟩ (fun v302 u300 H locs hw301 hP hD hS => ?_)
            obtain ⟨X303, rfl⟩ : ∃ z, z = u300 := ⟨_, rfl⟩
            obtain ⟨hw301, h304⟩ := hw301
            have h304 : NewN X278 X303 nd274 17 (nI at0) (nI at0) (nI r277) (-1) := h304
            obtain rfl : v302 = some (.int (nI nd274)) := hw301
            have hP : va_P G.1 pCl (mW G h0 a (upd (upd (upd (upd (upd (upd (upd F 15 0) 16 pl273) 27 (nI (nd274 + 1))) 31 (nI wr276)) 64 (nI at271)) 65 (nI (ne + 1))) 66 (nI lk275)) (updA X303 2 K)) _ := mW_to (F := F) (l1 := [(15, 0), (16, pl273), (27, (nI nd274)), (31, (nI wr276)), (64, (nI at271)), (65, (nI (ne + 1))), (66, (nI lk275)), (27, (nI (nd274 + 1)))]) (l2 := [(15, 0), (16, pl273), (27, (nI (nd274 + 1))), (31, (nI wr276)), (64, (nI at271)), (65, (nI (ne + 1))), (66, (nI lk275))]) (V := [0, pl273, (nI (nd274 + 1)), (nI wr276), (nI at271), (nI (ne + 1)), (nI lk275), (nI (nd274 + 1)), 0, pl273, (nI (nd274 + 1)), (nI wr276), (nI at271), (nI (ne + 1)), (nI lk275)]) rfl rfl rfl hP
            have hD : va_D A (mW G h0 a (upd (upd (upd (upd (upd (upd (upd F 15 0) 16 pl273) 27 (nI (nd274 + 1))) 31 (nI wr276)) 64 (nI at271)) 65 (nI (ne + 1))) 66 (nI lk275)) (updA X303 2 K)) := mW_D hD
            refine W.widen (k := 0) (n := 0) (Nat.le_of_ble_eq_true rfl) (Nat.le_of_ble_eq_true rfl) ?_
            refine W.eq (g2 := F0 m 71 ls [.int (nI nd274)]) rfl ?_
            have hkp305 : Kp B X303 wr276 T := (Kp.new hkp293 h304)
            have hlo306 : Low B X303 nd wr := (Low.new hlo298 h304 (by omega))
            have hc307 : kcl 1 (X303 9 r277) = true := by rw [h304.2.1 9 r277 (by omega)]; exact hc297
            have hf308 : Frs K T wr276 X303 nd (nd274 + 1) nd274 [(nd274, (210 + lk275 - (10 * ne + lk)))] := (Frs.new1 (k := 17) hf296 (by omega) (by omega) (by omega) h304 rfl rfl (by decide) (by decide) (by omega) (by omega) (by decide) (by simp) ⟨by decide, by decide, by decide, by decide⟩ hc297 (newOK.m1 (by decide)) (newOK.m1 (by decide)) (newOK.m1 (by decide)) (by omega))
            have hn309 : Nd X303 nd274 17 (nI r277) (-1) (-1) (-1) := (NewN.toNd h304)
            have hf310 : Frs K T wr276 X303 nd (nd274 + 1) 20000 [(nd274, (210 + lk275 - (10 * ne + lk)))] := (Frs.fin (k := 17) hf308 hn309 rfl (by decide) (fun _ => nI_m1 (by omega)) (fun h => absurd h (by decide)) (fun h => absurd h (by decide)) (fun h => absurd h (by decide)))
            refine lv_istore_n (lv' := [(3, .int (nI nd274)), (2, .int (nI at0)), (1, .int (K at0)), (0, .ref h0)]) hx hb dX12_front_71 rfl hl (by decide) rfl (fun ls hl => ?_)
            refine lv_aload_n hx hb dX12_front_72 rfl (lv_at hl 3 rfl) ?_
            refine lv_dup hx hb dX12_front_73 rfl ?_
            refine r_get (v := .int (nI (ne + 1))) hx hb hown hq hE hP 65 366 tFX12_65 (by decide) pw_1612 rfl dX12_front_74 ?_
            refine lv_iconst (v := 1) hx hb dX12_front_77 (by decide) ?_
            refine lv_isub hx hb dX12_front_78 ?_
            refine lv_topi (fun x311 e312 => ?_)
            obtain rfl : x311 = nI ((ne + 1) - 1) := e312.trans (nI_subN (a := 1) (b := (ne + 1)) (by omega))
            refine r_put (v := (nI ((ne + 1) - 1))) (ty := .int) hx hb hown hq hE hP hD hS 65 366 tFX12_65 (by decide) pw_1612 (by decide) rfl rfl (ms_65 a _ _) dX12_front_79 (fun H locs hP hD hS => ?_)
            refine lv_iload_n hx hb dX12_front_82 rfl (lv_at hl 0 rfl) ?_
            have hz313 : at0 ≤ at271 := (by omega)
            have hz314 : at271 ≤ T := (by omega)
            have hz315 : 0 ≤ 100 := (by omega)
            have hz316 : nd ≤ (nd274 + 1) := (by omega)
            have hz317 : (nd274 + 1) + 2 * at0 ≤ nd + 2 * at271 + 100000 * 0 := (by omega)
            have hz318 : (nd274 + 1) + 2 * at0 ≤ nd + 2 * at271 + 40 * (21 - ne) := (by omega)
            have hz319 : wr ≤ wr276 := (by omega)
            have hz320 : wr276 + at0 ≤ wr + at271 := (by omega)
            have hz321 : lk ≤ lk275 := (by omega)
            have hz322 : lk275 ≤ 60 + 100 * 0 := (by omega)
            have hz323 : at0 + 1 ≤ at271 + 0 := (by omega)
            have hz324 : nd274 ≤ (nd274 + 1) := (by omega)
            have hz325 : Kp B X303 wr276 T := hkp305
            have hz326 : If (0 = 0) (Low B X303 nd wr ∧ Frs K T wr276 X303 nd (nd274 + 1) 20000 [(nd274, (210 + lk275 - (10 * ne + lk)))] ∧ kcl 1 (X303 9 nd274) = true) := (fun _ => ⟨hlo306, Frs.up hf310 (by omega), (by rw [hn309.1]; decide)⟩)
            have hP : va_P G.1 pCl (mW G h0 a (upd (upd (upd (upd (upd (upd (upd F 15 (nI 0)) 16 pl273) 27 (nI (nd274 + 1))) 31 (nI wr276)) 64 (nI at271)) 65 (nI ne)) 66 (nI lk275)) (updA X303 2 K)) _ := mW_to (F := F) (l1 := [(15, 0), (16, pl273), (27, (nI (nd274 + 1))), (31, (nI wr276)), (64, (nI at271)), (65, (nI (ne + 1))), (66, (nI lk275)), (65, (nI ((ne + 1) - 1)))]) (l2 := [(15, (nI 0)), (16, pl273), (27, (nI (nd274 + 1))), (31, (nI wr276)), (64, (nI at271)), (65, (nI ne)), (66, (nI lk275))]) (V := [(nI 0), pl273, (nI (nd274 + 1)), (nI wr276), (nI at271), (nI ne), (nI lk275), (nI ne), (nI 0), pl273, (nI (nd274 + 1)), (nI wr276), (nI at271), (nI ne), (nI lk275)]) rfl rfl rfl hP
            have hD : va_D A (mW G h0 a (upd (upd (upd (upd (upd (upd (upd F 15 (nI 0)) 16 pl273) 27 (nI (nd274 + 1))) 31 (nI wr276)) 64 (nI at271)) 65 (nI ne)) 66 (nI lk275)) (updA X303 2 K)) := mW_D hD
            exact W.iret (v := (nI nd274)) hx hb hr (fun t9 ht9 hW9 => ⟨⟨_, (at271, 0, pl273, (nd274 + 1), lk275, wr276, nd274, X303), rfl, ⟨rfl, hz313, hz314, hz315, hz316, hz317, hz318, hz319, hz320, hz321, hz322, hz323, hz324, hz325, hz326⟩, by rw [ht9]; exact hP, hD⟩, hS.F ht9⟩) hS.2.2 dX12_front_83
          · have e294 := e294
            refine lv_iconst (v := (-1)) hx hb dX12_front_67 (by decide) ?_
            have hP : va_P G.1 pCl (mW G h0 a (upd (upd (upd (upd (upd (upd (upd (upd F 15 (nI fa272)) 16 pl273) 27 (nI nd274)) 31 (nI wr276)) 64 (nI at271)) 65 (nI (ne + 1))) 66 (nI lk275)) 27 (nI nd274)) (updA X278 2 K)) _ := mW_to (F := F) (l1 := [(15, (nI fa272)), (16, pl273), (27, (nI nd274)), (31, (nI wr276)), (64, (nI at271)), (65, (nI (ne + 1))), (66, (nI lk275))]) (l2 := [(15, (nI fa272)), (16, pl273), (27, (nI nd274)), (31, (nI wr276)), (64, (nI at271)), (65, (nI (ne + 1))), (66, (nI lk275)), (27, (nI nd274))]) (V := [(nI fa272), pl273, (nI nd274), (nI wr276), (nI at271), (nI (ne + 1)), (nI lk275), (nI fa272), pl273, (nI nd274), (nI wr276), (nI at271), (nI (ne + 1)), (nI lk275), (nI nd274)]) rfl rfl rfl hP
            have hD : va_D A (mW G h0 a (upd (upd (upd (upd (upd (upd (upd (upd F 15 (nI fa272)) 16 pl273) 27 (nI nd274)) 31 (nI wr276)) 64 (nI at271)) 65 (nI (ne + 1))) 66 (nI lk275)) 27 (nI nd274)) (updA X278 2 K)) := mW_D hD
            refine pc_V0 (G := G) (As := [.int 17, .int (nI at0), .int (nI at0), .int (nI r277), .int (-1)]) (rest := []) hx hb hml hown hq hE hX pX0_al hP hD hS hA hl.1 (R_nodeB l G h0 a (upd (upd (upd (upd (upd (upd (upd F 15 (nI fa272)) 16 pl273) 27 (nI nd274)) 31 (nI wr276)) 64 (nI at271)) 65 (nI (ne + 1))) 66 (nI lk275)) X278 17 (nI at0) (nI at0) (nI r277) (-1) nd274 K (by omega)) (gV pw_1650 pw_1651 pw_1652 pw_1523 pw_1589) hV_X12_node 0 9 rfl rfl rfl rfl (Nat.le_of_ble_eq_true rfl) dX12_front_68 ⟨Nat.le_of_ble_eq_true rfl, Nat.le_of_ble_eq_true rfl⟩ ⟨(by show 2 + 1 ≤ (20 * n + 14); omega), (by show 8 + (7 + 11) + 60 ≤ (1000 * n + 40 * 14); omega)⟩ (fun v329 u327 H locs hw328 hP hD hS => ?_)
            obtain ⟨X330, rfl⟩ : ∃ z, z = u327 := ⟨_, rfl⟩
            obtain ⟨hw328, h331⟩ := hw328
            have h331 : NewN X278 X330 nd274 17 (nI at0) (nI at0) (nI r277) (-1) := h331
            obtain rfl : v329 = some (.int (nI nd274)) := hw328
            have hP : va_P G.1 pCl (mW G h0 a (upd (upd (upd (upd (upd (upd (upd F 15 (nI fa272)) 16 pl273) 27 (nI (nd274 + 1))) 31 (nI wr276)) 64 (nI at271)) 65 (nI (ne + 1))) 66 (nI lk275)) (updA X330 2 K)) _ := mW_to (F := F) (l1 := [(15, (nI fa272)), (16, pl273), (27, (nI nd274)), (31, (nI wr276)), (64, (nI at271)), (65, (nI (ne + 1))), (66, (nI lk275)), (27, (nI (nd274 + 1)))]) (l2 := [(15, (nI fa272)), (16, pl273), (27, (nI (nd274 + 1))), (31, (nI wr276)), (64, (nI at271)), (65, (nI (ne + 1))), (66, (nI lk275))]) (V := [(nI fa272), pl273, (nI (nd274 + 1)), (nI wr276), (nI at271), (nI (ne + 1)), (nI lk275), (nI (nd274 + 1)), (nI fa272), pl273, (nI (nd274 + 1)), (nI wr276), (nI at271), (nI (ne + 1)), (nI lk275)]) rfl rfl rfl hP
            have hD : va_D A (mW G h0 a (upd (upd (upd (upd (upd (upd (upd F 15 (nI fa272)) 16 pl273) 27 (nI (nd274 + 1))) 31 (nI wr276)) 64 (nI at271)) 65 (nI (ne + 1))) 66 (nI lk275)) (updA X330 2 K)) := mW_D hD
            refine W.widen (k := 0) (n := 0) (Nat.le_of_ble_eq_true rfl) (Nat.le_of_ble_eq_true rfl) ?_
            refine W.eq (g2 := F0 m 71 ls [.int (nI nd274)]) rfl ?_
            have hkp332 : Kp B X330 wr276 T := (Kp.new hkp293 h331)
            refine lv_istore_n (lv' := [(3, .int (nI nd274)), (2, .int (nI at0)), (1, .int (K at0)), (0, .ref h0)]) hx hb dX12_front_71 rfl hl (by decide) rfl (fun ls hl => ?_)
            refine lv_aload_n hx hb dX12_front_72 rfl (lv_at hl 3 rfl) ?_
            refine lv_dup hx hb dX12_front_73 rfl ?_
            refine r_get (v := .int (nI (ne + 1))) hx hb hown hq hE hP 65 366 tFX12_65 (by decide) pw_1612 rfl dX12_front_74 ?_
            refine lv_iconst (v := 1) hx hb dX12_front_77 (by decide) ?_
            refine lv_isub hx hb dX12_front_78 ?_
            refine lv_topi (fun x333 e334 => ?_)
            obtain rfl : x333 = nI ((ne + 1) - 1) := e334.trans (nI_subN (a := 1) (b := (ne + 1)) (by omega))
            refine r_put (v := (nI ((ne + 1) - 1))) (ty := .int) hx hb hown hq hE hP hD hS 65 366 tFX12_65 (by decide) pw_1612 (by decide) rfl rfl (ms_65 a _ _) dX12_front_79 (fun H locs hP hD hS => ?_)
            refine lv_iload_n hx hb dX12_front_82 rfl (lv_at hl 0 rfl) ?_
            have hz335 : at0 ≤ at271 := (by omega)
            have hz336 : at271 ≤ T := (by omega)
            have hz337 : fa272 ≤ 100 := (by omega)
            have hz338 : nd ≤ (nd274 + 1) := (by omega)
            have hz339 : (nd274 + 1) + 2 * at0 ≤ nd + 2 * at271 + 100000 * fa272 := (by omega)
            have hz340 : (nd274 + 1) + 2 * at0 ≤ nd + 2 * at271 + 40 * (21 - ne) := (by omega)
            have hz341 : wr ≤ wr276 := (by omega)
            have hz342 : wr276 + at0 ≤ wr + at271 := (by omega)
            have hz343 : lk ≤ lk275 := (by omega)
            have hz344 : lk275 ≤ 60 + 100 * fa272 := (by omega)
            have hz345 : at0 + 1 ≤ at271 + fa272 := (by omega)
            have hz346 : nd274 ≤ (nd274 + 1) := (by omega)
            have hz347 : Kp B X330 wr276 T := hkp332
            have hz348 : If (fa272 = 0) (Low B X330 nd wr ∧ Frs K T wr276 X330 nd (nd274 + 1) 20000 [(nd274, (210 + lk275 - (10 * ne + lk)))] ∧ kcl 1 (X330 9 nd274) = true) := (fun e => absurd e (by omega))
            have hP : va_P G.1 pCl (mW G h0 a (upd (upd (upd (upd (upd (upd (upd F 15 (nI fa272)) 16 pl273) 27 (nI (nd274 + 1))) 31 (nI wr276)) 64 (nI at271)) 65 (nI ne)) 66 (nI lk275)) (updA X330 2 K)) _ := mW_to (F := F) (l1 := [(15, (nI fa272)), (16, pl273), (27, (nI (nd274 + 1))), (31, (nI wr276)), (64, (nI at271)), (65, (nI (ne + 1))), (66, (nI lk275)), (65, (nI ((ne + 1) - 1)))]) (l2 := [(15, (nI fa272)), (16, pl273), (27, (nI (nd274 + 1))), (31, (nI wr276)), (64, (nI at271)), (65, (nI ne)), (66, (nI lk275))]) (V := [(nI fa272), pl273, (nI (nd274 + 1)), (nI wr276), (nI at271), (nI ne), (nI lk275), (nI ne), (nI fa272), pl273, (nI (nd274 + 1)), (nI wr276), (nI at271), (nI ne), (nI lk275)]) rfl rfl rfl hP
            have hD : va_D A (mW G h0 a (upd (upd (upd (upd (upd (upd (upd F 15 (nI fa272)) 16 pl273) 27 (nI (nd274 + 1))) 31 (nI wr276)) 64 (nI at271)) 65 (nI ne)) 66 (nI lk275)) (updA X330 2 K)) := mW_D hD
            exact W.iret (v := (nI nd274)) hx hb hr (fun t9 ht9 hW9 => ⟨⟨_, (at271, fa272, pl273, (nd274 + 1), lk275, wr276, nd274, X330), rfl, ⟨rfl, hz335, hz336, hz337, hz338, hz339, hz340, hz341, hz342, hz343, hz344, hz345, hz346, hz347, hz348⟩, by rw [ht9]; exact hP, hD⟩, hS.F ht9⟩) hS.2.2 dX12_front_83
        · have e264 := e264
          refine lv_aload_n hx hb dX12_front_48 rfl (lv_at hl 2 rfl) ?_
          refine lv_dup hx hb dX12_front_49 rfl ?_
          refine r_get (v := .int (nI at0)) hx hb hown hq hE hP 64 343 tFX12_64 (by decide) pw_1592 rfl dX12_front_50 ?_
          refine lv_iconst (v := 1) hx hb dX12_front_53 (by decide) ?_
          refine lv_iadd hx hb dX12_front_54 ?_
          refine lv_topi (fun x349 e350 => ?_)
          obtain rfl : x349 = nI (at0 + 1) := e350.trans (nI_add (at0) (1))
          refine r_put (v := (nI (at0 + 1))) (ty := .int) hx hb hown hq hE hP hD hS 64 343 tFX12_64 (by decide) pw_1592 (by decide) rfl rfl (ms_64 a _ _) dX12_front_55 (fun H locs hP hD hS => ?_)
          refine lv_aload_n hx hb dX12_front_58 rfl (lv_at hl 2 rfl) ?_
          refine lv_bipush (v := 17) hx hb dX12_front_59 (by decide) ?_
          refine lv_iload_n hx hb dX12_front_61 rfl (lv_at hl 0 rfl) ?_
          refine lv_iload_n hx hb dX12_front_62 rfl (lv_at hl 0 rfl) ?_
          refine lv_aload_n hx hb dX12_front_63 rfl (lv_at hl 2 rfl) ?_
          have hP : va_P G.1 pCl (mW G h0 a (upd (upd (upd (upd (upd (upd (upd (upd (upd F 15 (nI fa258)) 16 pl259) 27 (nI nd)) 31 (nI wr)) 64 (nI (at0 + 1))) 65 (nI (ne + 1))) 66 (nI lk)) 15 (nI fa258)) 64 (nI (at0 + 1))) (updA (updA B 2 K) 2 K)) _ := mW_to (F := F) (l1 := [(15, (nI fa258)), (16, pl259), (27, (nI nd)), (31, (nI wr)), (64, (nI at0)), (65, (nI (ne + 1))), (66, (nI lk)), (64, (nI (at0 + 1)))]) (l2 := [(15, (nI fa258)), (16, pl259), (27, (nI nd)), (31, (nI wr)), (64, (nI (at0 + 1))), (65, (nI (ne + 1))), (66, (nI lk)), (15, (nI fa258)), (64, (nI (at0 + 1)))]) (V := [(nI fa258), pl259, (nI nd), (nI wr), (nI (at0 + 1)), (nI (ne + 1)), (nI lk), (nI (at0 + 1)), (nI fa258), pl259, (nI nd), (nI wr), (nI (at0 + 1)), (nI (ne + 1)), (nI lk), (nI fa258), (nI (at0 + 1))]) rfl rfl (show (updA B 2 K) = (updA (updA B 2 K) 2 K) from updsA_eq2 (F := B) (l1 := [(2, K)]) (l2 := [(2, K), (2, K)]) (V := [K, K, K]) rfl rfl) hP
          have hD : va_D A (mW G h0 a (upd (upd (upd (upd (upd (upd (upd (upd (upd F 15 (nI fa258)) 16 pl259) 27 (nI nd)) 31 (nI wr)) 64 (nI (at0 + 1))) 65 (nI (ne + 1))) 66 (nI lk)) 15 (nI fa258)) 64 (nI (at0 + 1))) (updA (updA B 2 K) 2 K)) := mW_D hD
          refine pc_V0 (G := G) (As := []) (rest := [.int (nI at0), .int (nI at0), .int 17, .ref h0]) hx hb hml hown hq hE hX pX0_al hP hD hS hA hl.1 (RF_front l G h0 a (upd (upd (upd (upd (upd (upd (upd F 15 (nI fa258)) 16 pl259) 27 (nI nd)) 31 (nI wr)) 64 (nI (at0 + 1))) 65 (nI (ne + 1))) 66 (nI lk)) (updA B 2 K) (at0 + 1) T fa258 K (by omega) (by omega) hK (by omega) e264) (gV pw_1664 pw_1665 pw_1666 pw_1523 pw_1660) hV_X12_front 0 9 rfl rfl rfl rfl (Nat.le_of_ble_eq_true rfl) dX12_front_64 ⟨Nat.le_of_ble_eq_true rfl, Nat.le_of_ble_eq_true rfl⟩ ⟨(by show 4 + 1 ≤ (20 * n + 14); omega), (by show 8 + (4 + 11) + 107 ≤ (1000 * n + 40 * 14); omega)⟩ (fun v353 u351 H locs hw352 hP hD hS => ?_)
          obtain rfl : v353 = some (.int 0) := hw352
          have hP : va_P G.1 pCl (mW G h0 a (upd (upd (upd (upd (upd (upd (upd F 15 (nI fa258)) 16 pl259) 27 (nI nd)) 31 (nI wr)) 64 (nI (at0 + 1))) 65 (nI (ne + 1))) 66 (nI lk)) (updA B 2 K)) _ := mW_to (F := F) (l1 := [(15, (nI fa258)), (16, pl259), (27, (nI nd)), (31, (nI wr)), (64, (nI (at0 + 1))), (65, (nI (ne + 1))), (66, (nI lk)), (15, (nI fa258)), (64, (nI (at0 + 1)))]) (l2 := [(15, (nI fa258)), (16, pl259), (27, (nI nd)), (31, (nI wr)), (64, (nI (at0 + 1))), (65, (nI (ne + 1))), (66, (nI lk))]) (V := [(nI fa258), pl259, (nI nd), (nI wr), (nI (at0 + 1)), (nI (ne + 1)), (nI lk), (nI fa258), (nI (at0 + 1)), (nI fa258), pl259, (nI nd), (nI wr), (nI (at0 + 1)), (nI (ne + 1)), (nI lk)]) rfl rfl (show (updA (updA B 2 K) 2 K) = (updA B 2 K) from updsA_eq2 (F := B) (l1 := [(2, K), (2, K)]) (l2 := [(2, K)]) (V := [K, K, K]) rfl rfl) hP
          have hD : va_D A (mW G h0 a (upd (upd (upd (upd (upd (upd (upd F 15 (nI fa258)) 16 pl259) 27 (nI nd)) 31 (nI wr)) 64 (nI (at0 + 1))) 65 (nI (ne + 1))) 66 (nI lk)) (updA B 2 K)) := mW_D hD
          refine W.widen (k := 0) (n := 0) (Nat.le_of_ble_eq_true rfl) (Nat.le_of_ble_eq_true rfl) ?_
          refine W.eq (g2 := F0 m 67 ls [.int 0, .int (nI at0), .int (nI at0), .int 17, .ref h0]) rfl ?_
          refine lv_iconst (v := (-1)) hx hb dX12_front_67 (by decide) ?_
          have hP : va_P G.1 pCl (mW G h0 a (upd (upd (upd (upd (upd (upd (upd (upd F 15 (nI fa258)) 16 pl259) 27 (nI nd)) 31 (nI wr)) 64 (nI (at0 + 1))) 65 (nI (ne + 1))) 66 (nI lk)) 27 (nI nd)) (updA B 2 K)) _ := mW_to (F := F) (l1 := [(15, (nI fa258)), (16, pl259), (27, (nI nd)), (31, (nI wr)), (64, (nI (at0 + 1))), (65, (nI (ne + 1))), (66, (nI lk))]) (l2 := [(15, (nI fa258)), (16, pl259), (27, (nI nd)), (31, (nI wr)), (64, (nI (at0 + 1))), (65, (nI (ne + 1))), (66, (nI lk)), (27, (nI nd))]) (V := [(nI fa258), pl259, (nI nd), (nI wr), (nI (at0 + 1)), (nI (ne + 1)), (nI lk), (nI fa258), pl259, (nI nd), (nI wr), (nI (at0 + 1)), (nI (ne + 1)), (nI lk), (nI nd)]) rfl rfl rfl hP
          have hD : va_D A (mW G h0 a (upd (upd (upd (upd (upd (upd (upd (upd F 15 (nI fa258)) 16 pl259) 27 (nI nd)) 31 (nI wr)) 64 (nI (at0 + 1))) 65 (nI (ne + 1))) 66 (nI lk)) 27 (nI nd)) (updA B 2 K)) := mW_D hD
          refine pc_V0 (G := G) (As := [.int 17, .int (nI at0), .int (nI at0), .int 0, .int (-1)]) (rest := []) hx hb hml hown hq hE hX pX0_al hP hD hS hA hl.1 (R_nodeB l G h0 a (upd (upd (upd (upd (upd (upd (upd F 15 (nI fa258)) 16 pl259) 27 (nI nd)) 31 (nI wr)) 64 (nI (at0 + 1))) 65 (nI (ne + 1))) 66 (nI lk)) B 17 (nI at0) (nI at0) 0 (-1) nd K (by omega)) (gV pw_1650 pw_1651 pw_1652 pw_1523 pw_1589) hV_X12_node 0 9 rfl rfl rfl rfl (Nat.le_of_ble_eq_true rfl) dX12_front_68 ⟨Nat.le_of_ble_eq_true rfl, Nat.le_of_ble_eq_true rfl⟩ ⟨(by show 2 + 1 ≤ (20 * n + 14); omega), (by show 8 + (7 + 11) + 60 ≤ (1000 * n + 40 * 14); omega)⟩ (fun v356 u354 H locs hw355 hP hD hS => ?_)
          obtain ⟨X357, rfl⟩ : ∃ z, z = u354 := ⟨_, rfl⟩
          obtain ⟨hw355, h358⟩ := hw355
          have h358 : NewN B X357 nd 17 (nI at0) (nI at0) 0 (-1) := h358
          obtain rfl : v356 = some (.int (nI nd)) := hw355
          have hP : va_P G.1 pCl (mW G h0 a (upd (upd (upd (upd (upd (upd (upd F 15 (nI fa258)) 16 pl259) 27 (nI (nd + 1))) 31 (nI wr)) 64 (nI (at0 + 1))) 65 (nI (ne + 1))) 66 (nI lk)) (updA X357 2 K)) _ := mW_to (F := F) (l1 := [(15, (nI fa258)), (16, pl259), (27, (nI nd)), (31, (nI wr)), (64, (nI (at0 + 1))), (65, (nI (ne + 1))), (66, (nI lk)), (27, (nI (nd + 1)))]) (l2 := [(15, (nI fa258)), (16, pl259), (27, (nI (nd + 1))), (31, (nI wr)), (64, (nI (at0 + 1))), (65, (nI (ne + 1))), (66, (nI lk))]) (V := [(nI fa258), pl259, (nI (nd + 1)), (nI wr), (nI (at0 + 1)), (nI (ne + 1)), (nI lk), (nI (nd + 1)), (nI fa258), pl259, (nI (nd + 1)), (nI wr), (nI (at0 + 1)), (nI (ne + 1)), (nI lk)]) rfl rfl rfl hP
          have hD : va_D A (mW G h0 a (upd (upd (upd (upd (upd (upd (upd F 15 (nI fa258)) 16 pl259) 27 (nI (nd + 1))) 31 (nI wr)) 64 (nI (at0 + 1))) 65 (nI (ne + 1))) 66 (nI lk)) (updA X357 2 K)) := mW_D hD
          refine W.widen (k := 0) (n := 0) (Nat.le_of_ble_eq_true rfl) (Nat.le_of_ble_eq_true rfl) ?_
          refine W.eq (g2 := F0 m 71 ls [.int (nI nd)]) rfl ?_
          have hkp359 : Kp B X357 wr T := (Kp.new hkp1 h358)
          refine lv_istore_n (lv' := [(3, .int (nI nd)), (2, .int (nI at0)), (1, .int (K at0)), (0, .ref h0)]) hx hb dX12_front_71 rfl hl (by decide) rfl (fun ls hl => ?_)
          refine lv_aload_n hx hb dX12_front_72 rfl (lv_at hl 3 rfl) ?_
          refine lv_dup hx hb dX12_front_73 rfl ?_
          refine r_get (v := .int (nI (ne + 1))) hx hb hown hq hE hP 65 366 tFX12_65 (by decide) pw_1612 rfl dX12_front_74 ?_
          refine lv_iconst (v := 1) hx hb dX12_front_77 (by decide) ?_
          refine lv_isub hx hb dX12_front_78 ?_
          refine lv_topi (fun x360 e361 => ?_)
          obtain rfl : x360 = nI ((ne + 1) - 1) := e361.trans (nI_subN (a := 1) (b := (ne + 1)) (by omega))
          refine r_put (v := (nI ((ne + 1) - 1))) (ty := .int) hx hb hown hq hE hP hD hS 65 366 tFX12_65 (by decide) pw_1612 (by decide) rfl rfl (ms_65 a _ _) dX12_front_79 (fun H locs hP hD hS => ?_)
          refine lv_iload_n hx hb dX12_front_82 rfl (lv_at hl 0 rfl) ?_
          have hz362 : at0 ≤ (at0 + 1) := (by omega)
          have hz363 : (at0 + 1) ≤ T := (by omega)
          have hz364 : fa258 ≤ 100 := (by omega)
          have hz365 : nd ≤ (nd + 1) := (by omega)
          have hz366 : (nd + 1) + 2 * at0 ≤ nd + 2 * (at0 + 1) + 100000 * fa258 := (by omega)
          have hz367 : (nd + 1) + 2 * at0 ≤ nd + 2 * (at0 + 1) + 40 * (21 - ne) := (by omega)
          have hz368 : wr ≤ wr := (by omega)
          have hz369 : wr + at0 ≤ wr + (at0 + 1) := (by omega)
          have hz370 : lk ≤ lk := (by omega)
          have hz371 : lk ≤ 60 + 100 * fa258 := (by omega)
          have hz372 : at0 + 1 ≤ (at0 + 1) + fa258 := (by omega)
          have hz373 : nd ≤ (nd + 1) := (by omega)
          have hz374 : Kp B X357 wr T := hkp359
          have hz375 : If (fa258 = 0) (Low B X357 nd wr ∧ Frs K T wr X357 nd (nd + 1) 20000 [(nd, (210 + lk - (10 * ne + lk)))] ∧ kcl 1 (X357 9 nd) = true) := (fun e => absurd e (by omega))
          have hP : va_P G.1 pCl (mW G h0 a (upd (upd (upd (upd (upd (upd (upd F 15 (nI fa258)) 16 pl259) 27 (nI (nd + 1))) 31 (nI wr)) 64 (nI (at0 + 1))) 65 (nI ne)) 66 (nI lk)) (updA X357 2 K)) _ := mW_to (F := F) (l1 := [(15, (nI fa258)), (16, pl259), (27, (nI (nd + 1))), (31, (nI wr)), (64, (nI (at0 + 1))), (65, (nI (ne + 1))), (66, (nI lk)), (65, (nI ((ne + 1) - 1)))]) (l2 := [(15, (nI fa258)), (16, pl259), (27, (nI (nd + 1))), (31, (nI wr)), (64, (nI (at0 + 1))), (65, (nI ne)), (66, (nI lk))]) (V := [(nI fa258), pl259, (nI (nd + 1)), (nI wr), (nI (at0 + 1)), (nI ne), (nI lk), (nI ne), (nI fa258), pl259, (nI (nd + 1)), (nI wr), (nI (at0 + 1)), (nI ne), (nI lk)]) rfl rfl rfl hP
          have hD : va_D A (mW G h0 a (upd (upd (upd (upd (upd (upd (upd F 15 (nI fa258)) 16 pl259) 27 (nI (nd + 1))) 31 (nI wr)) 64 (nI (at0 + 1))) 65 (nI ne)) 66 (nI lk)) (updA X357 2 K)) := mW_D hD
          exact W.iret (v := (nI nd)) hx hb hr (fun t9 ht9 hW9 => ⟨⟨_, ((at0 + 1), fa258, pl259, (nd + 1), lk, wr, nd, X357), rfl, ⟨rfl, hz362, hz363, hz364, hz365, hz366, hz367, hz368, hz369, hz370, hz371, hz372, hz373, hz374, hz375⟩, by rw [ht9]; exact hP, hD⟩, hS.F ht9⟩) hS.2.2 dX12_front_83
      · refine lv_aload_n hx hb dX12_front_34 rfl (lv_at hl 1 rfl) ?_
        have hP : va_P G.1 pCl (mW G h0 a (upd (upd (upd (upd (upd (upd (upd (upd (upd (upd (upd (upd F 15 0) 27 (nI nd)) 31 (nI wr)) 64 (nI at0)) 65 (nI ne)) 66 (nI lk)) 15 0) 27 (nI nd)) 31 (nI wr)) 64 (nI at0)) 65 (nI ne)) 66 (nI lk)) (updA B 2 K)) _ := mW_to (F := F) (l1 := [(15, 0), (27, (nI nd)), (31, (nI wr)), (64, (nI at0)), (65, (nI ne)), (66, (nI lk))]) (l2 := [(15, 0), (27, (nI nd)), (31, (nI wr)), (64, (nI at0)), (65, (nI ne)), (66, (nI lk)), (15, 0), (27, (nI nd)), (31, (nI wr)), (64, (nI at0)), (65, (nI ne)), (66, (nI lk))]) (V := [0, (nI nd), (nI wr), (nI at0), (nI ne), (nI lk), 0, (nI nd), (nI wr), (nI at0), (nI ne), (nI lk), 0, (nI nd), (nI wr), (nI at0), (nI ne), (nI lk)]) rfl rfl rfl hP
        have hD : va_D A (mW G h0 a (upd (upd (upd (upd (upd (upd (upd (upd (upd (upd (upd (upd F 15 0) 27 (nI nd)) 31 (nI wr)) 64 (nI at0)) 65 (nI ne)) 66 (nI lk)) 15 0) 27 (nI nd)) 31 (nI wr)) 64 (nI at0)) 65 (nI ne)) 66 (nI lk)) (updA B 2 K)) := mW_D hD
        refine pc_V0 (G := G) (As := []) (rest := []) hx hb hml hown hq hE hX pX0_al hP hD hS hA hl.1 (hc h0 a (upd (upd (upd (upd (upd (upd F 15 0) 27 (nI nd)) 31 (nI wr)) 64 (nI at0)) 65 (nI ne)) 66 (nI lk)) B at0 T ne nd wr lk K (by omega) (by omega) hK (by omega) (by omega) (by omega) (by omega) (hkp1).2 (by omega)) (gV pw_1661 pw_1662 pw_1663 pw_1523 pw_1643) hV_X12_chain 0 9 rfl rfl rfl rfl (Nat.le_of_ble_eq_true rfl) dX12_front_35 ⟨Nat.le_of_ble_eq_true rfl, Nat.le_of_ble_eq_true rfl⟩ ⟨(by show (20 * n + 12) + 1 ≤ (20 * n + 14); omega), (by show 8 + (4 + 11) + (1000 * n + 40 * 12) ≤ (1000 * n + 40 * 14); omega)⟩ (fun v378 u376 H locs hw377 hP hD hS => ?_)
        obtain ⟨at379, fa380, pl381, nd382, lk383, wr384, r385, X386⟩ := u376
        obtain ⟨hw377, h387, h388, h389, h390, h391, h392, h393, h394, h395, h396, h397, h398, h399, h400⟩ := hw377
        have h387 : at0 ≤ at379 := h387
        have h388 : at379 ≤ T := h388
        have h389 : fa380 ≤ 100 := h389
        have h390 : nd ≤ nd382 := h390
        have h391 : nd382 + 2 * at0 ≤ nd + 2 * at379 + 100000 * fa380 := h391
        have h392 : nd382 + 2 * at0 ≤ nd + 2 * at379 + 40 * (21 - ne) := h392
        have h393 : wr ≤ wr384 := h393
        have h394 : wr384 + at0 ≤ wr + at379 := h394
        have h395 : lk ≤ lk383 := h395
        have h396 : lk383 ≤ 60 + 100 * fa380 := h396
        have h397 : at0 + 1 ≤ at379 + fa380 := h397
        have h398 : r385 ≤ nd382 := h398
        have h399 : Kp B X386 wr384 T := h399
        have h400 : If (fa380 = 0) (Low B X386 nd wr ∧ Frs K T wr384 X386 nd nd382 20000 [(r385, (210 + lk383 - (10 * ne + lk)))] ∧ kcl 1 (X386 9 r385) = true) := h400
        obtain rfl : v378 = some (.int (nI r385)) := hw377
        have hP : va_P G.1 pCl (mW G h0 a (upd (upd (upd (upd (upd (upd (upd F 15 (nI fa380)) 16 pl381) 27 (nI nd382)) 31 (nI wr384)) 64 (nI at379)) 65 (nI ne)) 66 (nI lk383)) (updA X386 2 K)) _ := mW_to (F := F) (l1 := [(15, 0), (27, (nI nd)), (31, (nI wr)), (64, (nI at0)), (65, (nI ne)), (66, (nI lk)), (15, (nI fa380)), (16, pl381), (27, (nI nd382)), (31, (nI wr384)), (64, (nI at379)), (65, (nI ne)), (66, (nI lk383))]) (l2 := [(15, (nI fa380)), (16, pl381), (27, (nI nd382)), (31, (nI wr384)), (64, (nI at379)), (65, (nI ne)), (66, (nI lk383))]) (V := [(nI fa380), (nI nd382), (nI wr384), (nI at379), (nI ne), (nI lk383), (nI fa380), pl381, (nI nd382), (nI wr384), (nI at379), (nI ne), (nI lk383), (nI fa380), pl381, (nI nd382), (nI wr384), (nI at379), (nI ne), (nI lk383)]) rfl rfl rfl hP
        have hD : va_D A (mW G h0 a (upd (upd (upd (upd (upd (upd (upd F 15 (nI fa380)) 16 pl381) 27 (nI nd382)) 31 (nI wr384)) 64 (nI at379)) 65 (nI ne)) 66 (nI lk383)) (updA X386 2 K)) := mW_D hD
        refine W.widen (k := 0) (n := 0) (Nat.le_of_ble_eq_true rfl) (Nat.le_of_ble_eq_true rfl) ?_
        refine W.eq (g2 := F0 m 38 ls [.int (nI r385)]) rfl ?_
        have hkp401 : Kp B X386 wr384 T := (Kp.trans hkp1 h399)
        rcases Nat.eq_zero_or_pos fa380 with e402 | e402
        · subst e402
          have hP : va_P G.1 pCl (mW G h0 a (upd (upd (upd (upd (upd (upd (upd F 15 0) 16 pl381) 27 (nI nd382)) 31 (nI wr384)) 64 (nI at379)) 65 (nI ne)) 66 (nI lk383)) (updA X386 2 K)) _ := hP
          have hD : va_D A (mW G h0 a (upd (upd (upd (upd (upd (upd (upd F 15 0) 16 pl381) 27 (nI nd382)) 31 (nI wr384)) 64 (nI at379)) 65 (nI ne)) 66 (nI lk383)) (updA X386 2 K)) := mW_D hD
          obtain ⟨hlw403, hf404, hc405⟩ := h400 rfl
          have hlo406 : Low B X386 nd wr := (Low.trans hlo2 hlw403 (by omega) (by omega))
          have hm407 := Frs.mem hf404
          have hz408 : at0 ≤ at379 := (by omega)
          have hz409 : at379 ≤ T := (by omega)
          have hz410 : 0 ≤ 100 := (by omega)
          have hz411 : nd ≤ nd382 := (by omega)
          have hz412 : nd382 + 2 * at0 ≤ nd + 2 * at379 + 100000 * 0 := (by omega)
          have hz413 : nd382 + 2 * at0 ≤ nd + 2 * at379 + 40 * (21 - ne) := (by omega)
          have hz414 : wr ≤ wr384 := (by omega)
          have hz415 : wr384 + at0 ≤ wr + at379 := (by omega)
          have hz416 : lk ≤ lk383 := (by omega)
          have hz417 : lk383 ≤ 60 + 100 * 0 := (by omega)
          have hz418 : at0 + 1 ≤ at379 + 0 := (by omega)
          have hz419 : r385 ≤ nd382 := (by omega)
          have hz420 : Kp B X386 wr384 T := hkp401
          have hz421 : If (0 = 0) (Low B X386 nd wr ∧ Frs K T wr384 X386 nd nd382 20000 [(r385, (210 + lk383 - (10 * ne + lk)))] ∧ kcl 1 (X386 9 r385) = true) := (fun _ => ⟨hlo406, Frs.up hf404 (by omega), hc405⟩)
          have hP : va_P G.1 pCl (mW G h0 a (upd (upd (upd (upd (upd (upd (upd F 15 (nI 0)) 16 pl381) 27 (nI nd382)) 31 (nI wr384)) 64 (nI at379)) 65 (nI ne)) 66 (nI lk383)) (updA X386 2 K)) _ := mW_to (F := F) (l1 := [(15, 0), (16, pl381), (27, (nI nd382)), (31, (nI wr384)), (64, (nI at379)), (65, (nI ne)), (66, (nI lk383))]) (l2 := [(15, (nI 0)), (16, pl381), (27, (nI nd382)), (31, (nI wr384)), (64, (nI at379)), (65, (nI ne)), (66, (nI lk383))]) (V := [(nI 0), pl381, (nI nd382), (nI wr384), (nI at379), (nI ne), (nI lk383), (nI 0), pl381, (nI nd382), (nI wr384), (nI at379), (nI ne), (nI lk383)]) rfl rfl rfl hP
          have hD : va_D A (mW G h0 a (upd (upd (upd (upd (upd (upd (upd F 15 (nI 0)) 16 pl381) 27 (nI nd382)) 31 (nI wr384)) 64 (nI at379)) 65 (nI ne)) 66 (nI lk383)) (updA X386 2 K)) := mW_D hD
          exact W.iret (v := (nI r385)) hx hb hr (fun t9 ht9 hW9 => ⟨⟨_, (at379, 0, pl381, nd382, lk383, wr384, r385, X386), rfl, ⟨rfl, hz408, hz409, hz410, hz411, hz412, hz413, hz414, hz415, hz416, hz417, hz418, hz419, hz420, hz421⟩, by rw [ht9]; exact hP, hD⟩, hS.F ht9⟩) hS.2.2 dX12_front_38
        · have e402 := e402
          have hz422 : at0 ≤ at379 := (by omega)
          have hz423 : at379 ≤ T := (by omega)
          have hz424 : fa380 ≤ 100 := (by omega)
          have hz425 : nd ≤ nd382 := (by omega)
          have hz426 : nd382 + 2 * at0 ≤ nd + 2 * at379 + 100000 * fa380 := (by omega)
          have hz427 : nd382 + 2 * at0 ≤ nd + 2 * at379 + 40 * (21 - ne) := (by omega)
          have hz428 : wr ≤ wr384 := (by omega)
          have hz429 : wr384 + at0 ≤ wr + at379 := (by omega)
          have hz430 : lk ≤ lk383 := (by omega)
          have hz431 : lk383 ≤ 60 + 100 * fa380 := (by omega)
          have hz432 : at0 + 1 ≤ at379 + fa380 := (by omega)
          have hz433 : r385 ≤ nd382 := (by omega)
          have hz434 : Kp B X386 wr384 T := hkp401
          have hz435 : If (fa380 = 0) (Low B X386 nd wr ∧ Frs K T wr384 X386 nd nd382 20000 [(r385, (210 + lk383 - (10 * ne + lk)))] ∧ kcl 1 (X386 9 r385) = true) := (fun e => absurd e (by omega))
          have hP : va_P G.1 pCl (mW G h0 a (upd (upd (upd (upd (upd (upd (upd F 15 (nI fa380)) 16 pl381) 27 (nI nd382)) 31 (nI wr384)) 64 (nI at379)) 65 (nI ne)) 66 (nI lk383)) (updA X386 2 K)) _ := hP
          have hD : va_D A (mW G h0 a (upd (upd (upd (upd (upd (upd (upd F 15 (nI fa380)) 16 pl381) 27 (nI nd382)) 31 (nI wr384)) 64 (nI at379)) 65 (nI ne)) 66 (nI lk383)) (updA X386 2 K)) := mW_D hD
          exact W.iret (v := (nI r385)) hx hb hr (fun t9 ht9 hW9 => ⟨⟨_, (at379, fa380, pl381, nd382, lk383, wr384, r385, X386), rfl, ⟨rfl, hz422, hz423, hz424, hz425, hz426, hz427, hz428, hz429, hz430, hz431, hz432, hz433, hz434, hz435⟩, by rw [ht9]; exact hP, hD⟩, hS.F ht9⟩) hS.2.2 dX12_front_38

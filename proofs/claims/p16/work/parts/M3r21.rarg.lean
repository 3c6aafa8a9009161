theorem dX12_arguments_19 : decode cX12_arguments 19 = .ok (.aload_n 0, 1) := by decide +kernel
theorem dX12_arguments_20 : decode cX12_arguments 20 = .ok (.invokevirtual 381, 3) := by decide +kernel
theorem dX12_arguments_23 : decode cX12_arguments 23 = .ok (.bipush 41, 2) := by decide +kernel
theorem dX12_arguments_25 : decode cX12_arguments 25 = .ok (.if_icmp .eq 7, 3) := by decide +kernel
theorem dX12_arguments_28 : decode cX12_arguments 28 = .ok (.iconst 1, 1) := by decide +kernel
theorem dX12_arguments_29 : decode cX12_arguments 29 = .ok (.goto 4, 3) := by decide +kernel
theorem dX12_arguments_38 : decode cX12_arguments 38 = .ok (.aload_n 0, 1) := by decide +kernel
theorem dX12_arguments_39 : decode cX12_arguments 39 = .ok (.getfield 350, 3) := by decide +kernel
theorem dX12_arguments_42 : decode cX12_arguments 42 = .ok (.ifCond .ne 46, 3) := by decide +kernel
theorem dX12_arguments_45 : decode cX12_arguments 45 = .ok (.aload_n 0, 1) := by decide +kernel
theorem dX12_arguments_46 : decode cX12_arguments 46 = .ok (.invokevirtual 447, 3) := by decide +kernel
theorem dX12_arguments_49 : decode cX12_arguments 49 = .ok (.istore 4, 2) := by decide +kernel
theorem dX12_arguments_51 : decode cX12_arguments 51 = .ok (.iload_n 2, 1) := by decide +kernel
theorem dX12_arguments_52 : decode cX12_arguments 52 = .ok (.iconst (-1), 1) := by decide +kernel
theorem dX12_arguments_53 : decode cX12_arguments 53 = .ok (.if_icmp .ne 14, 3) := by decide +kernel
theorem dX12_arguments_56 : decode cX12_arguments 56 = .ok (.aload_n 0, 1) := by decide +kernel
theorem dX12_arguments_57 : decode cX12_arguments 57 = .ok (.getfield 50, 3) := by decide +kernel
theorem dX12_arguments_60 : decode cX12_arguments 60 = .ok (.iload_n 1, 1) := by decide +kernel
theorem dX12_arguments_61 : decode cX12_arguments 61 = .ok (.iload 4, 2) := by decide +kernel
theorem dX12_arguments_63 : decode cX12_arguments 63 = .ok (.iastore, 1) := by decide +kernel
theorem dX12_arguments_64 : decode cX12_arguments 64 = .ok (.goto 11, 3) := by decide +kernel
theorem dX12_arguments_75 : decode cX12_arguments 75 = .ok (.iload 4, 2) := by decide +kernel
theorem dX12_arguments_77 : decode cX12_arguments 77 = .ok (.istore_n 2, 1) := by decide +kernel
theorem dX12_arguments_78 : decode cX12_arguments 78 = .ok (.aload_n 0, 1) := by decide +kernel
theorem dX12_arguments_79 : decode cX12_arguments 79 = .ok (.bipush 44, 2) := by decide +kernel
theorem dX12_arguments_81 : decode cX12_arguments 81 = .ok (.invokevirtual 378, 3) := by decide +kernel
theorem dX12_arguments_84 : decode cX12_arguments 84 = .ok (.istore_n 3, 1) := by decide +kernel
theorem dX12_arguments_85 : decode cX12_arguments 85 = .ok (.goto (-51), 3) := by decide +kernel
theorem dX12_arguments_67 : decode cX12_arguments 67 = .ok (.aload_n 0, 1) := by decide +kernel
theorem dX12_arguments_68 : decode cX12_arguments 68 = .ok (.getfield 59, 3) := by decide +kernel
theorem dX12_arguments_71 : decode cX12_arguments 71 = .ok (.iload_n 2, 1) := by decide +kernel
theorem dX12_arguments_72 : decode cX12_arguments 72 = .ok (.iload 4, 2) := by decide +kernel
theorem dX12_arguments_74 : decode cX12_arguments 74 = .ok (.iastore, 1) := by decide +kernel
set_option maxHeartbeats 2000000 in
set_option maxRecDepth 100000 in
/-- arguments(node), no fault ahead -/
theorem RT_arguments (l : Launch) (G : pT) (h0 : Nat) (a : Nat → Nat) (F : Nat → Int32) (B : Nat → Nat → Int32) (at0 : Nat) (T : Nat) (n : Nat) (ne : Nat) (nd : Nat) (wr : Nat) (lk : Nat) (K : Nat → Int32) (x : Nat) (lo : Nat) (zx : Nat) (zb : Nat) (k : Nat) (xa : Int32) (hat : at0 ≤ T) (hT : T ≤ 5000) (hK : K T = 0 ∨ K T = 3) (hne : ne ≤ 20) (hnd : nd ≤ 2 * at0) (hwr : wr ≤ at0) (hlk : lk ≤ 60) (hy : tkRow (B 19) wr T) (hn : 21 ≤ n + ne) (hF : Frs K T wr B lo nd x [(x, zx)]) (hNd : Nd B x (nI k) xa (-1) (-1) (-1)) (hkk : cdOf k 2 = 201 ∧ cdOf k 4 = 51 ∧ k ≤ 44 ∧ hdr (nI k) = 13 ∧ cdOf k 3 = 0) (hAn : need k 1 xa) (hb1 : zx ≤ zb) (hb2 : 210 ≤ zb + 10 * ne) (hlo : lo ≤ nd) (ihc : Pchoice l G (n - 1)) : PM l G pX0 yX12_arguments cX12_arguments 5 none ({ frames := (20 * n + 8), cells := 0, slots := 0, locals := (1000 * n + 40 * 8) }) [.ref h0, .int (nI x)] (mW G h0 a (upd (upd (upd (upd (upd (upd F 15 0) 27 (nI nd)) 31 (nI wr)) 64 (nI at0)) 65 (nI ne)) 66 (nI lk)) (updA B 2 K)) (fun (v : Option Value) (u : Nat × Nat × Int32 × Nat × Nat × Nat × (Nat → Nat → Int32)) => v = none ∧ (at0 ≤ u.1) ∧ (u.1 ≤ T) ∧ (u.2.1 ≤ 100) ∧ (nd ≤ u.2.2.2.1) ∧ (u.2.2.2.1 + 2 * at0 ≤ nd + 2 * u.1 + 100000 * u.2.1) ∧ (u.2.2.2.1 + 2 * at0 ≤ nd + 2 * u.1 + 40 * (21 - ne)) ∧ (wr ≤ u.2.2.2.2.2.1) ∧ (u.2.2.2.2.2.1 + at0 ≤ wr + u.1) ∧ (lk ≤ u.2.2.2.2.1) ∧ (u.2.2.2.2.1 ≤ 60 + 100 * u.2.1) ∧ (at0 + 1 ≤ u.1 + u.2.1) ∧ (Kp B u.2.2.2.2.2.2 u.2.2.2.2.2.1 T) ∧ (If (u.2.1 = 0) (Low B u.2.2.2.2.2.2 lo wr ∧ Frs K T u.2.2.2.2.2.1 u.2.2.2.2.2.2 lo u.2.2.2.1 20000 [(x, (zb + u.2.2.2.2.1 - lk))] ∧ u.2.2.2.2.2.2 9 x = nI k))) (fun u => (mW G h0 a (upd (upd (upd (upd (upd (upd (upd F 15 (nI u.2.1)) 16 u.2.2.1) 27 (nI u.2.2.2.1)) 31 (nI u.2.2.2.2.2.1)) 64 (nI u.1)) 65 (nI ne)) 66 (nI u.2.2.2.2.1)) (updA u.2.2.2.2.2.2 2 K))) := by
  intro sz
  refine Met.ofW (cc := cX12_arguments) (maxL := 5) (ret := none) (by decide) rfl ?_
  intro p e s m args below meth c s₁ B9 hml hv
  obtain ⟨rfl, hsz, hP, hD0, hE, hX⟩ := hv
  have hx := B9.exec
  have hb := B9.bytes
  have hr := B9.returns
  have hts := atoms_spec (ws := Cond.code yX12_arguments cX12_arguments 5 none :: pw) B9.pre
  have hq : ∀ w ∈ pw, w.before _ s = true := fun w h => hts w (List.mem_cons_of_mem _ h)
  have hown : s.vm.findClass RX12 = some m.cls := findClass_of_methodNamed B9.named
  have hlocks := B9.notSynchronized
  subst hsz
  have hD := hD0.self (sz := s.heap.size)
  have hA : ∀ q : Nat, s.heap.size ≤ q → va_A (mW G h0 a (upd (upd (upd (upd (upd (upd F 15 0) 27 (nI nd)) 31 (nI wr)) 64 (nI at0)) 65 (nI ne)) 66 (nI lk)) (updA B 2 K)) s.heap.size q := fun q h => Or.inr h
  have hP : va_P G.1 pCl (mW G h0 a (upd (upd (upd (upd (upd (upd F 15 0) 27 (nI nd)) 31 (nI wr)) 64 (nI at0)) 65 (nI ne)) 66 (nI lk)) (updA B 2 K)) s.heap := hP
  generalize va_A (mW G h0 a (upd (upd (upd (upd (upd (upd F 15 0) 27 (nI nd)) 31 (nI wr)) 64 (nI at0)) 65 (nI ne)) 66 (nI lk)) (updA B 2 K)) s.heap.size = A at hD hE hA ⊢
  have hS : va_S A s.heap s.heap [] := va_S.rf
  have hl := lv_entry ([.ref h0, .int (nI x)]) (n := 5) (Nat.le_of_ble_eq_true rfl)
  rw [lg_entry_eq]
  generalize (lg_sl ([.ref h0, .int (nI x)]) ++ List.replicate (5 - (lg_sl ([.ref h0, .int (nI x)])).length) Slot.unset).toArray = ls at hl ⊢
  have hl : lv_has ls 5 [(0, .ref h0), (1, .int (nI x))] := hl
  have hkp1 : Kp B B wr T := Kp.rfl hy
  have hlo2 : Low B B lo wr := Low.rfl
  have hxm := Frs.mem hF
  refine lv_aload_n hx hb dX12_arguments_0 rfl (lv_at hl 0 rfl) ?_
  have hP : va_P G.1 pCl (mW G h0 a (upd (upd (upd (upd (upd (upd (upd (upd (upd F 15 0) 27 (nI nd)) 31 (nI wr)) 64 (nI at0)) 65 (nI ne)) 66 (nI lk)) 15 (nI 0)) 64 (nI at0)) 65 (nI ne)) (updA (updA B 2 K) 2 K)) _ := mW_to (F := F) (l1 := [(15, 0), (27, (nI nd)), (31, (nI wr)), (64, (nI at0)), (65, (nI ne)), (66, (nI lk))]) (l2 := [(15, 0), (27, (nI nd)), (31, (nI wr)), (64, (nI at0)), (65, (nI ne)), (66, (nI lk)), (15, (nI 0)), (64, (nI at0)), (65, (nI ne))]) (V := [(nI 0), (nI nd), (nI wr), (nI at0), (nI ne), (nI lk), (nI 0), (nI nd), (nI wr), (nI at0), (nI ne), (nI lk), (nI 0), (nI at0), (nI ne)]) rfl rfl (show (updA B 2 K) = (updA (updA B 2 K) 2 K) from updsA_eq2 (F := B) (l1 := [(2, K)]) (l2 := [(2, K), (2, K)]) (V := [K, K, K]) rfl rfl) hP
  have hD : va_D A (mW G h0 a (upd (upd (upd (upd (upd (upd (upd (upd (upd F 15 0) 27 (nI nd)) 31 (nI wr)) 64 (nI at0)) 65 (nI ne)) 66 (nI lk)) 15 (nI 0)) 64 (nI at0)) 65 (nI ne)) (updA (updA B 2 K) 2 K)) := mW_D hD
  refine pc_V0 (G := G) (As := []) (rest := []) hx hb hml hown hq hE hX pX0_al hP hD hS hA hl.1 (R_deeper l G h0 a (upd (upd (upd (upd (upd (upd F 15 0) 27 (nI nd)) 31 (nI wr)) 64 (nI at0)) 65 (nI ne)) 66 (nI lk)) (updA B 2 K) at0 T 0 K ne (by omega) (by omega) hK (by omega) (by omega)) (gV pw_1637 pw_1638 pw_1639 pw_1523 pw_1611) hV_X12_deeper 0 9 rfl rfl rfl rfl (Nat.le_of_ble_eq_true rfl) dX12_arguments_1 ⟨Nat.le_of_ble_eq_true rfl, Nat.le_of_ble_eq_true rfl⟩ ⟨(by show 4 + 1 ≤ (20 * n + 8); omega), (by show 8 + (1 + 11) + 103 ≤ (1000 * n + 40 * 8); omega)⟩ (fun v5 u3 H locs hw4 hP hD hS => ?_)
  obtain ⟨fa6, pl7⟩ := u3
  obtain ⟨hw4, h8, h9, h10, h11⟩ := hw4
  have h8 : 0 ≤ fa6 := h8
  have h9 : fa6 ≤ 100 := h9
  have h10 : If (0 < 0) (fa6 = 0) := h10
  have h11 : If (ne ≤ 20) (ne + 1 ≤ 20 + fa6) := h11
  obtain rfl : v5 = none := hw4
  have hP : va_P G.1 pCl (mW G h0 a (upd (upd (upd (upd (upd (upd (upd F 15 (nI fa6)) 16 pl7) 27 (nI nd)) 31 (nI wr)) 64 (nI at0)) 65 (nI (ne + 1))) 66 (nI lk)) (updA B 2 K)) _ := mW_to (F := F) (l1 := [(15, 0), (27, (nI nd)), (31, (nI wr)), (64, (nI at0)), (65, (nI ne)), (66, (nI lk)), (15, (nI fa6)), (16, pl7), (64, (nI at0)), (65, (nI (ne + 1)))]) (l2 := [(15, (nI fa6)), (16, pl7), (27, (nI nd)), (31, (nI wr)), (64, (nI at0)), (65, (nI (ne + 1))), (66, (nI lk))]) (V := [(nI fa6), (nI nd), (nI wr), (nI at0), (nI (ne + 1)), (nI lk), (nI fa6), pl7, (nI at0), (nI (ne + 1)), (nI fa6), pl7, (nI nd), (nI wr), (nI at0), (nI (ne + 1)), (nI lk)]) rfl rfl (show (updA (updA B 2 K) 2 K) = (updA B 2 K) from updsA_eq2 (F := B) (l1 := [(2, K), (2, K)]) (l2 := [(2, K)]) (V := [K, K, K]) rfl rfl) hP
  have hD : va_D A (mW G h0 a (upd (upd (upd (upd (upd (upd (upd F 15 (nI fa6)) 16 pl7) 27 (nI nd)) 31 (nI wr)) 64 (nI at0)) 65 (nI (ne + 1))) 66 (nI lk)) (updA B 2 K)) := mW_D hD
  refine W.widen (k := 0) (n := 0) (Nat.le_of_ble_eq_true rfl) (Nat.le_of_ble_eq_true rfl) ?_
  refine W.eq (g2 := F0 m 4 ls []) rfl ?_
  rcases Nat.eq_zero_or_pos fa6 with e12 | e12
  · subst e12
    have hP : va_P G.1 pCl (mW G h0 a (upd (upd (upd (upd (upd (upd (upd F 15 0) 16 pl7) 27 (nI nd)) 31 (nI wr)) 64 (nI at0)) 65 (nI (ne + 1))) 66 (nI lk)) (updA B 2 K)) _ := hP
    have hD : va_D A (mW G h0 a (upd (upd (upd (upd (upd (upd (upd F 15 0) 16 pl7) 27 (nI nd)) 31 (nI wr)) 64 (nI at0)) 65 (nI (ne + 1))) 66 (nI lk)) (updA B 2 K)) := mW_D hD
    have n13 : ne + 1 ≤ 20 := (h11 (by omega))
    refine lv_aload_n hx hb dX12_arguments_4 rfl (lv_at hl 0 rfl) ?_
    refine lv_bipush (v := 40) hx hb dX12_arguments_5 (by decide) ?_
    have hP : va_P G.1 pCl (mW G h0 a (upd (upd (upd (upd (upd (upd (upd (upd (upd F 15 0) 16 pl7) 27 (nI nd)) 31 (nI wr)) 64 (nI at0)) 65 (nI (ne + 1))) 66 (nI lk)) 15 (nI 0)) 64 (nI at0)) (updA (updA B 2 K) 2 K)) _ := mW_to (F := F) (l1 := [(15, 0), (16, pl7), (27, (nI nd)), (31, (nI wr)), (64, (nI at0)), (65, (nI (ne + 1))), (66, (nI lk))]) (l2 := [(15, 0), (16, pl7), (27, (nI nd)), (31, (nI wr)), (64, (nI at0)), (65, (nI (ne + 1))), (66, (nI lk)), (15, (nI 0)), (64, (nI at0))]) (V := [(nI 0), pl7, (nI nd), (nI wr), (nI at0), (nI (ne + 1)), (nI lk), (nI 0), pl7, (nI nd), (nI wr), (nI at0), (nI (ne + 1)), (nI lk), (nI 0), (nI at0)]) rfl rfl (show (updA B 2 K) = (updA (updA B 2 K) 2 K) from updsA_eq2 (F := B) (l1 := [(2, K)]) (l2 := [(2, K), (2, K)]) (V := [K, K, K]) rfl rfl) hP
    have hD : va_D A (mW G h0 a (upd (upd (upd (upd (upd (upd (upd (upd (upd F 15 0) 16 pl7) 27 (nI nd)) 31 (nI wr)) 64 (nI at0)) 65 (nI (ne + 1))) 66 (nI lk)) 15 (nI 0)) 64 (nI at0)) (updA (updA B 2 K) 2 K)) := mW_D hD
    refine pc_V0 (G := G) (As := [.int 40]) (rest := []) hx hb hml hown hq hE hX pX0_al hP hD hS hA hl.1 (R_take l G h0 a (upd (upd (upd (upd (upd (upd (upd F 15 0) 16 pl7) 27 (nI nd)) 31 (nI wr)) 64 (nI at0)) 65 (nI (ne + 1))) 66 (nI lk)) (updA B 2 K) at0 T 0 K 40 (by omega) (by omega) hK (by omega) (by decide) (by decide)) (gV pw_1614 pw_1615 pw_1616 pw_1523 pw_1601) hV_X12_take 0 9 rfl rfl rfl rfl (Nat.le_of_ble_eq_true rfl) dX12_arguments_7 ⟨Nat.le_of_ble_eq_true rfl, Nat.le_of_ble_eq_true rfl⟩ ⟨(by show 4 + 1 ≤ (20 * n + 8); omega), (by show 8 + (2 + 11) + 103 ≤ (1000 * n + 40 * 8); omega)⟩ (fun v16 u14 H locs hw15 hP hD hS => ?_)
    obtain ⟨at17, fa18, pl19⟩ := u14
    obtain ⟨hw15, h20, h21, h22, h23, h24, h25, h26, h27⟩ := hw15
    have h20 : at0 ≤ at17 := h20
    have h21 : at17 ≤ T := h21
    have h22 : 0 ≤ fa18 := h22
    have h23 : fa18 ≤ 100 := h23
    have h24 : If (0 < 0) (at17 = at0 ∧ fa18 = 0) := h24
    have h25 : at17 ≤ at0 + 1 := h25
    have h26 : at0 + 1 ≤ at17 + fa18 := h26
    have h27 : If (fa18 = 0) (K at0 = 40) := h27
    obtain rfl : v16 = none := hw15
    have hP : va_P G.1 pCl (mW G h0 a (upd (upd (upd (upd (upd (upd (upd F 15 (nI fa18)) 16 pl19) 27 (nI nd)) 31 (nI wr)) 64 (nI at17)) 65 (nI (ne + 1))) 66 (nI lk)) (updA B 2 K)) _ := mW_to (F := F) (l1 := [(15, 0), (16, pl7), (27, (nI nd)), (31, (nI wr)), (64, (nI at0)), (65, (nI (ne + 1))), (66, (nI lk)), (15, (nI fa18)), (16, pl19), (64, (nI at17))]) (l2 := [(15, (nI fa18)), (16, pl19), (27, (nI nd)), (31, (nI wr)), (64, (nI at17)), (65, (nI (ne + 1))), (66, (nI lk))]) (V := [(nI fa18), pl19, (nI nd), (nI wr), (nI at17), (nI (ne + 1)), (nI lk), (nI fa18), pl19, (nI at17), (nI fa18), pl19, (nI nd), (nI wr), (nI at17), (nI (ne + 1)), (nI lk)]) rfl rfl (show (updA (updA B 2 K) 2 K) = (updA B 2 K) from updsA_eq2 (F := B) (l1 := [(2, K), (2, K)]) (l2 := [(2, K)]) (V := [K, K, K]) rfl rfl) hP
    have hD : va_D A (mW G h0 a (upd (upd (upd (upd (upd (upd (upd F 15 (nI fa18)) 16 pl19) 27 (nI nd)) 31 (nI wr)) 64 (nI at17)) 65 (nI (ne + 1))) 66 (nI lk)) (updA B 2 K)) := mW_D hD
    refine W.widen (k := 0) (n := 0) (Nat.le_of_ble_eq_true rfl) (Nat.le_of_ble_eq_true rfl) ?_
    refine W.eq (g2 := F0 m 10 ls []) rfl ?_
    rcases Nat.eq_zero_or_pos fa18 with e28 | e28
    · subst e28
      have hP : va_P G.1 pCl (mW G h0 a (upd (upd (upd (upd (upd (upd (upd F 15 0) 16 pl19) 27 (nI nd)) 31 (nI wr)) 64 (nI at17)) 65 (nI (ne + 1))) 66 (nI lk)) (updA B 2 K)) _ := hP
      have hD : va_D A (mW G h0 a (upd (upd (upd (upd (upd (upd (upd F 15 0) 16 pl19) 27 (nI nd)) 31 (nI wr)) 64 (nI at17)) 65 (nI (ne + 1))) 66 (nI lk)) (updA B 2 K)) := mW_D hD
      refine lv_iconst (v := (-1)) hx hb dX12_arguments_10 (by decide) ?_
      refine lv_istore_n (lv' := [(2, .int (-1)), (0, .ref h0), (1, .int (nI x))]) hx hb dX12_arguments_11 rfl hl (by decide) rfl (fun ls hl => ?_)
      refine lv_aload_n hx hb dX12_arguments_12 rfl (lv_at hl 1 rfl) ?_
      refine r_get (v := .int 0) hx hb hown hq hE hP 15 350 tFX12_15 (by decide) pw_1594 rfl dX12_arguments_13 ?_
      refine lv_if_ne (tgt := 32) hx hb dX12_arguments_16 (by decide) (fun c29 => absurd c29 (by decide)) (fun c29 => ?_)
      refine lv_aload_n hx hb dX12_arguments_19 rfl (lv_at hl 1 rfl) ?_
      have hP : va_P G.1 pCl (mW G h0 a (upd (upd (upd (upd (upd (upd (upd (upd (upd F 15 0) 16 pl19) 27 (nI nd)) 31 (nI wr)) 64 (nI at17)) 65 (nI (ne + 1))) 66 (nI lk)) 15 (nI 0)) 64 (nI at17)) (updA (updA B 2 K) 2 K)) _ := mW_to (F := F) (l1 := [(15, 0), (16, pl19), (27, (nI nd)), (31, (nI wr)), (64, (nI at17)), (65, (nI (ne + 1))), (66, (nI lk))]) (l2 := [(15, 0), (16, pl19), (27, (nI nd)), (31, (nI wr)), (64, (nI at17)), (65, (nI (ne + 1))), (66, (nI lk)), (15, (nI 0)), (64, (nI at17))]) (V := [(nI 0), pl19, (nI nd), (nI wr), (nI at17), (nI (ne + 1)), (nI lk), (nI 0), pl19, (nI nd), (nI wr), (nI at17), (nI (ne + 1)), (nI lk), (nI 0), (nI at17)]) rfl rfl (show (updA B 2 K) = (updA (updA B 2 K) 2 K) from updsA_eq2 (F := B) (l1 := [(2, K)]) (l2 := [(2, K), (2, K)]) (V := [K, K, K]) rfl rfl) hP
      have hD : va_D A (mW G h0 a (upd (upd (upd (upd (upd (upd (upd (upd (upd F 15 0) 16 pl19) 27 (nI nd)) 31 (nI wr)) 64 (nI at17)) 65 (nI (ne + 1))) 66 (nI lk)) 15 (nI 0)) 64 (nI at17)) (updA (updA B 2 K) 2 K)) := mW_D hD
      refine pc_V0 (G := G) (As := []) (rest := []) hx hb hml hown hq hE hX pX0_al hP hD hS hA hl.1 (R_kind l G h0 a (upd (upd (upd (upd (upd (upd (upd F 15 0) 16 pl19) 27 (nI nd)) 31 (nI wr)) 64 (nI at17)) 65 (nI (ne + 1))) 66 (nI lk)) (updA B 2 K) at17 T 0 K (by omega) (by omega) hK (by omega)) (gV pw_1626 pw_1627 pw_1628 pw_1523 pw_1591) hV_X12_kind 0 9 rfl rfl rfl rfl (Nat.le_of_ble_eq_true rfl) dX12_arguments_20 ⟨Nat.le_of_ble_eq_true rfl, Nat.le_of_ble_eq_true rfl⟩ ⟨(by show 2 + 1 ≤ (20 * n + 8); omega), (by show 8 + (1 + 11) + 60 ≤ (1000 * n + 40 * 8); omega)⟩ (fun v32 u30 H locs hw31 hP hD hS => ?_)
      obtain rfl : v32 = some (.int (K at17)) := hw31
      have hP : va_P G.1 pCl (mW G h0 a (upd (upd (upd (upd (upd (upd (upd F 15 0) 16 pl19) 27 (nI nd)) 31 (nI wr)) 64 (nI at17)) 65 (nI (ne + 1))) 66 (nI lk)) (updA B 2 K)) _ := mW_to (F := F) (l1 := [(15, 0), (16, pl19), (27, (nI nd)), (31, (nI wr)), (64, (nI at17)), (65, (nI (ne + 1))), (66, (nI lk)), (15, (nI 0)), (64, (nI at17))]) (l2 := [(15, 0), (16, pl19), (27, (nI nd)), (31, (nI wr)), (64, (nI at17)), (65, (nI (ne + 1))), (66, (nI lk))]) (V := [0, pl19, (nI nd), (nI wr), (nI at17), (nI (ne + 1)), (nI lk), 0, (nI at17), 0, pl19, (nI nd), (nI wr), (nI at17), (nI (ne + 1)), (nI lk)]) rfl rfl (show (updA (updA B 2 K) 2 K) = (updA B 2 K) from updsA_eq2 (F := B) (l1 := [(2, K), (2, K)]) (l2 := [(2, K)]) (V := [K, K, K]) rfl rfl) hP
      have hD : va_D A (mW G h0 a (upd (upd (upd (upd (upd (upd (upd F 15 0) 16 pl19) 27 (nI nd)) 31 (nI wr)) 64 (nI at17)) 65 (nI (ne + 1))) 66 (nI lk)) (updA B 2 K)) := mW_D hD
      refine W.widen (k := 0) (n := 0) (Nat.le_of_ble_eq_true rfl) (Nat.le_of_ble_eq_true rfl) ?_
      refine W.eq (g2 := F0 m 23 ls [.int (K at17)]) rfl ?_
      refine lv_bipush (v := 41) hx hb dX12_arguments_23 (by decide) ?_
      refine lv_icmp_eq (tgt := 32) hx hb dX12_arguments_25 (by decide) (fun c33 => ?_) (fun c33 => ?_)
      · refine lv_iconst (v := 0) hx hb dX12_arguments_32 (by decide) ?_
        refine lv_istore_n (lv' := [(3, .int 0), (2, .int (-1)), (0, .ref h0), (1, .int (nI x))]) hx hb dX12_arguments_33 rfl hl (by decide) rfl (fun ls hl => ?_)
        refine lv_iload_n hx hb dX12_arguments_34 rfl (lv_at hl 0 rfl) ?_
        refine lv_if_eq (tgt := 88) hx hb dX12_arguments_35 (by decide) (fun c34 => ?_) (fun c34 => absurd c34 (by decide))
        refine lv_aload_n hx hb dX12_arguments_88 rfl (lv_at hl 2 rfl) ?_
        refine r_get (v := .ref (a 15)) hx hb hown hq hE hP 23 56 tFX12_23 (by decide) pw_1445 rfl dX12_arguments_89 ?_
        refine lv_iload_n hx hb dX12_arguments_92 rfl (lv_at hl 3 rfl) ?_
        refine lv_aload_n hx hb dX12_arguments_93 rfl (lv_at hl 2 rfl) ?_
        refine r_get (v := .int (nI at17)) hx hb hown hq hE hP 64 343 tFX12_64 (by decide) pw_1592 rfl dX12_arguments_94 ?_
        refine r_sti (f := (B 15)) (j := x) hx hb hE hP hD hS 15 (ma_15 G a _) rfl (mas_15 G a _) (by omega) (by decide) dX12_arguments_97 (fun H locs hP hD hS => ?_)
        have hP : va_P G.1 pCl (mW G h0 a (upd (upd (upd (upd (upd (upd (upd F 15 0) 16 pl19) 27 (nI nd)) 31 (nI wr)) 64 (nI at17)) 65 (nI (ne + 1))) 66 (nI lk)) (updA (stR B 15 x (nI at17)) 2 K)) _ := mW_to (F := F) (l1 := [(15, 0), (16, pl19), (27, (nI nd)), (31, (nI wr)), (64, (nI at17)), (65, (nI (ne + 1))), (66, (nI lk))]) (l2 := [(15, 0), (16, pl19), (27, (nI nd)), (31, (nI wr)), (64, (nI at17)), (65, (nI (ne + 1))), (66, (nI lk))]) (V := [0, pl19, (nI nd), (nI wr), (nI at17), (nI (ne + 1)), (nI lk), 0, pl19, (nI nd), (nI wr), (nI at17), (nI (ne + 1)), (nI lk)]) rfl rfl (show (updA (updA B 2 K) 15 (upd (B 15) x (nI at17))) = (updA (stR B 15 x (nI at17)) 2 K) from updsA_eq2 (F := B) (l1 := [(2, K), (15, (upd (B 15) x (nI at17)))]) (l2 := [(15, (upd (B 15) x (nI at17))), (2, K)]) (V := [K, (upd (B 15) x (nI at17)), (upd (B 15) x (nI at17)), K]) rfl rfl) hP
        have hD : va_D A (mW G h0 a (upd (upd (upd (upd (upd (upd (upd F 15 0) 16 pl19) 27 (nI nd)) 31 (nI wr)) 64 (nI at17)) 65 (nI (ne + 1))) 66 (nI lk)) (updA (stR B 15 x (nI at17)) 2 K)) := mW_D hD
        have hkp35 : Kp B (stR B 15 x (nI at17)) wr T := (Kp.row hkp1 (by omega))
        have hlo36 : Low B (stR B 15 x (nI at17)) lo wr := (Low.st hlo2 (by omega) (by omega))
        have hn37 : Nd (stR B 15 x (nI at17)) x (nI k) xa (-1) (-1) (nI at17) := (Nd.st hNd (by omega))
        have hf38 : Frs K T wr (stR B 15 x (nI at17)) lo nd x [(x, zx)] := (Frs.tok (k := k) hF (by omega) hNd.1 (by omega) hkk.2.1 hNd.2.2.2.2 (by omega))
        refine lv_aload_n hx hb dX12_arguments_98 rfl (lv_at hl 2 rfl) ?_
        refine lv_bipush (v := 41) hx hb dX12_arguments_99 (by decide) ?_
        have hP : va_P G.1 pCl (mW G h0 a (upd (upd (upd (upd (upd (upd (upd (upd (upd F 15 0) 16 pl19) 27 (nI nd)) 31 (nI wr)) 64 (nI at17)) 65 (nI (ne + 1))) 66 (nI lk)) 15 (nI 0)) 64 (nI at17)) (updA (updA (stR B 15 x (nI at17)) 2 K) 2 K)) _ := mW_to (F := F) (l1 := [(15, 0), (16, pl19), (27, (nI nd)), (31, (nI wr)), (64, (nI at17)), (65, (nI (ne + 1))), (66, (nI lk))]) (l2 := [(15, 0), (16, pl19), (27, (nI nd)), (31, (nI wr)), (64, (nI at17)), (65, (nI (ne + 1))), (66, (nI lk)), (15, (nI 0)), (64, (nI at17))]) (V := [(nI 0), pl19, (nI nd), (nI wr), (nI at17), (nI (ne + 1)), (nI lk), (nI 0), pl19, (nI nd), (nI wr), (nI at17), (nI (ne + 1)), (nI lk), (nI 0), (nI at17)]) rfl rfl (show (updA (stR B 15 x (nI at17)) 2 K) = (updA (updA (stR B 15 x (nI at17)) 2 K) 2 K) from updsA_eq2 (F := B) (l1 := [(15, (upd (B 15) x (nI at17))), (2, K)]) (l2 := [(15, (upd (B 15) x (nI at17))), (2, K), (2, K)]) (V := [(upd (B 15) x (nI at17)), K, (upd (B 15) x (nI at17)), K, K]) rfl rfl) hP
        have hD : va_D A (mW G h0 a (upd (upd (upd (upd (upd (upd (upd (upd (upd F 15 0) 16 pl19) 27 (nI nd)) 31 (nI wr)) 64 (nI at17)) 65 (nI (ne + 1))) 66 (nI lk)) 15 (nI 0)) 64 (nI at17)) (updA (updA (stR B 15 x (nI at17)) 2 K) 2 K)) := mW_D hD
        refine pc_V0 (G := G) (As := [.int 41]) (rest := []) hx hb hml hown hq hE hX pX0_al hP hD hS hA hl.1 (R_take l G h0 a (upd (upd (upd (upd (upd (upd (upd F 15 0) 16 pl19) 27 (nI nd)) 31 (nI wr)) 64 (nI at17)) 65 (nI (ne + 1))) 66 (nI lk)) (updA (stR B 15 x (nI at17)) 2 K) at17 T 0 K 41 (by omega) (by omega) hK (by omega) (by decide) (by decide)) (gV pw_1614 pw_1615 pw_1616 pw_1523 pw_1601) hV_X12_take 0 9 rfl rfl rfl rfl (Nat.le_of_ble_eq_true rfl) dX12_arguments_101 ⟨Nat.le_of_ble_eq_true rfl, Nat.le_of_ble_eq_true rfl⟩ ⟨(by show 4 + 1 ≤ (20 * n + 8); omega), (by show 8 + (2 + 11) + 103 ≤ (1000 * n + 40 * 8); omega)⟩ (fun v41 u39 H locs hw40 hP hD hS => ?_)
        obtain ⟨at42, fa43, pl44⟩ := u39
        obtain ⟨hw40, h45, h46, h47, h48, h49, h50, h51, h52⟩ := hw40
        have h45 : at17 ≤ at42 := h45
        have h46 : at42 ≤ T := h46
        have h47 : 0 ≤ fa43 := h47
        have h48 : fa43 ≤ 100 := h48
        have h49 : If (0 < 0) (at42 = at17 ∧ fa43 = 0) := h49
        have h50 : at42 ≤ at17 + 1 := h50
        have h51 : at17 + 1 ≤ at42 + fa43 := h51
        have h52 : If (fa43 = 0) (K at17 = 41) := h52
        obtain rfl : v41 = none := hw40
        have hP : va_P G.1 pCl (mW G h0 a (upd (upd (upd (upd (upd (upd (upd F 15 (nI fa43)) 16 pl44) 27 (nI nd)) 31 (nI wr)) 64 (nI at42)) 65 (nI (ne + 1))) 66 (nI lk)) (updA (stR B 15 x (nI at17)) 2 K)) _ := mW_to (F := F) (l1 := [(15, 0), (16, pl19), (27, (nI nd)), (31, (nI wr)), (64, (nI at17)), (65, (nI (ne + 1))), (66, (nI lk)), (15, (nI fa43)), (16, pl44), (64, (nI at42))]) (l2 := [(15, (nI fa43)), (16, pl44), (27, (nI nd)), (31, (nI wr)), (64, (nI at42)), (65, (nI (ne + 1))), (66, (nI lk))]) (V := [(nI fa43), pl44, (nI nd), (nI wr), (nI at42), (nI (ne + 1)), (nI lk), (nI fa43), pl44, (nI at42), (nI fa43), pl44, (nI nd), (nI wr), (nI at42), (nI (ne + 1)), (nI lk)]) rfl rfl (show (updA (updA (stR B 15 x (nI at17)) 2 K) 2 K) = (updA (stR B 15 x (nI at17)) 2 K) from updsA_eq2 (F := B) (l1 := [(15, (upd (B 15) x (nI at17))), (2, K), (2, K)]) (l2 := [(15, (upd (B 15) x (nI at17))), (2, K)]) (V := [(upd (B 15) x (nI at17)), K, K, (upd (B 15) x (nI at17)), K]) rfl rfl) hP
        have hD : va_D A (mW G h0 a (upd (upd (upd (upd (upd (upd (upd F 15 (nI fa43)) 16 pl44) 27 (nI nd)) 31 (nI wr)) 64 (nI at42)) 65 (nI (ne + 1))) 66 (nI lk)) (updA (stR B 15 x (nI at17)) 2 K)) := mW_D hD
        refine W.widen (k := 0) (n := 0) (Nat.le_of_ble_eq_true rfl) (Nat.le_of_ble_eq_true rfl) ?_
        refine W.eq (g2 := F0 m 104 ls []) rfl ?_
        rcases Nat.eq_zero_or_pos fa43 with e53 | e53
        · subst e53
          have hP : va_P G.1 pCl (mW G h0 a (upd (upd (upd (upd (upd (upd (upd F 15 0) 16 pl44) 27 (nI nd)) 31 (nI wr)) 64 (nI at42)) 65 (nI (ne + 1))) 66 (nI lk)) (updA (stR B 15 x (nI at17)) 2 K)) _ := hP
          have hD : va_D A (mW G h0 a (upd (upd (upd (upd (upd (upd (upd F 15 0) 16 pl44) 27 (nI nd)) 31 (nI wr)) 64 (nI at42)) 65 (nI (ne + 1))) 66 (nI lk)) (updA (stR B 15 x (nI at17)) 2 K)) := mW_D hD
          refine lv_aload_n hx hb dX12_arguments_104 rfl (lv_at hl 2 rfl) ?_
          refine lv_dup hx hb dX12_arguments_105 rfl ?_
          refine r_get (v := .int (nI (ne + 1))) hx hb hown hq hE hP 65 366 tFX12_65 (by decide) pw_1612 rfl dX12_arguments_106 ?_
          refine lv_iconst (v := 1) hx hb dX12_arguments_109 (by decide) ?_
          refine lv_isub hx hb dX12_arguments_110 ?_
          refine lv_topi (fun x54 e55 => ?_)
          obtain rfl : x54 = nI ((ne + 1) - 1) := e55.trans (nI_subN (a := 1) (b := (ne + 1)) (by omega))
          refine r_put (v := (nI ((ne + 1) - 1))) (ty := .int) hx hb hown hq hE hP hD hS 65 366 tFX12_65 (by decide) pw_1612 (by decide) rfl rfl (ms_65 a _ _) dX12_arguments_111 (fun H locs hP hD hS => ?_)
          have hf56 : Frs K T wr (stR B 15 x (nI at17)) lo nd 20000 [(x, zx)] := (Frs.fin (k := k) hf38 hn37 rfl (by omega) hAn (fun h => absurd h (by omega)) (fun h => absurd h (by omega)) (fun _ => nI_m1 (by omega)))
          have hz57 : at0 ≤ at42 := (by omega)
          have hz58 : at42 ≤ T := (by omega)
          have hz59 : 0 ≤ 100 := (by omega)
          have hz60 : nd ≤ nd := (by omega)
          have hz61 : nd + 2 * at0 ≤ nd + 2 * at42 + 100000 * 0 := (by omega)
          have hz62 : nd + 2 * at0 ≤ nd + 2 * at42 + 40 * (21 - ne) := (by omega)
          have hz63 : wr ≤ wr := (by omega)
          have hz64 : wr + at0 ≤ wr + at42 := (by omega)
          have hz65 : lk ≤ lk := (by omega)
          have hz66 : lk ≤ 60 + 100 * 0 := (by omega)
          have hz67 : at0 + 1 ≤ at42 + 0 := (by omega)
          have hz68 : Kp B (stR B 15 x (nI at17)) wr T := hkp35
          have hz69 : If (0 = 0) (Low B (stR B 15 x (nI at17)) lo wr ∧ Frs K T wr (stR B 15 x (nI at17)) lo nd 20000 [(x, (zb + lk - lk))] ∧ (stR B 15 x (nI at17)) 9 x = nI k) := (fun _ => ⟨hlo36, Frs.up hf56 (by omega), hn37.1⟩)
          have hP : va_P G.1 pCl (mW G h0 a (upd (upd (upd (upd (upd (upd (upd F 15 (nI 0)) 16 pl44) 27 (nI nd)) 31 (nI wr)) 64 (nI at42)) 65 (nI ne)) 66 (nI lk)) (updA (stR B 15 x (nI at17)) 2 K)) _ := mW_to (F := F) (l1 := [(15, 0), (16, pl44), (27, (nI nd)), (31, (nI wr)), (64, (nI at42)), (65, (nI (ne + 1))), (66, (nI lk)), (65, (nI ((ne + 1) - 1)))]) (l2 := [(15, (nI 0)), (16, pl44), (27, (nI nd)), (31, (nI wr)), (64, (nI at42)), (65, (nI ne)), (66, (nI lk))]) (V := [(nI 0), pl44, (nI nd), (nI wr), (nI at42), (nI ne), (nI lk), (nI ne), (nI 0), pl44, (nI nd), (nI wr), (nI at42), (nI ne), (nI lk)]) rfl rfl rfl hP
          have hD : va_D A (mW G h0 a (upd (upd (upd (upd (upd (upd (upd F 15 (nI 0)) 16 pl44) 27 (nI nd)) 31 (nI wr)) 64 (nI at42)) 65 (nI ne)) 66 (nI lk)) (updA (stR B 15 x (nI at17)) 2 K)) := mW_D hD
          exact W.vret hx hb hr (fun t9 ht9 hW9 => ⟨⟨_, (at42, 0, pl44, nd, lk, wr, (stR B 15 x (nI at17))), rfl, ⟨rfl, hz57, hz58, hz59, hz60, hz61, hz62, hz63, hz64, hz65, hz66, hz67, hz68, hz69⟩, by rw [ht9]; exact hP, hD⟩, hS.F ht9⟩) hS.2.2 dX12_arguments_114
        · have e53 := e53
          refine lv_aload_n hx hb dX12_arguments_104 rfl (lv_at hl 2 rfl) ?_
          refine lv_dup hx hb dX12_arguments_105 rfl ?_
          refine r_get (v := .int (nI (ne + 1))) hx hb hown hq hE hP 65 366 tFX12_65 (by decide) pw_1612 rfl dX12_arguments_106 ?_
          refine lv_iconst (v := 1) hx hb dX12_arguments_109 (by decide) ?_
          refine lv_isub hx hb dX12_arguments_110 ?_
          refine lv_topi (fun x70 e71 => ?_)
          obtain rfl : x70 = nI ((ne + 1) - 1) := e71.trans (nI_subN (a := 1) (b := (ne + 1)) (by omega))
          refine r_put (v := (nI ((ne + 1) - 1))) (ty := .int) hx hb hown hq hE hP hD hS 65 366 tFX12_65 (by decide) pw_1612 (by decide) rfl rfl (ms_65 a _ _) dX12_arguments_111 (fun H locs hP hD hS => ?_)
          have hz72 : at0 ≤ at42 := (by omega)
          have hz73 : at42 ≤ T := (by omega)
          have hz74 : fa43 ≤ 100 := (by omega)
          have hz75 : nd ≤ nd := (by omega)
          have hz76 : nd + 2 * at0 ≤ nd + 2 * at42 + 100000 * fa43 := (by omega)
          have hz77 : nd + 2 * at0 ≤ nd + 2 * at42 + 40 * (21 - ne) := (by omega)
          have hz78 : wr ≤ wr := (by omega)
          have hz79 : wr + at0 ≤ wr + at42 := (by omega)
          have hz80 : lk ≤ lk := (by omega)
          have hz81 : lk ≤ 60 + 100 * fa43 := (by omega)
          have hz82 : at0 + 1 ≤ at42 + fa43 := (by omega)
          have hz83 : Kp B (stR B 15 x (nI at17)) wr T := hkp35
          have hz84 : If (fa43 = 0) (Low B (stR B 15 x (nI at17)) lo wr ∧ Frs K T wr (stR B 15 x (nI at17)) lo nd 20000 [(x, (zb + lk - lk))] ∧ (stR B 15 x (nI at17)) 9 x = nI k) := (fun e => absurd e (by omega))
          have hP : va_P G.1 pCl (mW G h0 a (upd (upd (upd (upd (upd (upd (upd F 15 (nI fa43)) 16 pl44) 27 (nI nd)) 31 (nI wr)) 64 (nI at42)) 65 (nI ne)) 66 (nI lk)) (updA (stR B 15 x (nI at17)) 2 K)) _ := mW_to (F := F) (l1 := [(15, (nI fa43)), (16, pl44), (27, (nI nd)), (31, (nI wr)), (64, (nI at42)), (65, (nI (ne + 1))), (66, (nI lk)), (65, (nI ((ne + 1) - 1)))]) (l2 := [(15, (nI fa43)), (16, pl44), (27, (nI nd)), (31, (nI wr)), (64, (nI at42)), (65, (nI ne)), (66, (nI lk))]) (V := [(nI fa43), pl44, (nI nd), (nI wr), (nI at42), (nI ne), (nI lk), (nI ne), (nI fa43), pl44, (nI nd), (nI wr), (nI at42), (nI ne), (nI lk)]) rfl rfl rfl hP
          have hD : va_D A (mW G h0 a (upd (upd (upd (upd (upd (upd (upd F 15 (nI fa43)) 16 pl44) 27 (nI nd)) 31 (nI wr)) 64 (nI at42)) 65 (nI ne)) 66 (nI lk)) (updA (stR B 15 x (nI at17)) 2 K)) := mW_D hD
          exact W.vret hx hb hr (fun t9 ht9 hW9 => ⟨⟨_, (at42, fa43, pl44, nd, lk, wr, (stR B 15 x (nI at17))), rfl, ⟨rfl, hz72, hz73, hz74, hz75, hz76, hz77, hz78, hz79, hz80, hz81, hz82, hz83, hz84⟩, by rw [ht9]; exact hP, hD⟩, hS.F ht9⟩) hS.2.2 dX12_arguments_114
      · refine lv_iconst (v := 1) hx hb dX12_arguments_28 (by decide) ?_
        refine lv_goto (tgt := 33) hx hb dX12_arguments_29 (by decide) ?_
        refine lv_istore_n (lv' := [(3, .int 1), (2, .int (-1)), (0, .ref h0), (1, .int (nI x))]) hx hb dX12_arguments_33 rfl hl (by decide) rfl (fun ls hl => ?_)
        refine lv_iload_n hx hb dX12_arguments_34 rfl (lv_at hl 0 rfl) ?_
        refine lv_if_eq (tgt := 88) hx hb dX12_arguments_35 (by decide) (fun c85 => absurd c85 (by decide)) (fun c85 => ?_)
        refine lv_aload_n hx hb dX12_arguments_38 rfl (lv_at hl 2 rfl) ?_
        refine r_get (v := .int 0) hx hb hown hq hE hP 15 350 tFX12_15 (by decide) pw_1594 rfl dX12_arguments_39 ?_
        refine lv_if_ne (tgt := 88) hx hb dX12_arguments_42 (by decide) (fun c86 => absurd c86 (by decide)) (fun c86 => ?_)
        refine lv_aload_n hx hb dX12_arguments_45 rfl (lv_at hl 2 rfl) ?_
        have hP : va_P G.1 pCl (mW G h0 a (upd (upd (upd (upd (upd (upd (upd (upd (upd (upd (upd (upd (upd F 15 0) 16 pl19) 27 (nI nd)) 31 (nI wr)) 64 (nI at17)) 65 (nI (ne + 1))) 66 (nI lk)) 15 0) 27 (nI nd)) 31 (nI wr)) 64 (nI at17)) 65 (nI (ne + 1))) 66 (nI lk)) (updA B 2 K)) _ := mW_to (F := F) (l1 := [(15, 0), (16, pl19), (27, (nI nd)), (31, (nI wr)), (64, (nI at17)), (65, (nI (ne + 1))), (66, (nI lk))]) (l2 := [(15, 0), (16, pl19), (27, (nI nd)), (31, (nI wr)), (64, (nI at17)), (65, (nI (ne + 1))), (66, (nI lk)), (15, 0), (27, (nI nd)), (31, (nI wr)), (64, (nI at17)), (65, (nI (ne + 1))), (66, (nI lk))]) (V := [0, pl19, (nI nd), (nI wr), (nI at17), (nI (ne + 1)), (nI lk), 0, pl19, (nI nd), (nI wr), (nI at17), (nI (ne + 1)), (nI lk), 0, (nI nd), (nI wr), (nI at17), (nI (ne + 1)), (nI lk)]) rfl rfl rfl hP
        have hD : va_D A (mW G h0 a (upd (upd (upd (upd (upd (upd (upd (upd (upd (upd (upd (upd (upd F 15 0) 16 pl19) 27 (nI nd)) 31 (nI wr)) 64 (nI at17)) 65 (nI (ne + 1))) 66 (nI lk)) 15 0) 27 (nI nd)) 31 (nI wr)) 64 (nI at17)) 65 (nI (ne + 1))) 66 (nI lk)) (updA B 2 K)) := mW_D hD
        refine pc_V0 (G := G) (As := []) (rest := []) hx hb hml hown hq hE hX pX0_al hP hD hS hA hl.1 (ihc h0 a (upd (upd (upd (upd (upd (upd (upd F 15 0) 16 pl19) 27 (nI nd)) 31 (nI wr)) 64 (nI at17)) 65 (nI (ne + 1))) 66 (nI lk)) B at17 T (ne + 1) nd wr lk K (by omega) (by omega) hK (by omega) (by omega) (by omega) (by omega) (hkp1).2 (by omega)) (gV pw_1640 pw_1641 pw_1642 pw_1523 pw_1656) hV_X12_choice 0 9 rfl rfl rfl rfl (Nat.le_of_ble_eq_true rfl) dX12_arguments_46 ⟨Nat.le_of_ble_eq_true rfl, Nat.le_of_ble_eq_true rfl⟩ ⟨(by show (20 * (n - 1) + 27) + 1 ≤ (20 * n + 8); omega), (by show 8 + (4 + 11) + (1000 * (n - 1) + 40 * 27) ≤ (1000 * n + 40 * 8); omega)⟩ (fun v89 u87 H locs hw88 hP hD hS => ?_)
        obtain ⟨at90, fa91, pl92, nd93, lk94, wr95, r96, X97⟩ := u87
        obtain ⟨hw88, h98, h99, h100, h101, h102, h103, h104, h105, h106, h107, h108, h109, h110, h111⟩ := hw88
        have h98 : at17 ≤ at90 := h98
        have h99 : at90 ≤ T := h99
        have h100 : fa91 ≤ 100 := h100
        have h101 : nd ≤ nd93 := h101
        have h102 : nd93 + 2 * at17 ≤ nd + 2 * at90 + 100000 * fa91 := h102
        have h103 : nd93 + 2 * at17 ≤ nd + 2 * at90 + 40 * (21 - (ne + 1)) := h103
        have h104 : wr ≤ wr95 := h104
        have h105 : wr95 + at17 ≤ wr + at90 := h105
        have h106 : lk ≤ lk94 := h106
        have h107 : lk94 ≤ 60 + 100 * fa91 := h107
        have h108 : at17 + 1 ≤ at90 + fa91 := h108
        have h109 : r96 ≤ nd93 := h109
        have h110 : Kp B X97 wr95 T := h110
        have h111 : If (fa91 = 0) (Low B X97 nd wr ∧ Frs K T wr95 X97 nd nd93 20000 [(r96, (211 + lk94 - (10 * (ne + 1) + lk)))] ∧ kcl 1 (X97 9 r96) = true) := h111
        obtain rfl : v89 = some (.int (nI r96)) := hw88
        have hP : va_P G.1 pCl (mW G h0 a (upd (upd (upd (upd (upd (upd (upd F 15 (nI fa91)) 16 pl92) 27 (nI nd93)) 31 (nI wr95)) 64 (nI at90)) 65 (nI (ne + 1))) 66 (nI lk94)) (updA X97 2 K)) _ := mW_to (F := F) (l1 := [(15, 0), (16, pl19), (27, (nI nd)), (31, (nI wr)), (64, (nI at17)), (65, (nI (ne + 1))), (66, (nI lk)), (15, (nI fa91)), (16, pl92), (27, (nI nd93)), (31, (nI wr95)), (64, (nI at90)), (65, (nI (ne + 1))), (66, (nI lk94))]) (l2 := [(15, (nI fa91)), (16, pl92), (27, (nI nd93)), (31, (nI wr95)), (64, (nI at90)), (65, (nI (ne + 1))), (66, (nI lk94))]) (V := [(nI fa91), pl92, (nI nd93), (nI wr95), (nI at90), (nI (ne + 1)), (nI lk94), (nI fa91), pl92, (nI nd93), (nI wr95), (nI at90), (nI (ne + 1)), (nI lk94), (nI fa91), pl92, (nI nd93), (nI wr95), (nI at90), (nI (ne + 1)), (nI lk94)]) rfl rfl rfl hP
        have hD : va_D A (mW G h0 a (upd (upd (upd (upd (upd (upd (upd F 15 (nI fa91)) 16 pl92) 27 (nI nd93)) 31 (nI wr95)) 64 (nI at90)) 65 (nI (ne + 1))) 66 (nI lk94)) (updA X97 2 K)) := mW_D hD
        refine W.widen (k := 0) (n := 0) (Nat.le_of_ble_eq_true rfl) (Nat.le_of_ble_eq_true rfl) ?_
        refine W.eq (g2 := F0 m 49 ls [.int (nI r96)]) rfl ?_
        have hkp112 : Kp B X97 wr95 T := (Kp.trans hkp1 h110)
        rcases Nat.eq_zero_or_pos fa91 with e113 | e113
        · subst e113
          have hP : va_P G.1 pCl (mW G h0 a (upd (upd (upd (upd (upd (upd (upd F 15 0) 16 pl92) 27 (nI nd93)) 31 (nI wr95)) 64 (nI at90)) 65 (nI (ne + 1))) 66 (nI lk94)) (updA X97 2 K)) _ := hP
          have hD : va_D A (mW G h0 a (upd (upd (upd (upd (upd (upd (upd F 15 0) 16 pl92) 27 (nI nd93)) 31 (nI wr95)) 64 (nI at90)) 65 (nI (ne + 1))) 66 (nI lk94)) (updA X97 2 K)) := mW_D hD
          obtain ⟨hlw114, hf115, hc116⟩ := h111 rfl
          have hlo117 : Low B X97 lo wr := (Low.trans hlo2 hlw114 (by omega) (by omega))
          have hf118 : Frs K T wr95 X97 lo nd x [(x, zx)] := (Frs.same hF (by omega) (fun j i q1 q2 q3 q4 => (hlw114.1 j i q1 (by omega) (by omega))))
          have hn119 : Nd X97 x (nI k) xa (-1) (-1) (-1) := (Nd.low hNd hlw114 (by omega))
          have hm120 := Frs.mem hf115
          refine lv_istore (lv' := [(4, .int (nI r96)), (3, .int 1), (2, .int (-1)), (0, .ref h0), (1, .int (nI x))]) hx hb dX12_arguments_49 hl (by decide) rfl (fun ls hl => ?_)
          refine lv_iload_n hx hb dX12_arguments_51 rfl (lv_at hl 2 rfl) ?_
          refine lv_iconst (v := (-1)) hx hb dX12_arguments_52 (by decide) ?_
          refine lv_icmp_ne (tgt := 67) hx hb dX12_arguments_53 (by decide) (fun c121 => absurd c121 (by decide)) (fun c121 => ?_)
          refine lv_aload_n hx hb dX12_arguments_56 rfl (lv_at hl 3 rfl) ?_
          refine r_get (v := .ref (a 13)) hx hb hown hq hE hP 21 50 tFX12_21 (by decide) pw_1443 rfl dX12_arguments_57 ?_
          refine lv_iload_n hx hb dX12_arguments_60 rfl (lv_at hl 4 rfl) ?_
          refine lv_iload hx hb dX12_arguments_61 (lv_at hl 0 rfl) ?_
          refine r_sti (f := (X97 13)) (j := x) hx hb hE hP hD hS 13 (ma_13 G a _) rfl (mas_13 G a _) (by omega) (by decide) dX12_arguments_63 (fun H locs hP hD hS => ?_)
          have hP : va_P G.1 pCl (mW G h0 a (upd (upd (upd (upd (upd (upd (upd F 15 0) 16 pl92) 27 (nI nd93)) 31 (nI wr95)) 64 (nI at90)) 65 (nI (ne + 1))) 66 (nI lk94)) (updA (stR X97 13 x (nI r96)) 2 K)) _ := mW_to (F := F) (l1 := [(15, 0), (16, pl92), (27, (nI nd93)), (31, (nI wr95)), (64, (nI at90)), (65, (nI (ne + 1))), (66, (nI lk94))]) (l2 := [(15, 0), (16, pl92), (27, (nI nd93)), (31, (nI wr95)), (64, (nI at90)), (65, (nI (ne + 1))), (66, (nI lk94))]) (V := [0, pl92, (nI nd93), (nI wr95), (nI at90), (nI (ne + 1)), (nI lk94), 0, pl92, (nI nd93), (nI wr95), (nI at90), (nI (ne + 1)), (nI lk94)]) rfl rfl (show (updA (updA X97 2 K) 13 (upd (X97 13) x (nI r96))) = (updA (stR X97 13 x (nI r96)) 2 K) from updsA_eq2 (F := X97) (l1 := [(2, K), (13, (upd (X97 13) x (nI r96)))]) (l2 := [(13, (upd (X97 13) x (nI r96))), (2, K)]) (V := [K, (upd (X97 13) x (nI r96)), (upd (X97 13) x (nI r96)), K]) rfl rfl) hP
          have hD : va_D A (mW G h0 a (upd (upd (upd (upd (upd (upd (upd F 15 0) 16 pl92) 27 (nI nd93)) 31 (nI wr95)) 64 (nI at90)) 65 (nI (ne + 1))) 66 (nI lk94)) (updA (stR X97 13 x (nI r96)) 2 K)) := mW_D hD
          have hkp122 : Kp B (stR X97 13 x (nI r96)) wr95 T := (Kp.row hkp112 (by omega))
          have hlo123 : Low B (stR X97 13 x (nI r96)) lo wr := (Low.st hlo117 (by omega) (by omega))
          have hf124 : Frs K T wr95 X97 lo nd93 x [(x, zx), (r96, (211 + lk94 - (10 * (ne + 1) + lk)))] := (Frs.join hf118 hf115 (by omega) (by omega) (by omega))
          have hn125 : Nd (stR X97 13 x (nI r96)) x (nI k) xa (nI r96) (-1) (-1) := (Nd.st hn119 (by omega))
          have hc126 : kcl 1 ((stR X97 13 x (nI r96)) 9 r96) = true := by rw [st_ne (by omega)]; exact hc116
          have hf127 : FrL K T wr95 (stR X97 13 x (nI r96)) lo nd93 x x (zb + lk94 - lk) r96 1 := (FrL.head (s := 2) (k := k) hf124 (by omega) (by omega) (by omega) (by omega) hn119.2.2.1 hn119.1 (by omega) ⟨by omega, by rw [hkk.1]; exact hc116, hkk.2.2.2.1⟩ (lcl_1 hc116) (by omega) (by omega) (fun h => by omega))
          refine lv_goto (tgt := 75) hx hb dX12_arguments_64 (by decide) ?_
          refine lv_iload hx hb dX12_arguments_75 (lv_at hl 0 rfl) ?_
          refine lv_istore_n (lv' := [(2, .int (nI r96)), (4, .int (nI r96)), (3, .int 1), (0, .ref h0), (1, .int (nI x))]) hx hb dX12_arguments_77 rfl hl (by decide) rfl (fun ls hl => ?_)
          refine lv_aload_n hx hb dX12_arguments_78 rfl (lv_at hl 3 rfl) ?_
          refine lv_bipush (v := 44) hx hb dX12_arguments_79 (by decide) ?_
          have hP : va_P G.1 pCl (mW G h0 a (upd (upd (upd (upd (upd (upd (upd (upd (upd F 15 0) 16 pl92) 27 (nI nd93)) 31 (nI wr95)) 64 (nI at90)) 65 (nI (ne + 1))) 66 (nI lk94)) 15 (nI 0)) 64 (nI at90)) (updA (updA (stR X97 13 x (nI r96)) 2 K) 2 K)) _ := mW_to (F := F) (l1 := [(15, 0), (16, pl92), (27, (nI nd93)), (31, (nI wr95)), (64, (nI at90)), (65, (nI (ne + 1))), (66, (nI lk94))]) (l2 := [(15, 0), (16, pl92), (27, (nI nd93)), (31, (nI wr95)), (64, (nI at90)), (65, (nI (ne + 1))), (66, (nI lk94)), (15, (nI 0)), (64, (nI at90))]) (V := [(nI 0), pl92, (nI nd93), (nI wr95), (nI at90), (nI (ne + 1)), (nI lk94), (nI 0), pl92, (nI nd93), (nI wr95), (nI at90), (nI (ne + 1)), (nI lk94), (nI 0), (nI at90)]) rfl rfl (show (updA (stR X97 13 x (nI r96)) 2 K) = (updA (updA (stR X97 13 x (nI r96)) 2 K) 2 K) from updsA_eq2 (F := X97) (l1 := [(13, (upd (X97 13) x (nI r96))), (2, K)]) (l2 := [(13, (upd (X97 13) x (nI r96))), (2, K), (2, K)]) (V := [(upd (X97 13) x (nI r96)), K, (upd (X97 13) x (nI r96)), K, K]) rfl rfl) hP
          have hD : va_D A (mW G h0 a (upd (upd (upd (upd (upd (upd (upd (upd (upd F 15 0) 16 pl92) 27 (nI nd93)) 31 (nI wr95)) 64 (nI at90)) 65 (nI (ne + 1))) 66 (nI lk94)) 15 (nI 0)) 64 (nI at90)) (updA (updA (stR X97 13 x (nI r96)) 2 K) 2 K)) := mW_D hD
          refine pc_V0 (G := G) (As := [.int 44]) (rest := []) hx hb hml hown hq hE hX pX0_al hP hD hS hA hl.1 (R_may l G h0 a (upd (upd (upd (upd (upd (upd (upd F 15 0) 16 pl92) 27 (nI nd93)) 31 (nI wr95)) 64 (nI at90)) 65 (nI (ne + 1))) 66 (nI lk94)) (updA (stR X97 13 x (nI r96)) 2 K) at90 T 0 K 44 (by omega) (by omega) hK (by omega) (by decide) (by decide)) (gV pw_1621 pw_1622 pw_1623 pw_1523 pw_1605) hV_X12_may 0 9 rfl rfl rfl rfl (Nat.le_of_ble_eq_true rfl) dX12_arguments_81 ⟨Nat.le_of_ble_eq_true rfl, Nat.le_of_ble_eq_true rfl⟩ ⟨(by show 3 + 1 ≤ (20 * n + 8); omega), (by show 8 + (3 + 11) + 81 ≤ (1000 * n + 40 * 8); omega)⟩ (fun v130 u128 H locs hw129 hP hD hS => ?_)
          obtain ⟨at131, r132⟩ := u128
          obtain ⟨hw129, h133, h134, h135, h136, h137, h138⟩ := hw129
          have h133 : r132 ≤ 1 := h133
          have h134 : 0 + 100 * r132 ≤ 100 := h134
          have h135 : at131 = at90 + r132 := h135
          have h136 : at131 ≤ T := h136
          have h137 : If (r132 = 1) (K at90 = 44) := h137
          have h138 : If (r132 = 0) (0 = 0 → ¬ K at90 = 44) := h138
          obtain rfl : v130 = some (.int (nI r132)) := hw129
          have hP : va_P G.1 pCl (mW G h0 a (upd (upd (upd (upd (upd (upd (upd F 15 0) 16 pl92) 27 (nI nd93)) 31 (nI wr95)) 64 (nI at131)) 65 (nI (ne + 1))) 66 (nI lk94)) (updA (stR X97 13 x (nI r96)) 2 K)) _ := mW_to (F := F) (l1 := [(15, 0), (16, pl92), (27, (nI nd93)), (31, (nI wr95)), (64, (nI at90)), (65, (nI (ne + 1))), (66, (nI lk94)), (15, (nI 0)), (64, (nI at131))]) (l2 := [(15, 0), (16, pl92), (27, (nI nd93)), (31, (nI wr95)), (64, (nI at131)), (65, (nI (ne + 1))), (66, (nI lk94))]) (V := [0, pl92, (nI nd93), (nI wr95), (nI at131), (nI (ne + 1)), (nI lk94), 0, (nI at131), 0, pl92, (nI nd93), (nI wr95), (nI at131), (nI (ne + 1)), (nI lk94)]) rfl rfl (show (updA (updA (stR X97 13 x (nI r96)) 2 K) 2 K) = (updA (stR X97 13 x (nI r96)) 2 K) from updsA_eq2 (F := X97) (l1 := [(13, (upd (X97 13) x (nI r96))), (2, K), (2, K)]) (l2 := [(13, (upd (X97 13) x (nI r96))), (2, K)]) (V := [(upd (X97 13) x (nI r96)), K, K, (upd (X97 13) x (nI r96)), K]) rfl rfl) hP
          have hD : va_D A (mW G h0 a (upd (upd (upd (upd (upd (upd (upd F 15 0) 16 pl92) 27 (nI nd93)) 31 (nI wr95)) 64 (nI at131)) 65 (nI (ne + 1))) 66 (nI lk94)) (updA (stR X97 13 x (nI r96)) 2 K)) := mW_D hD
          refine W.widen (k := 0) (n := 0) (Nat.le_of_ble_eq_true rfl) (Nat.le_of_ble_eq_true rfl) ?_
          refine W.eq (g2 := F0 m 84 ls [.int (nI r132)]) rfl ?_
          refine lv_istore_n (lv' := [(3, .int (nI r132)), (2, .int (nI r96)), (4, .int (nI r96)), (0, .ref h0), (1, .int (nI x))]) hx hb dX12_arguments_84 rfl hl (by decide) rfl (fun ls hl => ?_)
          refine lv_goto (tgt := 34) hx hb dX12_arguments_85 (by decide) ?_
          rcases (show r132 = 0 ∨ r132 = 1 by omega) with e139 | e139
          · subst e139
            have hl : lv_has ls 5 [(3, .int 0), (2, .int (nI r96)), (4, .int (nI r96)), (0, .ref h0), (1, .int (nI x))] := hl
            refine lv_iload_n hx hb dX12_arguments_34 rfl (lv_at hl 0 rfl) ?_
            refine lv_if_eq (tgt := 88) hx hb dX12_arguments_35 (by decide) (fun c140 => ?_) (fun c140 => absurd c140 (by decide))
            refine lv_aload_n hx hb dX12_arguments_88 rfl (lv_at hl 3 rfl) ?_
            refine r_get (v := .ref (a 15)) hx hb hown hq hE hP 23 56 tFX12_23 (by decide) pw_1445 rfl dX12_arguments_89 ?_
            refine lv_iload_n hx hb dX12_arguments_92 rfl (lv_at hl 4 rfl) ?_
            refine lv_aload_n hx hb dX12_arguments_93 rfl (lv_at hl 3 rfl) ?_
            refine r_get (v := .int (nI at131)) hx hb hown hq hE hP 64 343 tFX12_64 (by decide) pw_1592 rfl dX12_arguments_94 ?_
            refine r_sti (f := ((stR X97 13 x (nI r96)) 15)) (j := x) hx hb hE hP hD hS 15 (ma_15 G a _) rfl (mas_15 G a _) (by omega) (by decide) dX12_arguments_97 (fun H locs hP hD hS => ?_)
            have hP : va_P G.1 pCl (mW G h0 a (upd (upd (upd (upd (upd (upd (upd F 15 0) 16 pl92) 27 (nI nd93)) 31 (nI wr95)) 64 (nI at131)) 65 (nI (ne + 1))) 66 (nI lk94)) (updA (stR (stR X97 13 x (nI r96)) 15 x (nI at131)) 2 K)) _ := hP
            have hD : va_D A (mW G h0 a (upd (upd (upd (upd (upd (upd (upd F 15 0) 16 pl92) 27 (nI nd93)) 31 (nI wr95)) 64 (nI at131)) 65 (nI (ne + 1))) 66 (nI lk94)) (updA (stR (stR X97 13 x (nI r96)) 15 x (nI at131)) 2 K)) := mW_D hD
            have hkp141 : Kp B (stR (stR X97 13 x (nI r96)) 15 x (nI at131)) wr95 T := (Kp.row hkp122 (by omega))
            have hlo142 : Low B (stR (stR X97 13 x (nI r96)) 15 x (nI at131)) lo wr := (Low.st hlo123 (by omega) (by omega))
            have hn143 : Nd (stR (stR X97 13 x (nI r96)) 15 x (nI at131)) x (nI k) xa (nI r96) (-1) (nI at131) := (Nd.st hn125 (by omega))
            have hf144 : Frs K T wr95 (stR (stR X97 13 x (nI r96)) 15 x (nI at131)) lo nd93 x [(x, (zb + lk94 - lk))] := (Frs.tok (k := k) (FrL.toFrs hf127) (by omega) hn125.1 (by omega) hkk.2.1 hn125.2.2.2.2 (by omega))
            refine lv_aload_n hx hb dX12_arguments_98 rfl (lv_at hl 3 rfl) ?_
            refine lv_bipush (v := 41) hx hb dX12_arguments_99 (by decide) ?_
            have hP : va_P G.1 pCl (mW G h0 a (upd (upd (upd (upd (upd (upd (upd (upd (upd F 15 0) 16 pl92) 27 (nI nd93)) 31 (nI wr95)) 64 (nI at131)) 65 (nI (ne + 1))) 66 (nI lk94)) 15 (nI 0)) 64 (nI at131)) (updA (updA (stR (stR X97 13 x (nI r96)) 15 x (nI at131)) 2 K) 2 K)) _ := mW_to (F := F) (l1 := [(15, 0), (16, pl92), (27, (nI nd93)), (31, (nI wr95)), (64, (nI at131)), (65, (nI (ne + 1))), (66, (nI lk94))]) (l2 := [(15, 0), (16, pl92), (27, (nI nd93)), (31, (nI wr95)), (64, (nI at131)), (65, (nI (ne + 1))), (66, (nI lk94)), (15, (nI 0)), (64, (nI at131))]) (V := [(nI 0), pl92, (nI nd93), (nI wr95), (nI at131), (nI (ne + 1)), (nI lk94), (nI 0), pl92, (nI nd93), (nI wr95), (nI at131), (nI (ne + 1)), (nI lk94), (nI 0), (nI at131)]) rfl rfl (show (updA (stR (stR X97 13 x (nI r96)) 15 x (nI at131)) 2 K) = (updA (updA (stR (stR X97 13 x (nI r96)) 15 x (nI at131)) 2 K) 2 K) from updsA_eq2 (F := X97) (l1 := [(13, (upd (X97 13) x (nI r96))), (15, (upd ((stR X97 13 x (nI r96)) 15) x (nI at131))), (2, K)]) (l2 := [(13, (upd (X97 13) x (nI r96))), (15, (upd ((stR X97 13 x (nI r96)) 15) x (nI at131))), (2, K), (2, K)]) (V := [(upd (X97 13) x (nI r96)), (upd ((stR X97 13 x (nI r96)) 15) x (nI at131)), K, (upd (X97 13) x (nI r96)), (upd ((stR X97 13 x (nI r96)) 15) x (nI at131)), K, K]) rfl rfl) hP
            have hD : va_D A (mW G h0 a (upd (upd (upd (upd (upd (upd (upd (upd (upd F 15 0) 16 pl92) 27 (nI nd93)) 31 (nI wr95)) 64 (nI at131)) 65 (nI (ne + 1))) 66 (nI lk94)) 15 (nI 0)) 64 (nI at131)) (updA (updA (stR (stR X97 13 x (nI r96)) 15 x (nI at131)) 2 K) 2 K)) := mW_D hD
            refine pc_V0 (G := G) (As := [.int 41]) (rest := []) hx hb hml hown hq hE hX pX0_al hP hD hS hA hl.1 (R_take l G h0 a (upd (upd (upd (upd (upd (upd (upd F 15 0) 16 pl92) 27 (nI nd93)) 31 (nI wr95)) 64 (nI at131)) 65 (nI (ne + 1))) 66 (nI lk94)) (updA (stR (stR X97 13 x (nI r96)) 15 x (nI at131)) 2 K) at131 T 0 K 41 (by omega) (by omega) hK (by omega) (by decide) (by decide)) (gV pw_1614 pw_1615 pw_1616 pw_1523 pw_1601) hV_X12_take 0 9 rfl rfl rfl rfl (Nat.le_of_ble_eq_true rfl) dX12_arguments_101 ⟨Nat.le_of_ble_eq_true rfl, Nat.le_of_ble_eq_true rfl⟩ ⟨(by show 4 + 1 ≤ (20 * n + 8); omega), (by show 8 + (2 + 11) + 103 ≤ (1000 * n + 40 * 8); omega)⟩ (fun v147 u145 H locs hw146 hP hD hS => ?_)
            obtain ⟨at148, fa149, pl150⟩ := u145
            obtain ⟨hw146, h151, h152, h153, h154, h155, h156, h157, h158⟩ := hw146
            have h151 : at131 ≤ at148 := h151
            have h152 : at148 ≤ T := h152
            have h153 : 0 ≤ fa149 := h153
            have h154 : fa149 ≤ 100 := h154
            have h155 : If (0 < 0) (at148 = at131 ∧ fa149 = 0) := h155
            have h156 : at148 ≤ at131 + 1 := h156
            have h157 : at131 + 1 ≤ at148 + fa149 := h157
            have h158 : If (fa149 = 0) (K at131 = 41) := h158
            obtain rfl : v147 = none := hw146
            have hP : va_P G.1 pCl (mW G h0 a (upd (upd (upd (upd (upd (upd (upd F 15 (nI fa149)) 16 pl150) 27 (nI nd93)) 31 (nI wr95)) 64 (nI at148)) 65 (nI (ne + 1))) 66 (nI lk94)) (updA (stR (stR X97 13 x (nI r96)) 15 x (nI at131)) 2 K)) _ := mW_to (F := F) (l1 := [(15, 0), (16, pl92), (27, (nI nd93)), (31, (nI wr95)), (64, (nI at131)), (65, (nI (ne + 1))), (66, (nI lk94)), (15, (nI fa149)), (16, pl150), (64, (nI at148))]) (l2 := [(15, (nI fa149)), (16, pl150), (27, (nI nd93)), (31, (nI wr95)), (64, (nI at148)), (65, (nI (ne + 1))), (66, (nI lk94))]) (V := [(nI fa149), pl150, (nI nd93), (nI wr95), (nI at148), (nI (ne + 1)), (nI lk94), (nI fa149), pl150, (nI at148), (nI fa149), pl150, (nI nd93), (nI wr95), (nI at148), (nI (ne + 1)), (nI lk94)]) rfl rfl (show (updA (updA (stR (stR X97 13 x (nI r96)) 15 x (nI at131)) 2 K) 2 K) = (updA (stR (stR X97 13 x (nI r96)) 15 x (nI at131)) 2 K) from updsA_eq2 (F := X97) (l1 := [(13, (upd (X97 13) x (nI r96))), (15, (upd ((stR X97 13 x (nI r96)) 15) x (nI at131))), (2, K), (2, K)]) (l2 := [(13, (upd (X97 13) x (nI r96))), (15, (upd ((stR X97 13 x (nI r96)) 15) x (nI at131))), (2, K)]) (V := [(upd (X97 13) x (nI r96)), (upd ((stR X97 13 x (nI r96)) 15) x (nI at131)), K, K, (upd (X97 13) x (nI r96)), (upd ((stR X97 13 x (nI r96)) 15) x (nI at131)), K]) rfl rfl) hP
            have hD : va_D A (mW G h0 a (upd (upd (upd (upd (upd (upd (upd F 15 (nI fa149)) 16 pl150) 27 (nI nd93)) 31 (nI wr95)) 64 (nI at148)) 65 (nI (ne + 1))) 66 (nI lk94)) (updA (stR (stR X97 13 x (nI r96)) 15 x (nI at131)) 2 K)) := mW_D hD
            refine W.widen (k := 0) (n := 0) (Nat.le_of_ble_eq_true rfl) (Nat.le_of_ble_eq_true rfl) ?_
            refine W.eq (g2 := F0 m 104 ls []) rfl ?_
            rcases Nat.eq_zero_or_pos fa149 with e159 | e159
            · subst e159
              have hP : va_P G.1 pCl (mW G h0 a (upd (upd (upd (upd (upd (upd (upd F 15 0) 16 pl150) 27 (nI nd93)) 31 (nI wr95)) 64 (nI at148)) 65 (nI (ne + 1))) 66 (nI lk94)) (updA (stR (stR X97 13 x (nI r96)) 15 x (nI at131)) 2 K)) _ := hP
              have hD : va_D A (mW G h0 a (upd (upd (upd (upd (upd (upd (upd F 15 0) 16 pl150) 27 (nI nd93)) 31 (nI wr95)) 64 (nI at148)) 65 (nI (ne + 1))) 66 (nI lk94)) (updA (stR (stR X97 13 x (nI r96)) 15 x (nI at131)) 2 K)) := mW_D hD
              refine lv_aload_n hx hb dX12_arguments_104 rfl (lv_at hl 3 rfl) ?_
              refine lv_dup hx hb dX12_arguments_105 rfl ?_
              refine r_get (v := .int (nI (ne + 1))) hx hb hown hq hE hP 65 366 tFX12_65 (by decide) pw_1612 rfl dX12_arguments_106 ?_
              refine lv_iconst (v := 1) hx hb dX12_arguments_109 (by decide) ?_
              refine lv_isub hx hb dX12_arguments_110 ?_
              refine lv_topi (fun x160 e161 => ?_)
              obtain rfl : x160 = nI ((ne + 1) - 1) := e161.trans (nI_subN (a := 1) (b := (ne + 1)) (by omega))
              refine r_put (v := (nI ((ne + 1) - 1))) (ty := .int) hx hb hown hq hE hP hD hS 65 366 tFX12_65 (by decide) pw_1612 (by decide) rfl rfl (ms_65 a _ _) dX12_arguments_111 (fun H locs hP hD hS => ?_)
              have hf162 : Frs K T wr95 (stR (stR X97 13 x (nI r96)) 15 x (nI at131)) lo nd93 20000 [(x, (zb + lk94 - lk))] := (Frs.fin (k := k) hf144 hn143 rfl (by omega) hAn (fun h => absurd h (by omega)) (fun h => absurd h (by omega)) (fun _ => nI_m1 (by omega)))
              have hz163 : at0 ≤ at148 := (by omega)
              have hz164 : at148 ≤ T := (by omega)
              have hz165 : 0 ≤ 100 := (by omega)
              have hz166 : nd ≤ nd93 := (by omega)
              have hz167 : nd93 + 2 * at0 ≤ nd + 2 * at148 + 100000 * 0 := (by omega)
              have hz168 : nd93 + 2 * at0 ≤ nd + 2 * at148 + 40 * (21 - ne) := (by omega)
              have hz169 : wr ≤ wr95 := (by omega)
              have hz170 : wr95 + at0 ≤ wr + at148 := (by omega)
              have hz171 : lk ≤ lk94 := (by omega)
              have hz172 : lk94 ≤ 60 + 100 * 0 := (by omega)
              have hz173 : at0 + 1 ≤ at148 + 0 := (by omega)
              have hz174 : Kp B (stR (stR X97 13 x (nI r96)) 15 x (nI at131)) wr95 T := hkp141
              have hz175 : If (0 = 0) (Low B (stR (stR X97 13 x (nI r96)) 15 x (nI at131)) lo wr ∧ Frs K T wr95 (stR (stR X97 13 x (nI r96)) 15 x (nI at131)) lo nd93 20000 [(x, (zb + lk94 - lk))] ∧ (stR (stR X97 13 x (nI r96)) 15 x (nI at131)) 9 x = nI k) := (fun _ => ⟨hlo142, Frs.up hf162 (by omega), hn143.1⟩)
              have hP : va_P G.1 pCl (mW G h0 a (upd (upd (upd (upd (upd (upd (upd F 15 (nI 0)) 16 pl150) 27 (nI nd93)) 31 (nI wr95)) 64 (nI at148)) 65 (nI ne)) 66 (nI lk94)) (updA (stR (stR X97 13 x (nI r96)) 15 x (nI at131)) 2 K)) _ := mW_to (F := F) (l1 := [(15, 0), (16, pl150), (27, (nI nd93)), (31, (nI wr95)), (64, (nI at148)), (65, (nI (ne + 1))), (66, (nI lk94)), (65, (nI ((ne + 1) - 1)))]) (l2 := [(15, (nI 0)), (16, pl150), (27, (nI nd93)), (31, (nI wr95)), (64, (nI at148)), (65, (nI ne)), (66, (nI lk94))]) (V := [(nI 0), pl150, (nI nd93), (nI wr95), (nI at148), (nI ne), (nI lk94), (nI ne), (nI 0), pl150, (nI nd93), (nI wr95), (nI at148), (nI ne), (nI lk94)]) rfl rfl rfl hP
              have hD : va_D A (mW G h0 a (upd (upd (upd (upd (upd (upd (upd F 15 (nI 0)) 16 pl150) 27 (nI nd93)) 31 (nI wr95)) 64 (nI at148)) 65 (nI ne)) 66 (nI lk94)) (updA (stR (stR X97 13 x (nI r96)) 15 x (nI at131)) 2 K)) := mW_D hD
              exact W.vret hx hb hr (fun t9 ht9 hW9 => ⟨⟨_, (at148, 0, pl150, nd93, lk94, wr95, (stR (stR X97 13 x (nI r96)) 15 x (nI at131))), rfl, ⟨rfl, hz163, hz164, hz165, hz166, hz167, hz168, hz169, hz170, hz171, hz172, hz173, hz174, hz175⟩, by rw [ht9]; exact hP, hD⟩, hS.F ht9⟩) hS.2.2 dX12_arguments_114
            · have e159 := e159
              refine lv_aload_n hx hb dX12_arguments_104 rfl (lv_at hl 3 rfl) ?_
              refine lv_dup hx hb dX12_arguments_105 rfl ?_
              refine r_get (v := .int (nI (ne + 1))) hx hb hown hq hE hP 65 366 tFX12_65 (by decide) pw_1612 rfl dX12_arguments_106 ?_
              refine lv_iconst (v := 1) hx hb dX12_arguments_109 (by decide) ?_
              refine lv_isub hx hb dX12_arguments_110 ?_
              refine lv_topi (fun x176 e177 => ?_)
              obtain rfl : x176 = nI ((ne + 1) - 1) := e177.trans (nI_subN (a := 1) (b := (ne + 1)) (by omega))
              refine r_put (v := (nI ((ne + 1) - 1))) (ty := .int) hx hb hown hq hE hP hD hS 65 366 tFX12_65 (by decide) pw_1612 (by decide) rfl rfl (ms_65 a _ _) dX12_arguments_111 (fun H locs hP hD hS => ?_)
              have hz178 : at0 ≤ at148 := (by omega)
              have hz179 : at148 ≤ T := (by omega)
              have hz180 : fa149 ≤ 100 := (by omega)
              have hz181 : nd ≤ nd93 := (by omega)
              have hz182 : nd93 + 2 * at0 ≤ nd + 2 * at148 + 100000 * fa149 := (by omega)
              have hz183 : nd93 + 2 * at0 ≤ nd + 2 * at148 + 40 * (21 - ne) := (by omega)
              have hz184 : wr ≤ wr95 := (by omega)
              have hz185 : wr95 + at0 ≤ wr + at148 := (by omega)
              have hz186 : lk ≤ lk94 := (by omega)
              have hz187 : lk94 ≤ 60 + 100 * fa149 := (by omega)
              have hz188 : at0 + 1 ≤ at148 + fa149 := (by omega)
              have hz189 : Kp B (stR (stR X97 13 x (nI r96)) 15 x (nI at131)) wr95 T := hkp141
              have hz190 : If (fa149 = 0) (Low B (stR (stR X97 13 x (nI r96)) 15 x (nI at131)) lo wr ∧ Frs K T wr95 (stR (stR X97 13 x (nI r96)) 15 x (nI at131)) lo nd93 20000 [(x, (zb + lk94 - lk))] ∧ (stR (stR X97 13 x (nI r96)) 15 x (nI at131)) 9 x = nI k) := (fun e => absurd e (by omega))
              have hP : va_P G.1 pCl (mW G h0 a (upd (upd (upd (upd (upd (upd (upd F 15 (nI fa149)) 16 pl150) 27 (nI nd93)) 31 (nI wr95)) 64 (nI at148)) 65 (nI ne)) 66 (nI lk94)) (updA (stR (stR X97 13 x (nI r96)) 15 x (nI at131)) 2 K)) _ := mW_to (F := F) (l1 := [(15, (nI fa149)), (16, pl150), (27, (nI nd93)), (31, (nI wr95)), (64, (nI at148)), (65, (nI (ne + 1))), (66, (nI lk94)), (65, (nI ((ne + 1) - 1)))]) (l2 := [(15, (nI fa149)), (16, pl150), (27, (nI nd93)), (31, (nI wr95)), (64, (nI at148)), (65, (nI ne)), (66, (nI lk94))]) (V := [(nI fa149), pl150, (nI nd93), (nI wr95), (nI at148), (nI ne), (nI lk94), (nI ne), (nI fa149), pl150, (nI nd93), (nI wr95), (nI at148), (nI ne), (nI lk94)]) rfl rfl rfl hP
              have hD : va_D A (mW G h0 a (upd (upd (upd (upd (upd (upd (upd F 15 (nI fa149)) 16 pl150) 27 (nI nd93)) 31 (nI wr95)) 64 (nI at148)) 65 (nI ne)) 66 (nI lk94)) (updA (stR (stR X97 13 x (nI r96)) 15 x (nI at131)) 2 K)) := mW_D hD
              exact W.vret hx hb hr (fun t9 ht9 hW9 => ⟨⟨_, (at148, fa149, pl150, nd93, lk94, wr95, (stR (stR X97 13 x (nI r96)) 15 x (nI at131))), rfl, ⟨rfl, hz178, hz179, hz180, hz181, hz182, hz183, hz184, hz185, hz186, hz187, hz188, hz189, hz190⟩, by rw [ht9]; exact hP, hD⟩, hS.F ht9⟩) hS.2.2 dX12_arguments_114
          · subst e139
            have hl : lv_has ls 5 [(3, .int 1), (2, .int (nI r96)), (4, .int (nI r96)), (0, .ref h0), (1, .int (nI x))] := hl
            have loop_o : ∀ (n_o : Nat) (at2 : Nat) (nd2 : Nat) (wr2 : Nat) (lk2 : Nat) (pl2 : Int32) (X2 : Nat → Nat → Int32) (la : Nat) (xb2 : Int32) (H : Heap) (locs : List Loc) (ls : Array Slot), at2 ≤ T → T + 1 ≤ at2 + n_o → (at0 ≤ at2) → (nd ≤ nd2) → (nd2 + 2 * at0 ≤ nd + 2 * at2) → (wr ≤ wr2) → (wr2 + at0 ≤ wr + at2) → (lk ≤ lk2) → (lk2 ≤ 60) → (lo ≤ la ∧ la < nd2) → (ne + 1 ≤ 20) → (Kp B X2 wr2 T) → (Low B X2 lo wr) → (FrL K T wr2 X2 lo nd2 x x (zb + lk2 - lk) la 1) → (Nd X2 x (nI k) xa xb2 (-1) (-1)) → va_P G.1 pCl (mW G h0 a (upd (upd (upd (upd (upd (upd (upd F 15 0) 16 pl2) 27 (nI nd2)) 31 (nI wr2)) 64 (nI at2)) 65 (nI (ne + 1))) 66 (nI lk2)) (updA X2 2 K)) H → va_D A (mW G h0 a (upd (upd (upd (upd (upd (upd (upd F 15 0) 16 pl2) 27 (nI nd2)) 31 (nI wr2)) 64 (nI at2)) 65 (nI (ne + 1))) 66 (nI lk2)) (updA X2 2 K)) → va_S A s.heap H locs → lv_has ls 5 [(3, .int 1), (2, .int (nI la)), (1, .int (nI x)), (0, .ref h0)] → W p l e (headSpec (Cond.code yX12_arguments cX12_arguments 5 none :: pw) ({ frames := (20 * n + 8), cells := 0, slots := 0, locals := (1000 * n + 40 * 8) } : Room)).room s m ([.ref h0, .int (nI x)] : List Value).toArray below meth c H locs 0 0 (MQ below (pQ G A (fun (v : Option Value) (u : Nat × Nat × Int32 × Nat × Nat × Nat × (Nat → Nat → Int32)) => v = none ∧ (at0 ≤ u.1) ∧ (u.1 ≤ T) ∧ (u.2.1 ≤ 100) ∧ (nd ≤ u.2.2.2.1) ∧ (u.2.2.2.1 + 2 * at0 ≤ nd + 2 * u.1 + 100000 * u.2.1) ∧ (u.2.2.2.1 + 2 * at0 ≤ nd + 2 * u.1 + 40 * (21 - ne)) ∧ (wr ≤ u.2.2.2.2.2.1) ∧ (u.2.2.2.2.2.1 + at0 ≤ wr + u.1) ∧ (lk ≤ u.2.2.2.2.1) ∧ (u.2.2.2.2.1 ≤ 60 + 100 * u.2.1) ∧ (at0 + 1 ≤ u.1 + u.2.1) ∧ (Kp B u.2.2.2.2.2.2 u.2.2.2.2.2.1 T) ∧ (If (u.2.1 = 0) (Low B u.2.2.2.2.2.2 lo wr ∧ Frs K T u.2.2.2.2.2.1 u.2.2.2.2.2.2 lo u.2.2.2.1 20000 [(x, (zb + u.2.2.2.2.1 - lk))] ∧ u.2.2.2.2.2.2 9 x = nI k))) (fun u => (mW G h0 a (upd (upd (upd (upd (upd (upd (upd F 15 (nI u.2.1)) 16 u.2.2.1) 27 (nI u.2.2.2.1)) 31 (nI u.2.2.2.2.2.1)) 64 (nI u.1)) 65 (nI ne)) 66 (nI u.2.2.2.2.1)) (updA u.2.2.2.2.2.2 2 K)))) ([.ref h0, .int (nI x)] : List Value).toArray s ({ frames := (20 * n + 8), cells := 0, slots := 0, locals := (1000 * n + 40 * 8) } : Room).cells ({ frames := (20 * n + 8), cells := 0, slots := 0, locals := (1000 * n + 40 * 8) } : Room).slots A) (F0 m 34 ls []) := by
              intro n_o
              induction n_o with
              | zero => intro at2 nd2 wr2 lk2 pl2 X2 la xb2 H locs ls hk_o hn_o; omega
              | succ n_o ih_o =>
                intro at2 nd2 wr2 lk2 pl2 X2 la xb2 H locs ls hk_o hn_o hl1 hl3 hl4 hl5 hl6 hl7 hl8 hla hl9 hkp2 hlo2 hf2 hn2 hP hD hS hl
                refine lv_iload_n hx hb dX12_arguments_34 rfl (lv_at hl 0 rfl) ?_
                refine lv_if_eq (tgt := 88) hx hb dX12_arguments_35 (by decide) (fun c191 => absurd c191 (by decide)) (fun c191 => ?_)
                refine lv_aload_n hx hb dX12_arguments_38 rfl (lv_at hl 3 rfl) ?_
                refine r_get (v := .int 0) hx hb hown hq hE hP 15 350 tFX12_15 (by decide) pw_1594 rfl dX12_arguments_39 ?_
                refine lv_if_ne (tgt := 88) hx hb dX12_arguments_42 (by decide) (fun c192 => absurd c192 (by decide)) (fun c192 => ?_)
                refine lv_aload_n hx hb dX12_arguments_45 rfl (lv_at hl 3 rfl) ?_
                have hP : va_P G.1 pCl (mW G h0 a (upd (upd (upd (upd (upd (upd (upd (upd (upd (upd (upd (upd (upd F 15 0) 16 pl2) 27 (nI nd2)) 31 (nI wr2)) 64 (nI at2)) 65 (nI (ne + 1))) 66 (nI lk2)) 15 0) 27 (nI nd2)) 31 (nI wr2)) 64 (nI at2)) 65 (nI (ne + 1))) 66 (nI lk2)) (updA X2 2 K)) _ := mW_to (F := F) (l1 := [(15, 0), (16, pl2), (27, (nI nd2)), (31, (nI wr2)), (64, (nI at2)), (65, (nI (ne + 1))), (66, (nI lk2))]) (l2 := [(15, 0), (16, pl2), (27, (nI nd2)), (31, (nI wr2)), (64, (nI at2)), (65, (nI (ne + 1))), (66, (nI lk2)), (15, 0), (27, (nI nd2)), (31, (nI wr2)), (64, (nI at2)), (65, (nI (ne + 1))), (66, (nI lk2))]) (V := [0, pl2, (nI nd2), (nI wr2), (nI at2), (nI (ne + 1)), (nI lk2), 0, pl2, (nI nd2), (nI wr2), (nI at2), (nI (ne + 1)), (nI lk2), 0, (nI nd2), (nI wr2), (nI at2), (nI (ne + 1)), (nI lk2)]) rfl rfl rfl hP
                have hD : va_D A (mW G h0 a (upd (upd (upd (upd (upd (upd (upd (upd (upd (upd (upd (upd (upd F 15 0) 16 pl2) 27 (nI nd2)) 31 (nI wr2)) 64 (nI at2)) 65 (nI (ne + 1))) 66 (nI lk2)) 15 0) 27 (nI nd2)) 31 (nI wr2)) 64 (nI at2)) 65 (nI (ne + 1))) 66 (nI lk2)) (updA X2 2 K)) := mW_D hD
                refine pc_V0 (G := G) (As := []) (rest := []) hx hb hml hown hq hE hX pX0_al hP hD hS hA hl.1 (ihc h0 a (upd (upd (upd (upd (upd (upd (upd F 15 0) 16 pl2) 27 (nI nd2)) 31 (nI wr2)) 64 (nI at2)) 65 (nI (ne + 1))) 66 (nI lk2)) X2 at2 T (ne + 1) nd2 wr2 lk2 K (by omega) (by omega) hK (by omega) (by omega) (by omega) (by omega) (hkp2).2 (by omega)) (gV pw_1640 pw_1641 pw_1642 pw_1523 pw_1656) hV_X12_choice 0 9 rfl rfl rfl rfl (Nat.le_of_ble_eq_true rfl) dX12_arguments_46 ⟨Nat.le_of_ble_eq_true rfl, Nat.le_of_ble_eq_true rfl⟩ ⟨(by show (20 * (n - 1) + 27) + 1 ≤ (20 * n + 8); omega), (by show 8 + (4 + 11) + (1000 * (n - 1) + 40 * 27) ≤ (1000 * n + 40 * 8); omega)⟩ (fun v195 u193 H locs hw194 hP hD hS => ?_)
                obtain ⟨at196, fa197, pl198, nd199, lk200, wr201, r202, X203⟩ := u193
                obtain ⟨hw194, h204, h205, h206, h207, h208, h209, h210, h211, h212, h213, h214, h215, h216, h217⟩ := hw194
                have h204 : at2 ≤ at196 := h204
                have h205 : at196 ≤ T := h205
                have h206 : fa197 ≤ 100 := h206
                have h207 : nd2 ≤ nd199 := h207
                have h208 : nd199 + 2 * at2 ≤ nd2 + 2 * at196 + 100000 * fa197 := h208
                have h209 : nd199 + 2 * at2 ≤ nd2 + 2 * at196 + 40 * (21 - (ne + 1)) := h209
                have h210 : wr2 ≤ wr201 := h210
                have h211 : wr201 + at2 ≤ wr2 + at196 := h211
                have h212 : lk2 ≤ lk200 := h212
                have h213 : lk200 ≤ 60 + 100 * fa197 := h213
                have h214 : at2 + 1 ≤ at196 + fa197 := h214
                have h215 : r202 ≤ nd199 := h215
                have h216 : Kp X2 X203 wr201 T := h216
                have h217 : If (fa197 = 0) (Low X2 X203 nd2 wr2 ∧ Frs K T wr201 X203 nd2 nd199 20000 [(r202, (211 + lk200 - (10 * (ne + 1) + lk2)))] ∧ kcl 1 (X203 9 r202) = true) := h217
                obtain rfl : v195 = some (.int (nI r202)) := hw194
                have hP : va_P G.1 pCl (mW G h0 a (upd (upd (upd (upd (upd (upd (upd F 15 (nI fa197)) 16 pl198) 27 (nI nd199)) 31 (nI wr201)) 64 (nI at196)) 65 (nI (ne + 1))) 66 (nI lk200)) (updA X203 2 K)) _ := mW_to (F := F) (l1 := [(15, 0), (16, pl2), (27, (nI nd2)), (31, (nI wr2)), (64, (nI at2)), (65, (nI (ne + 1))), (66, (nI lk2)), (15, (nI fa197)), (16, pl198), (27, (nI nd199)), (31, (nI wr201)), (64, (nI at196)), (65, (nI (ne + 1))), (66, (nI lk200))]) (l2 := [(15, (nI fa197)), (16, pl198), (27, (nI nd199)), (31, (nI wr201)), (64, (nI at196)), (65, (nI (ne + 1))), (66, (nI lk200))]) (V := [(nI fa197), pl198, (nI nd199), (nI wr201), (nI at196), (nI (ne + 1)), (nI lk200), (nI fa197), pl198, (nI nd199), (nI wr201), (nI at196), (nI (ne + 1)), (nI lk200), (nI fa197), pl198, (nI nd199), (nI wr201), (nI at196), (nI (ne + 1)), (nI lk200)]) rfl rfl rfl hP
                have hD : va_D A (mW G h0 a (upd (upd (upd (upd (upd (upd (upd F 15 (nI fa197)) 16 pl198) 27 (nI nd199)) 31 (nI wr201)) 64 (nI at196)) 65 (nI (ne + 1))) 66 (nI lk200)) (updA X203 2 K)) := mW_D hD
                refine W.widen (k := 0) (n := 0) (Nat.le_of_ble_eq_true rfl) (Nat.le_of_ble_eq_true rfl) ?_
                refine W.eq (g2 := F0 m 49 ls [.int (nI r202)]) rfl ?_
                have hkp218 : Kp B X203 wr201 T := (Kp.trans hkp2 h216)
                rcases Nat.eq_zero_or_pos fa197 with e219 | e219
                · subst e219
                  have hP : va_P G.1 pCl (mW G h0 a (upd (upd (upd (upd (upd (upd (upd F 15 0) 16 pl198) 27 (nI nd199)) 31 (nI wr201)) 64 (nI at196)) 65 (nI (ne + 1))) 66 (nI lk200)) (updA X203 2 K)) _ := hP
                  have hD : va_D A (mW G h0 a (upd (upd (upd (upd (upd (upd (upd F 15 0) 16 pl198) 27 (nI nd199)) 31 (nI wr201)) 64 (nI at196)) 65 (nI (ne + 1))) 66 (nI lk200)) (updA X203 2 K)) := mW_D hD
                  obtain ⟨hlw220, hf221, hc222⟩ := h217 rfl
                  have hlo223 : Low B X203 lo wr := (Low.trans hlo2 hlw220 (by omega) (by omega))
                  have hf224 : FrL K T wr201 X203 lo nd2 x x (zb + lk2 - lk) la 1 := (FrL.same hf2 (by omega) (fun j i q1 q2 q3 q4 => (hlw220.1 j i q1 (by omega) (by omega))))
                  have hn225 : Nd X203 x (nI k) xa xb2 (-1) (-1) := (Nd.low hn2 hlw220 (by omega))
                  have hm226 := Frs.mem hf221
                  refine lv_istore (lv' := [(4, .int (nI r202)), (3, .int 1), (2, .int (nI la)), (1, .int (nI x)), (0, .ref h0)]) hx hb dX12_arguments_49 hl (by decide) rfl (fun ls hl => ?_)
                  refine lv_iload_n hx hb dX12_arguments_51 rfl (lv_at hl 2 rfl) ?_
                  refine lv_iconst (v := (-1)) hx hb dX12_arguments_52 (by decide) ?_
                  refine lv_icmp_ne (tgt := 67) hx hb dX12_arguments_53 (by decide) (fun c227 => ?_) (fun c227 => absurd c227 (nI_m1 (by omega)))
                  refine lv_aload_n hx hb dX12_arguments_67 rfl (lv_at hl 4 rfl) ?_
                  refine r_get (v := .ref (a 16)) hx hb hown hq hE hP 24 59 tFX12_24 (by decide) pw_1446 rfl dX12_arguments_68 ?_
                  refine lv_iload_n hx hb dX12_arguments_71 rfl (lv_at hl 2 rfl) ?_
                  refine lv_iload hx hb dX12_arguments_72 (lv_at hl 0 rfl) ?_
                  refine r_sti (f := (X203 16)) (j := la) hx hb hE hP hD hS 16 (ma_16 G a _) rfl (mas_16 G a _) (by omega) (by decide) dX12_arguments_74 (fun H locs hP hD hS => ?_)
                  have hP : va_P G.1 pCl (mW G h0 a (upd (upd (upd (upd (upd (upd (upd F 15 0) 16 pl198) 27 (nI nd199)) 31 (nI wr201)) 64 (nI at196)) 65 (nI (ne + 1))) 66 (nI lk200)) (updA (stR X203 16 la (nI r202)) 2 K)) _ := mW_to (F := F) (l1 := [(15, 0), (16, pl198), (27, (nI nd199)), (31, (nI wr201)), (64, (nI at196)), (65, (nI (ne + 1))), (66, (nI lk200))]) (l2 := [(15, 0), (16, pl198), (27, (nI nd199)), (31, (nI wr201)), (64, (nI at196)), (65, (nI (ne + 1))), (66, (nI lk200))]) (V := [0, pl198, (nI nd199), (nI wr201), (nI at196), (nI (ne + 1)), (nI lk200), 0, pl198, (nI nd199), (nI wr201), (nI at196), (nI (ne + 1)), (nI lk200)]) rfl rfl (show (updA (updA X203 2 K) 16 (upd (X203 16) la (nI r202))) = (updA (stR X203 16 la (nI r202)) 2 K) from updsA_eq2 (F := X203) (l1 := [(2, K), (16, (upd (X203 16) la (nI r202)))]) (l2 := [(16, (upd (X203 16) la (nI r202))), (2, K)]) (V := [K, (upd (X203 16) la (nI r202)), (upd (X203 16) la (nI r202)), K]) rfl rfl) hP
                  have hD : va_D A (mW G h0 a (upd (upd (upd (upd (upd (upd (upd F 15 0) 16 pl198) 27 (nI nd199)) 31 (nI wr201)) 64 (nI at196)) 65 (nI (ne + 1))) 66 (nI lk200)) (updA (stR X203 16 la (nI r202)) 2 K)) := mW_D hD
                  have hkp228 : Kp B (stR X203 16 la (nI r202)) wr201 T := (Kp.row hkp218 (by omega))
                  have hlo229 : Low B (stR X203 16 la (nI r202)) lo wr := (Low.st hlo223 (by omega) (by omega))
                  have hn230 : Nd (stR X203 16 la (nI r202)) x (nI k) xa xb2 (-1) (-1) := (Nd.stn hn225 (by omega))
                  have hc231 : kcl 1 ((stR X203 16 la (nI r202)) 9 r202) = true := by rw [st_ne (by omega)]; exact hc222
                  have hf232 : FrL K T wr201 (stR X203 16 la (nI r202)) lo nd199 x x (zb + lk200 - lk) r202 1 := (FrL.next hf224 hf221 (by omega) (by omega) (by omega) (by omega) (lcl_1 hc222) (by omega) (by omega) (fun h => by omega))
                  refine lv_iload hx hb dX12_arguments_75 (lv_at hl 0 rfl) ?_
                  refine lv_istore_n (lv' := [(2, .int (nI r202)), (4, .int (nI r202)), (3, .int 1), (1, .int (nI x)), (0, .ref h0)]) hx hb dX12_arguments_77 rfl hl (by decide) rfl (fun ls hl => ?_)
                  refine lv_aload_n hx hb dX12_arguments_78 rfl (lv_at hl 4 rfl) ?_
                  refine lv_bipush (v := 44) hx hb dX12_arguments_79 (by decide) ?_
                  have hP : va_P G.1 pCl (mW G h0 a (upd (upd (upd (upd (upd (upd (upd (upd (upd F 15 0) 16 pl198) 27 (nI nd199)) 31 (nI wr201)) 64 (nI at196)) 65 (nI (ne + 1))) 66 (nI lk200)) 15 (nI 0)) 64 (nI at196)) (updA (updA (stR X203 16 la (nI r202)) 2 K) 2 K)) _ := mW_to (F := F) (l1 := [(15, 0), (16, pl198), (27, (nI nd199)), (31, (nI wr201)), (64, (nI at196)), (65, (nI (ne + 1))), (66, (nI lk200))]) (l2 := [(15, 0), (16, pl198), (27, (nI nd199)), (31, (nI wr201)), (64, (nI at196)), (65, (nI (ne + 1))), (66, (nI lk200)), (15, (nI 0)), (64, (nI at196))]) (V := [(nI 0), pl198, (nI nd199), (nI wr201), (nI at196), (nI (ne + 1)), (nI lk200), (nI 0), pl198, (nI nd199), (nI wr201), (nI at196), (nI (ne + 1)), (nI lk200), (nI 0), (nI at196)]) rfl rfl (show (updA (stR X203 16 la (nI r202)) 2 K) = (updA (updA (stR X203 16 la (nI r202)) 2 K) 2 K) from updsA_eq2 (F := X203) (l1 := [(16, (upd (X203 16) la (nI r202))), (2, K)]) (l2 := [(16, (upd (X203 16) la (nI r202))), (2, K), (2, K)]) (V := [(upd (X203 16) la (nI r202)), K, (upd (X203 16) la (nI r202)), K, K]) rfl rfl) hP
                  have hD : va_D A (mW G h0 a (upd (upd (upd (upd (upd (upd (upd (upd (upd F 15 0) 16 pl198) 27 (nI nd199)) 31 (nI wr201)) 64 (nI at196)) 65 (nI (ne + 1))) 66 (nI lk200)) 15 (nI 0)) 64 (nI at196)) (updA (updA (stR X203 16 la (nI r202)) 2 K) 2 K)) := mW_D hD
                  refine pc_V0 (G := G) (As := [.int 44]) (rest := []) hx hb hml hown hq hE hX pX0_al hP hD hS hA hl.1 (R_may l G h0 a (upd (upd (upd (upd (upd (upd (upd F 15 0) 16 pl198) 27 (nI nd199)) 31 (nI wr201)) 64 (nI at196)) 65 (nI (ne + 1))) 66 (nI lk200)) (updA (stR X203 16 la (nI r202)) 2 K) at196 T 0 K 44 (by omega) (by omega) hK (by omega) (by decide) (by decide)) (gV pw_1621 pw_1622 pw_1623 pw_1523 pw_1605) hV_X12_may 0 9 rfl rfl rfl rfl (Nat.le_of_ble_eq_true rfl) dX12_arguments_81 ⟨Nat.le_of_ble_eq_true rfl, Nat.le_of_ble_eq_true rfl⟩ ⟨(by show 3 + 1 ≤ (20 * n + 8); omega), (by show 8 + (3 + 11) + 81 ≤ (1000 * n + 40 * 8); omega)⟩ (fun v235 u233 H locs hw234 hP hD hS => ?_)
                  obtain ⟨at236, r237⟩ := u233
                  obtain ⟨hw234, h238, h239, h240, h241, h242, h243⟩ := hw234
                  have h238 : r237 ≤ 1 := h238
                  have h239 : 0 + 100 * r237 ≤ 100 := h239
                  have h240 : at236 = at196 + r237 := h240
                  have h241 : at236 ≤ T := h241
                  have h242 : If (r237 = 1) (K at196 = 44) := h242
                  have h243 : If (r237 = 0) (0 = 0 → ¬ K at196 = 44) := h243
                  obtain rfl : v235 = some (.int (nI r237)) := hw234
                  have hP : va_P G.1 pCl (mW G h0 a (upd (upd (upd (upd (upd (upd (upd F 15 0) 16 pl198) 27 (nI nd199)) 31 (nI wr201)) 64 (nI at236)) 65 (nI (ne + 1))) 66 (nI lk200)) (updA (stR X203 16 la (nI r202)) 2 K)) _ := mW_to (F := F) (l1 := [(15, 0), (16, pl198), (27, (nI nd199)), (31, (nI wr201)), (64, (nI at196)), (65, (nI (ne + 1))), (66, (nI lk200)), (15, (nI 0)), (64, (nI at236))]) (l2 := [(15, 0), (16, pl198), (27, (nI nd199)), (31, (nI wr201)), (64, (nI at236)), (65, (nI (ne + 1))), (66, (nI lk200))]) (V := [0, pl198, (nI nd199), (nI wr201), (nI at236), (nI (ne + 1)), (nI lk200), 0, (nI at236), 0, pl198, (nI nd199), (nI wr201), (nI at236), (nI (ne + 1)), (nI lk200)]) rfl rfl (show (updA (updA (stR X203 16 la (nI r202)) 2 K) 2 K) = (updA (stR X203 16 la (nI r202)) 2 K) from updsA_eq2 (F := X203) (l1 := [(16, (upd (X203 16) la (nI r202))), (2, K), (2, K)]) (l2 := [(16, (upd (X203 16) la (nI r202))), (2, K)]) (V := [(upd (X203 16) la (nI r202)), K, K, (upd (X203 16) la (nI r202)), K]) rfl rfl) hP
                  have hD : va_D A (mW G h0 a (upd (upd (upd (upd (upd (upd (upd F 15 0) 16 pl198) 27 (nI nd199)) 31 (nI wr201)) 64 (nI at236)) 65 (nI (ne + 1))) 66 (nI lk200)) (updA (stR X203 16 la (nI r202)) 2 K)) := mW_D hD
                  refine W.widen (k := 0) (n := 0) (Nat.le_of_ble_eq_true rfl) (Nat.le_of_ble_eq_true rfl) ?_
                  refine W.eq (g2 := F0 m 84 ls [.int (nI r237)]) rfl ?_
                  refine lv_istore_n (lv' := [(3, .int (nI r237)), (2, .int (nI r202)), (4, .int (nI r202)), (1, .int (nI x)), (0, .ref h0)]) hx hb dX12_arguments_84 rfl hl (by decide) rfl (fun ls hl => ?_)
                  refine lv_goto (tgt := 34) hx hb dX12_arguments_85 (by decide) ?_
                  rcases (show r237 = 0 ∨ r237 = 1 by omega) with e244 | e244
                  · subst e244
                    have hl : lv_has ls 5 [(3, .int 0), (2, .int (nI r202)), (4, .int (nI r202)), (1, .int (nI x)), (0, .ref h0)] := hl
                    refine lv_iload_n hx hb dX12_arguments_34 rfl (lv_at hl 0 rfl) ?_
                    refine lv_if_eq (tgt := 88) hx hb dX12_arguments_35 (by decide) (fun c245 => ?_) (fun c245 => absurd c245 (by decide))
                    refine lv_aload_n hx hb dX12_arguments_88 rfl (lv_at hl 4 rfl) ?_
                    refine r_get (v := .ref (a 15)) hx hb hown hq hE hP 23 56 tFX12_23 (by decide) pw_1445 rfl dX12_arguments_89 ?_
                    refine lv_iload_n hx hb dX12_arguments_92 rfl (lv_at hl 3 rfl) ?_
                    refine lv_aload_n hx hb dX12_arguments_93 rfl (lv_at hl 4 rfl) ?_
                    refine r_get (v := .int (nI at236)) hx hb hown hq hE hP 64 343 tFX12_64 (by decide) pw_1592 rfl dX12_arguments_94 ?_
                    refine r_sti (f := ((stR X203 16 la (nI r202)) 15)) (j := x) hx hb hE hP hD hS 15 (ma_15 G a _) rfl (mas_15 G a _) (by omega) (by decide) dX12_arguments_97 (fun H locs hP hD hS => ?_)
                    have hP : va_P G.1 pCl (mW G h0 a (upd (upd (upd (upd (upd (upd (upd F 15 0) 16 pl198) 27 (nI nd199)) 31 (nI wr201)) 64 (nI at236)) 65 (nI (ne + 1))) 66 (nI lk200)) (updA (stR (stR X203 16 la (nI r202)) 15 x (nI at236)) 2 K)) _ := hP
                    have hD : va_D A (mW G h0 a (upd (upd (upd (upd (upd (upd (upd F 15 0) 16 pl198) 27 (nI nd199)) 31 (nI wr201)) 64 (nI at236)) 65 (nI (ne + 1))) 66 (nI lk200)) (updA (stR (stR X203 16 la (nI r202)) 15 x (nI at236)) 2 K)) := mW_D hD
                    have hkp246 : Kp B (stR (stR X203 16 la (nI r202)) 15 x (nI at236)) wr201 T := (Kp.row hkp228 (by omega))
                    have hlo247 : Low B (stR (stR X203 16 la (nI r202)) 15 x (nI at236)) lo wr := (Low.st hlo229 (by omega) (by omega))
                    have hn248 : Nd (stR (stR X203 16 la (nI r202)) 15 x (nI at236)) x (nI k) xa xb2 (-1) (nI at236) := (Nd.st hn230 (by omega))
                    have hf249 : Frs K T wr201 (stR (stR X203 16 la (nI r202)) 15 x (nI at236)) lo nd199 x [(x, (zb + lk200 - lk))] := (Frs.tok (k := k) (FrL.toFrs hf232) (by omega) hn230.1 (by omega) hkk.2.1 hn230.2.2.2.2 (by omega))
                    refine lv_aload_n hx hb dX12_arguments_98 rfl (lv_at hl 4 rfl) ?_
                    refine lv_bipush (v := 41) hx hb dX12_arguments_99 (by decide) ?_
                    have hP : va_P G.1 pCl (mW G h0 a (upd (upd (upd (upd (upd (upd (upd (upd (upd F 15 0) 16 pl198) 27 (nI nd199)) 31 (nI wr201)) 64 (nI at236)) 65 (nI (ne + 1))) 66 (nI lk200)) 15 (nI 0)) 64 (nI at236)) (updA (updA (stR (stR X203 16 la (nI r202)) 15 x (nI at236)) 2 K) 2 K)) _ := mW_to (F := F) (l1 := [(15, 0), (16, pl198), (27, (nI nd199)), (31, (nI wr201)), (64, (nI at236)), (65, (nI (ne + 1))), (66, (nI lk200))]) (l2 := [(15, 0), (16, pl198), (27, (nI nd199)), (31, (nI wr201)), (64, (nI at236)), (65, (nI (ne + 1))), (66, (nI lk200)), (15, (nI 0)), (64, (nI at236))]) (V := [(nI 0), pl198, (nI nd199), (nI wr201), (nI at236), (nI (ne + 1)), (nI lk200), (nI 0), pl198, (nI nd199), (nI wr201), (nI at236), (nI (ne + 1)), (nI lk200), (nI 0), (nI at236)]) rfl rfl (show (updA (stR (stR X203 16 la (nI r202)) 15 x (nI at236)) 2 K) = (updA (updA (stR (stR X203 16 la (nI r202)) 15 x (nI at236)) 2 K) 2 K) from updsA_eq2 (F := X203) (l1 := [(16, (upd (X203 16) la (nI r202))), (15, (upd ((stR X203 16 la (nI r202)) 15) x (nI at236))), (2, K)]) (l2 := [(16, (upd (X203 16) la (nI r202))), (15, (upd ((stR X203 16 la (nI r202)) 15) x (nI at236))), (2, K), (2, K)]) (V := [(upd (X203 16) la (nI r202)), (upd ((stR X203 16 la (nI r202)) 15) x (nI at236)), K, (upd (X203 16) la (nI r202)), (upd ((stR X203 16 la (nI r202)) 15) x (nI at236)), K, K]) rfl rfl) hP
                    have hD : va_D A (mW G h0 a (upd (upd (upd (upd (upd (upd (upd (upd (upd F 15 0) 16 pl198) 27 (nI nd199)) 31 (nI wr201)) 64 (nI at236)) 65 (nI (ne + 1))) 66 (nI lk200)) 15 (nI 0)) 64 (nI at236)) (updA (updA (stR (stR X203 16 la (nI r202)) 15 x (nI at236)) 2 K) 2 K)) := mW_D hD
                    refine pc_V0 (G := G) (As := [.int 41]) (rest := []) hx hb hml hown hq hE hX pX0_al hP hD hS hA hl.1 (R_take l G h0 a (upd (upd (upd (upd (upd (upd (upd F 15 0) 16 pl198) 27 (nI nd199)) 31 (nI wr201)) 64 (nI at236)) 65 (nI (ne + 1))) 66 (nI lk200)) (updA (stR (stR X203 16 la (nI r202)) 15 x (nI at236)) 2 K) at236 T 0 K 41 (by omega) (by omega) hK (by omega) (by decide) (by decide)) (gV pw_1614 pw_1615 pw_1616 pw_1523 pw_1601) hV_X12_take 0 9 rfl rfl rfl rfl (Nat.le_of_ble_eq_true rfl) dX12_arguments_101 ⟨Nat.le_of_ble_eq_true rfl, Nat.le_of_ble_eq_true rfl⟩ ⟨(by show 4 + 1 ≤ (20 * n + 8); omega), (by show 8 + (2 + 11) + 103 ≤ (1000 * n + 40 * 8); omega)⟩ (fun v252 u250 H locs hw251 hP hD hS => ?_)
                    obtain ⟨at253, fa254, pl255⟩ := u250
                    obtain ⟨hw251, h256, h257, h258, h259, h260, h261, h262, h263⟩ := hw251
                    have h256 : at236 ≤ at253 := h256
                    have h257 : at253 ≤ T := h257
                    have h258 : 0 ≤ fa254 := h258
                    have h259 : fa254 ≤ 100 := h259
                    have h260 : If (0 < 0) (at253 = at236 ∧ fa254 = 0) := h260
                    have h261 : at253 ≤ at236 + 1 := h261
                    have h262 : at236 + 1 ≤ at253 + fa254 := h262
                    have h263 : If (fa254 = 0) (K at236 = 41) := h263
                    obtain rfl : v252 = none := hw251
                    have hP : va_P G.1 pCl (mW G h0 a (upd (upd (upd (upd (upd (upd (upd F 15 (nI fa254)) 16 pl255) 27 (nI nd199)) 31 (nI wr201)) 64 (nI at253)) 65 (nI (ne + 1))) 66 (nI lk200)) (updA (stR (stR X203 16 la (nI r202)) 15 x (nI at236)) 2 K)) _ := mW_to (F := F) (l1 := [(15, 0), (16, pl198), (27, (nI nd199)), (31, (nI wr201)), (64, (nI at236)), (65, (nI (ne + 1))), (66, (nI lk200)), (15, (nI fa254)), (16, pl255), (64, (nI at253))]) (l2 := [(15, (nI fa254)), (16, pl255), (27, (nI nd199)), (31, (nI wr201)), (64, (nI at253)), (65, (nI (ne + 1))), (66, (nI lk200))]) (V := [(nI fa254), pl255, (nI nd199), (nI wr201), (nI at253), (nI (ne + 1)), (nI lk200), (nI fa254), pl255, (nI at253), (nI fa254), pl255, (nI nd199), (nI wr201), (nI at253), (nI (ne + 1)), (nI lk200)]) rfl rfl (show (updA (updA (stR (stR X203 16 la (nI r202)) 15 x (nI at236)) 2 K) 2 K) = (updA (stR (stR X203 16 la (nI r202)) 15 x (nI at236)) 2 K) from updsA_eq2 (F := X203) (l1 := [(16, (upd (X203 16) la (nI r202))), (15, (upd ((stR X203 16 la (nI r202)) 15) x (nI at236))), (2, K), (2, K)]) (l2 := [(16, (upd (X203 16) la (nI r202))), (15, (upd ((stR X203 16 la (nI r202)) 15) x (nI at236))), (2, K)]) (V := [(upd (X203 16) la (nI r202)), (upd ((stR X203 16 la (nI r202)) 15) x (nI at236)), K, K, (upd (X203 16) la (nI r202)), (upd ((stR X203 16 la (nI r202)) 15) x (nI at236)), K]) rfl rfl) hP
                    have hD : va_D A (mW G h0 a (upd (upd (upd (upd (upd (upd (upd F 15 (nI fa254)) 16 pl255) 27 (nI nd199)) 31 (nI wr201)) 64 (nI at253)) 65 (nI (ne + 1))) 66 (nI lk200)) (updA (stR (stR X203 16 la (nI r202)) 15 x (nI at236)) 2 K)) := mW_D hD
                    refine W.widen (k := 0) (n := 0) (Nat.le_of_ble_eq_true rfl) (Nat.le_of_ble_eq_true rfl) ?_
                    refine W.eq (g2 := F0 m 104 ls []) rfl ?_
                    rcases Nat.eq_zero_or_pos fa254 with e264 | e264
                    · subst e264
                      have hP : va_P G.1 pCl (mW G h0 a (upd (upd (upd (upd (upd (upd (upd F 15 0) 16 pl255) 27 (nI nd199)) 31 (nI wr201)) 64 (nI at253)) 65 (nI (ne + 1))) 66 (nI lk200)) (updA (stR (stR X203 16 la (nI r202)) 15 x (nI at236)) 2 K)) _ := hP
                      have hD : va_D A (mW G h0 a (upd (upd (upd (upd (upd (upd (upd F 15 0) 16 pl255) 27 (nI nd199)) 31 (nI wr201)) 64 (nI at253)) 65 (nI (ne + 1))) 66 (nI lk200)) (updA (stR (stR X203 16 la (nI r202)) 15 x (nI at236)) 2 K)) := mW_D hD
                      refine lv_aload_n hx hb dX12_arguments_104 rfl (lv_at hl 4 rfl) ?_
                      refine lv_dup hx hb dX12_arguments_105 rfl ?_
                      refine r_get (v := .int (nI (ne + 1))) hx hb hown hq hE hP 65 366 tFX12_65 (by decide) pw_1612 rfl dX12_arguments_106 ?_
                      refine lv_iconst (v := 1) hx hb dX12_arguments_109 (by decide) ?_
                      refine lv_isub hx hb dX12_arguments_110 ?_
                      refine lv_topi (fun x265 e266 => ?_)
                      obtain rfl : x265 = nI ((ne + 1) - 1) := e266.trans (nI_subN (a := 1) (b := (ne + 1)) (by omega))
                      refine r_put (v := (nI ((ne + 1) - 1))) (ty := .int) hx hb hown hq hE hP hD hS 65 366 tFX12_65 (by decide) pw_1612 (by decide) rfl rfl (ms_65 a _ _) dX12_arguments_111 (fun H locs hP hD hS => ?_)
                      have hf267 : Frs K T wr201 (stR (stR X203 16 la (nI r202)) 15 x (nI at236)) lo nd199 20000 [(x, (zb + lk200 - lk))] := (Frs.fin (k := k) hf249 hn248 rfl (by omega) hAn (fun h => absurd h (by omega)) (fun h => absurd h (by omega)) (fun _ => nI_m1 (by omega)))
                      have hz268 : at0 ≤ at253 := (by omega)
                      have hz269 : at253 ≤ T := (by omega)
                      have hz270 : 0 ≤ 100 := (by omega)
                      have hz271 : nd ≤ nd199 := (by omega)
                      have hz272 : nd199 + 2 * at0 ≤ nd + 2 * at253 + 100000 * 0 := (by omega)
                      have hz273 : nd199 + 2 * at0 ≤ nd + 2 * at253 + 40 * (21 - ne) := (by omega)
                      have hz274 : wr ≤ wr201 := (by omega)
                      have hz275 : wr201 + at0 ≤ wr + at253 := (by omega)
                      have hz276 : lk ≤ lk200 := (by omega)
                      have hz277 : lk200 ≤ 60 + 100 * 0 := (by omega)
                      have hz278 : at0 + 1 ≤ at253 + 0 := (by omega)
                      have hz279 : Kp B (stR (stR X203 16 la (nI r202)) 15 x (nI at236)) wr201 T := hkp246
                      have hz280 : If (0 = 0) (Low B (stR (stR X203 16 la (nI r202)) 15 x (nI at236)) lo wr ∧ Frs K T wr201 (stR (stR X203 16 la (nI r202)) 15 x (nI at236)) lo nd199 20000 [(x, (zb + lk200 - lk))] ∧ (stR (stR X203 16 la (nI r202)) 15 x (nI at236)) 9 x = nI k) := (fun _ => ⟨hlo247, Frs.up hf267 (by omega), hn248.1⟩)
                      have hP : va_P G.1 pCl (mW G h0 a (upd (upd (upd (upd (upd (upd (upd F 15 (nI 0)) 16 pl255) 27 (nI nd199)) 31 (nI wr201)) 64 (nI at253)) 65 (nI ne)) 66 (nI lk200)) (updA (stR (stR X203 16 la (nI r202)) 15 x (nI at236)) 2 K)) _ := mW_to (F := F) (l1 := [(15, 0), (16, pl255), (27, (nI nd199)), (31, (nI wr201)), (64, (nI at253)), (65, (nI (ne + 1))), (66, (nI lk200)), (65, (nI ((ne + 1) - 1)))]) (l2 := [(15, (nI 0)), (16, pl255), (27, (nI nd199)), (31, (nI wr201)), (64, (nI at253)), (65, (nI ne)), (66, (nI lk200))]) (V := [(nI 0), pl255, (nI nd199), (nI wr201), (nI at253), (nI ne), (nI lk200), (nI ne), (nI 0), pl255, (nI nd199), (nI wr201), (nI at253), (nI ne), (nI lk200)]) rfl rfl rfl hP
                      have hD : va_D A (mW G h0 a (upd (upd (upd (upd (upd (upd (upd F 15 (nI 0)) 16 pl255) 27 (nI nd199)) 31 (nI wr201)) 64 (nI at253)) 65 (nI ne)) 66 (nI lk200)) (updA (stR (stR X203 16 la (nI r202)) 15 x (nI at236)) 2 K)) := mW_D hD
                      exact W.vret hx hb hr (fun t9 ht9 hW9 => ⟨⟨_, (at253, 0, pl255, nd199, lk200, wr201, (stR (stR X203 16 la (nI r202)) 15 x (nI at236))), rfl, ⟨rfl, hz268, hz269, hz270, hz271, hz272, hz273, hz274, hz275, hz276, hz277, hz278, hz279, hz280⟩, by rw [ht9]; exact hP, hD⟩, hS.F ht9⟩) hS.2.2 dX12_arguments_114
                    · have e264 := e264
                      refine lv_aload_n hx hb dX12_arguments_104 rfl (lv_at hl 4 rfl) ?_
                      refine lv_dup hx hb dX12_arguments_105 rfl ?_
                      refine r_get (v := .int (nI (ne + 1))) hx hb hown hq hE hP 65 366 tFX12_65 (by decide) pw_1612 rfl dX12_arguments_106 ?_
                      refine lv_iconst (v := 1) hx hb dX12_arguments_109 (by decide) ?_
                      refine lv_isub hx hb dX12_arguments_110 ?_
                      refine lv_topi (fun x281 e282 => ?_)
                      obtain rfl : x281 = nI ((ne + 1) - 1) := e282.trans (nI_subN (a := 1) (b := (ne + 1)) (by omega))
                      refine r_put (v := (nI ((ne + 1) - 1))) (ty := .int) hx hb hown hq hE hP hD hS 65 366 tFX12_65 (by decide) pw_1612 (by decide) rfl rfl (ms_65 a _ _) dX12_arguments_111 (fun H locs hP hD hS => ?_)
                      have hz283 : at0 ≤ at253 := (by omega)
                      have hz284 : at253 ≤ T := (by omega)
                      have hz285 : fa254 ≤ 100 := (by omega)
                      have hz286 : nd ≤ nd199 := (by omega)
                      have hz287 : nd199 + 2 * at0 ≤ nd + 2 * at253 + 100000 * fa254 := (by omega)
                      have hz288 : nd199 + 2 * at0 ≤ nd + 2 * at253 + 40 * (21 - ne) := (by omega)
                      have hz289 : wr ≤ wr201 := (by omega)
                      have hz290 : wr201 + at0 ≤ wr + at253 := (by omega)
                      have hz291 : lk ≤ lk200 := (by omega)
                      have hz292 : lk200 ≤ 60 + 100 * fa254 := (by omega)
                      have hz293 : at0 + 1 ≤ at253 + fa254 := (by omega)
                      have hz294 : Kp B (stR (stR X203 16 la (nI r202)) 15 x (nI at236)) wr201 T := hkp246
                      have hz295 : If (fa254 = 0) (Low B (stR (stR X203 16 la (nI r202)) 15 x (nI at236)) lo wr ∧ Frs K T wr201 (stR (stR X203 16 la (nI r202)) 15 x (nI at236)) lo nd199 20000 [(x, (zb + lk200 - lk))] ∧ (stR (stR X203 16 la (nI r202)) 15 x (nI at236)) 9 x = nI k) := (fun e => absurd e (by omega))
                      have hP : va_P G.1 pCl (mW G h0 a (upd (upd (upd (upd (upd (upd (upd F 15 (nI fa254)) 16 pl255) 27 (nI nd199)) 31 (nI wr201)) 64 (nI at253)) 65 (nI ne)) 66 (nI lk200)) (updA (stR (stR X203 16 la (nI r202)) 15 x (nI at236)) 2 K)) _ := mW_to (F := F) (l1 := [(15, (nI fa254)), (16, pl255), (27, (nI nd199)), (31, (nI wr201)), (64, (nI at253)), (65, (nI (ne + 1))), (66, (nI lk200)), (65, (nI ((ne + 1) - 1)))]) (l2 := [(15, (nI fa254)), (16, pl255), (27, (nI nd199)), (31, (nI wr201)), (64, (nI at253)), (65, (nI ne)), (66, (nI lk200))]) (V := [(nI fa254), pl255, (nI nd199), (nI wr201), (nI at253), (nI ne), (nI lk200), (nI ne), (nI fa254), pl255, (nI nd199), (nI wr201), (nI at253), (nI ne), (nI lk200)]) rfl rfl rfl hP
                      have hD : va_D A (mW G h0 a (upd (upd (upd (upd (upd (upd (upd F 15 (nI fa254)) 16 pl255) 27 (nI nd199)) 31 (nI wr201)) 64 (nI at253)) 65 (nI ne)) 66 (nI lk200)) (updA (stR (stR X203 16 la (nI r202)) 15 x (nI at236)) 2 K)) := mW_D hD
                      exact W.vret hx hb hr (fun t9 ht9 hW9 => ⟨⟨_, (at253, fa254, pl255, nd199, lk200, wr201, (stR (stR X203 16 la (nI r202)) 15 x (nI at236))), rfl, ⟨rfl, hz283, hz284, hz285, hz286, hz287, hz288, hz289, hz290, hz291, hz292, hz293, hz294, hz295⟩, by rw [ht9]; exact hP, hD⟩, hS.F ht9⟩) hS.2.2 dX12_arguments_114
                  · subst e244
                    have hl : lv_has ls 5 [(3, .int 1), (2, .int (nI r202)), (4, .int (nI r202)), (1, .int (nI x)), (0, .ref h0)] := hl
                    have hP : va_P G.1 pCl (mW G h0 a (upd (upd (upd (upd (upd (upd (upd F 15 0) 16 pl198) 27 (nI nd199)) 31 (nI wr201)) 64 (nI at236)) 65 (nI (ne + 1))) 66 (nI lk200)) (updA (stR X203 16 la (nI r202)) 2 K)) _ := hP
                    have hD : va_D A (mW G h0 a (upd (upd (upd (upd (upd (upd (upd F 15 0) 16 pl198) 27 (nI nd199)) 31 (nI wr201)) 64 (nI at236)) 65 (nI (ne + 1))) 66 (nI lk200)) (updA (stR X203 16 la (nI r202)) 2 K)) := mW_D hD
                    exact ih_o at236 nd199 wr201 lk200 pl198 (stR X203 16 la (nI r202)) r202 xb2 _ _ _ (by omega) (by omega) (by omega) (by omega) (by omega) (by omega) (by omega) (by omega) (by omega) (by omega) (by omega) hkp228 hlo229 hf232 hn230 hP hD hS (lv_sub hl [0, 1, 3, 4] rfl)
                · have e219 := e219
                  refine lv_istore (lv' := [(4, .int (nI r202)), (3, .int 1), (2, .int (nI la)), (1, .int (nI x)), (0, .ref h0)]) hx hb dX12_arguments_49 hl (by decide) rfl (fun ls hl => ?_)
                  refine lv_iload_n hx hb dX12_arguments_51 rfl (lv_at hl 2 rfl) ?_
                  refine lv_iconst (v := (-1)) hx hb dX12_arguments_52 (by decide) ?_
                  refine lv_icmp_ne (tgt := 67) hx hb dX12_arguments_53 (by decide) (fun c296 => ?_) (fun c296 => absurd c296 (nI_m1 (by omega)))
                  refine lv_aload_n hx hb dX12_arguments_67 rfl (lv_at hl 4 rfl) ?_
                  refine r_get (v := .ref (a 16)) hx hb hown hq hE hP 24 59 tFX12_24 (by decide) pw_1446 rfl dX12_arguments_68 ?_
                  refine lv_iload_n hx hb dX12_arguments_71 rfl (lv_at hl 2 rfl) ?_
                  refine lv_iload hx hb dX12_arguments_72 (lv_at hl 0 rfl) ?_
                  refine r_sti (f := (X203 16)) (j := la) hx hb hE hP hD hS 16 (ma_16 G a _) rfl (mas_16 G a _) (by omega) (by decide) dX12_arguments_74 (fun H locs hP hD hS => ?_)
                  have hP : va_P G.1 pCl (mW G h0 a (upd (upd (upd (upd (upd (upd (upd F 15 (nI fa197)) 16 pl198) 27 (nI nd199)) 31 (nI wr201)) 64 (nI at196)) 65 (nI (ne + 1))) 66 (nI lk200)) (updA (stR X203 16 la (nI r202)) 2 K)) _ := mW_to (F := F) (l1 := [(15, (nI fa197)), (16, pl198), (27, (nI nd199)), (31, (nI wr201)), (64, (nI at196)), (65, (nI (ne + 1))), (66, (nI lk200))]) (l2 := [(15, (nI fa197)), (16, pl198), (27, (nI nd199)), (31, (nI wr201)), (64, (nI at196)), (65, (nI (ne + 1))), (66, (nI lk200))]) (V := [(nI fa197), pl198, (nI nd199), (nI wr201), (nI at196), (nI (ne + 1)), (nI lk200), (nI fa197), pl198, (nI nd199), (nI wr201), (nI at196), (nI (ne + 1)), (nI lk200)]) rfl rfl (show (updA (updA X203 2 K) 16 (upd (X203 16) la (nI r202))) = (updA (stR X203 16 la (nI r202)) 2 K) from updsA_eq2 (F := X203) (l1 := [(2, K), (16, (upd (X203 16) la (nI r202)))]) (l2 := [(16, (upd (X203 16) la (nI r202))), (2, K)]) (V := [K, (upd (X203 16) la (nI r202)), (upd (X203 16) la (nI r202)), K]) rfl rfl) hP
                  have hD : va_D A (mW G h0 a (upd (upd (upd (upd (upd (upd (upd F 15 (nI fa197)) 16 pl198) 27 (nI nd199)) 31 (nI wr201)) 64 (nI at196)) 65 (nI (ne + 1))) 66 (nI lk200)) (updA (stR X203 16 la (nI r202)) 2 K)) := mW_D hD
                  have hkp297 : Kp B (stR X203 16 la (nI r202)) wr201 T := (Kp.row hkp218 (by omega))
                  refine lv_iload hx hb dX12_arguments_75 (lv_at hl 0 rfl) ?_
                  refine lv_istore_n (lv' := [(2, .int (nI r202)), (4, .int (nI r202)), (3, .int 1), (1, .int (nI x)), (0, .ref h0)]) hx hb dX12_arguments_77 rfl hl (by decide) rfl (fun ls hl => ?_)
                  refine lv_aload_n hx hb dX12_arguments_78 rfl (lv_at hl 4 rfl) ?_
                  refine lv_bipush (v := 44) hx hb dX12_arguments_79 (by decide) ?_
                  have hP : va_P G.1 pCl (mW G h0 a (upd (upd (upd (upd (upd (upd (upd (upd (upd F 15 (nI fa197)) 16 pl198) 27 (nI nd199)) 31 (nI wr201)) 64 (nI at196)) 65 (nI (ne + 1))) 66 (nI lk200)) 15 (nI fa197)) 64 (nI at196)) (updA (updA (stR X203 16 la (nI r202)) 2 K) 2 K)) _ := mW_to (F := F) (l1 := [(15, (nI fa197)), (16, pl198), (27, (nI nd199)), (31, (nI wr201)), (64, (nI at196)), (65, (nI (ne + 1))), (66, (nI lk200))]) (l2 := [(15, (nI fa197)), (16, pl198), (27, (nI nd199)), (31, (nI wr201)), (64, (nI at196)), (65, (nI (ne + 1))), (66, (nI lk200)), (15, (nI fa197)), (64, (nI at196))]) (V := [(nI fa197), pl198, (nI nd199), (nI wr201), (nI at196), (nI (ne + 1)), (nI lk200), (nI fa197), pl198, (nI nd199), (nI wr201), (nI at196), (nI (ne + 1)), (nI lk200), (nI fa197), (nI at196)]) rfl rfl (show (updA (stR X203 16 la (nI r202)) 2 K) = (updA (updA (stR X203 16 la (nI r202)) 2 K) 2 K) from updsA_eq2 (F := X203) (l1 := [(16, (upd (X203 16) la (nI r202))), (2, K)]) (l2 := [(16, (upd (X203 16) la (nI r202))), (2, K), (2, K)]) (V := [(upd (X203 16) la (nI r202)), K, (upd (X203 16) la (nI r202)), K, K]) rfl rfl) hP
                  have hD : va_D A (mW G h0 a (upd (upd (upd (upd (upd (upd (upd (upd (upd F 15 (nI fa197)) 16 pl198) 27 (nI nd199)) 31 (nI wr201)) 64 (nI at196)) 65 (nI (ne + 1))) 66 (nI lk200)) 15 (nI fa197)) 64 (nI at196)) (updA (updA (stR X203 16 la (nI r202)) 2 K) 2 K)) := mW_D hD
                  refine pc_V0 (G := G) (As := [.int 44]) (rest := []) hx hb hml hown hq hE hX pX0_al hP hD hS hA hl.1 (R_may l G h0 a (upd (upd (upd (upd (upd (upd (upd F 15 (nI fa197)) 16 pl198) 27 (nI nd199)) 31 (nI wr201)) 64 (nI at196)) 65 (nI (ne + 1))) 66 (nI lk200)) (updA (stR X203 16 la (nI r202)) 2 K) at196 T fa197 K 44 (by omega) (by omega) hK (by omega) (by decide) (by decide)) (gV pw_1621 pw_1622 pw_1623 pw_1523 pw_1605) hV_X12_may 0 9 rfl rfl rfl rfl (Nat.le_of_ble_eq_true rfl) dX12_arguments_81 ⟨Nat.le_of_ble_eq_true rfl, Nat.le_of_ble_eq_true rfl⟩ ⟨(by show 3 + 1 ≤ (20 * n + 8); omega), (by show 8 + (3 + 11) + 81 ≤ (1000 * n + 40 * 8); omega)⟩ (fun v300 u298 H locs hw299 hP hD hS => ?_)
                  obtain ⟨at301, r302⟩ := u298
                  obtain ⟨hw299, h303, h304, h305, h306, h307, h308⟩ := hw299
                  have h303 : r302 ≤ 1 := h303
                  have h304 : fa197 + 100 * r302 ≤ 100 := h304
                  have h305 : at301 = at196 + r302 := h305
                  have h306 : at301 ≤ T := h306
                  have h307 : If (r302 = 1) (K at196 = 44) := h307
                  have h308 : If (r302 = 0) (fa197 = 0 → ¬ K at196 = 44) := h308
                  obtain rfl : v300 = some (.int (nI r302)) := hw299
                  have hP : va_P G.1 pCl (mW G h0 a (upd (upd (upd (upd (upd (upd (upd F 15 (nI fa197)) 16 pl198) 27 (nI nd199)) 31 (nI wr201)) 64 (nI at301)) 65 (nI (ne + 1))) 66 (nI lk200)) (updA (stR X203 16 la (nI r202)) 2 K)) _ := mW_to (F := F) (l1 := [(15, (nI fa197)), (16, pl198), (27, (nI nd199)), (31, (nI wr201)), (64, (nI at196)), (65, (nI (ne + 1))), (66, (nI lk200)), (15, (nI fa197)), (64, (nI at301))]) (l2 := [(15, (nI fa197)), (16, pl198), (27, (nI nd199)), (31, (nI wr201)), (64, (nI at301)), (65, (nI (ne + 1))), (66, (nI lk200))]) (V := [(nI fa197), pl198, (nI nd199), (nI wr201), (nI at301), (nI (ne + 1)), (nI lk200), (nI fa197), (nI at301), (nI fa197), pl198, (nI nd199), (nI wr201), (nI at301), (nI (ne + 1)), (nI lk200)]) rfl rfl (show (updA (updA (stR X203 16 la (nI r202)) 2 K) 2 K) = (updA (stR X203 16 la (nI r202)) 2 K) from updsA_eq2 (F := X203) (l1 := [(16, (upd (X203 16) la (nI r202))), (2, K), (2, K)]) (l2 := [(16, (upd (X203 16) la (nI r202))), (2, K)]) (V := [(upd (X203 16) la (nI r202)), K, K, (upd (X203 16) la (nI r202)), K]) rfl rfl) hP
                  have hD : va_D A (mW G h0 a (upd (upd (upd (upd (upd (upd (upd F 15 (nI fa197)) 16 pl198) 27 (nI nd199)) 31 (nI wr201)) 64 (nI at301)) 65 (nI (ne + 1))) 66 (nI lk200)) (updA (stR X203 16 la (nI r202)) 2 K)) := mW_D hD
                  refine W.widen (k := 0) (n := 0) (Nat.le_of_ble_eq_true rfl) (Nat.le_of_ble_eq_true rfl) ?_
                  refine W.eq (g2 := F0 m 84 ls [.int (nI r302)]) rfl ?_
                  refine lv_istore_n (lv' := [(3, .int (nI r302)), (2, .int (nI r202)), (4, .int (nI r202)), (1, .int (nI x)), (0, .ref h0)]) hx hb dX12_arguments_84 rfl hl (by decide) rfl (fun ls hl => ?_)
                  refine lv_goto (tgt := 34) hx hb dX12_arguments_85 (by decide) ?_
                  refine lv_iload_n hx hb dX12_arguments_34 rfl (lv_at hl 0 rfl) ?_
                  refine lv_if_eq (tgt := 88) hx hb dX12_arguments_35 (by decide) (fun c309 => ?_) (fun c309 => (by have n310 : ¬ (r302 = 0) := fun h9 => c309 ((nI_eq (a := r302) (b := 0) (by omega) (by omega)).mpr h9); omega))
                  refine lv_aload_n hx hb dX12_arguments_88 rfl (lv_at hl 4 rfl) ?_
                  refine r_get (v := .ref (a 15)) hx hb hown hq hE hP 23 56 tFX12_23 (by decide) pw_1445 rfl dX12_arguments_89 ?_
                  refine lv_iload_n hx hb dX12_arguments_92 rfl (lv_at hl 3 rfl) ?_
                  refine lv_aload_n hx hb dX12_arguments_93 rfl (lv_at hl 4 rfl) ?_
                  refine r_get (v := .int (nI at301)) hx hb hown hq hE hP 64 343 tFX12_64 (by decide) pw_1592 rfl dX12_arguments_94 ?_
                  refine r_sti (f := ((stR X203 16 la (nI r202)) 15)) (j := x) hx hb hE hP hD hS 15 (ma_15 G a _) rfl (mas_15 G a _) (by omega) (by decide) dX12_arguments_97 (fun H locs hP hD hS => ?_)
                  have hP : va_P G.1 pCl (mW G h0 a (upd (upd (upd (upd (upd (upd (upd F 15 (nI fa197)) 16 pl198) 27 (nI nd199)) 31 (nI wr201)) 64 (nI at301)) 65 (nI (ne + 1))) 66 (nI lk200)) (updA (stR (stR X203 16 la (nI r202)) 15 x (nI at301)) 2 K)) _ := mW_to (F := F) (l1 := [(15, (nI fa197)), (16, pl198), (27, (nI nd199)), (31, (nI wr201)), (64, (nI at301)), (65, (nI (ne + 1))), (66, (nI lk200))]) (l2 := [(15, (nI fa197)), (16, pl198), (27, (nI nd199)), (31, (nI wr201)), (64, (nI at301)), (65, (nI (ne + 1))), (66, (nI lk200))]) (V := [(nI fa197), pl198, (nI nd199), (nI wr201), (nI at301), (nI (ne + 1)), (nI lk200), (nI fa197), pl198, (nI nd199), (nI wr201), (nI at301), (nI (ne + 1)), (nI lk200)]) rfl rfl (show (updA (updA (stR X203 16 la (nI r202)) 2 K) 15 (upd ((stR X203 16 la (nI r202)) 15) x (nI at301))) = (updA (stR (stR X203 16 la (nI r202)) 15 x (nI at301)) 2 K) from updsA_eq2 (F := X203) (l1 := [(16, (upd (X203 16) la (nI r202))), (2, K), (15, (upd ((stR X203 16 la (nI r202)) 15) x (nI at301)))]) (l2 := [(16, (upd (X203 16) la (nI r202))), (15, (upd ((stR X203 16 la (nI r202)) 15) x (nI at301))), (2, K)]) (V := [(upd (X203 16) la (nI r202)), K, (upd ((stR X203 16 la (nI r202)) 15) x (nI at301)), (upd (X203 16) la (nI r202)), (upd ((stR X203 16 la (nI r202)) 15) x (nI at301)), K]) rfl rfl) hP
                  have hD : va_D A (mW G h0 a (upd (upd (upd (upd (upd (upd (upd F 15 (nI fa197)) 16 pl198) 27 (nI nd199)) 31 (nI wr201)) 64 (nI at301)) 65 (nI (ne + 1))) 66 (nI lk200)) (updA (stR (stR X203 16 la (nI r202)) 15 x (nI at301)) 2 K)) := mW_D hD
                  have hkp311 : Kp B (stR (stR X203 16 la (nI r202)) 15 x (nI at301)) wr201 T := (Kp.row hkp297 (by omega))
                  refine lv_aload_n hx hb dX12_arguments_98 rfl (lv_at hl 4 rfl) ?_
                  refine lv_bipush (v := 41) hx hb dX12_arguments_99 (by decide) ?_
                  have hP : va_P G.1 pCl (mW G h0 a (upd (upd (upd (upd (upd (upd (upd (upd (upd F 15 (nI fa197)) 16 pl198) 27 (nI nd199)) 31 (nI wr201)) 64 (nI at301)) 65 (nI (ne + 1))) 66 (nI lk200)) 15 (nI fa197)) 64 (nI at301)) (updA (updA (stR (stR X203 16 la (nI r202)) 15 x (nI at301)) 2 K) 2 K)) _ := mW_to (F := F) (l1 := [(15, (nI fa197)), (16, pl198), (27, (nI nd199)), (31, (nI wr201)), (64, (nI at301)), (65, (nI (ne + 1))), (66, (nI lk200))]) (l2 := [(15, (nI fa197)), (16, pl198), (27, (nI nd199)), (31, (nI wr201)), (64, (nI at301)), (65, (nI (ne + 1))), (66, (nI lk200)), (15, (nI fa197)), (64, (nI at301))]) (V := [(nI fa197), pl198, (nI nd199), (nI wr201), (nI at301), (nI (ne + 1)), (nI lk200), (nI fa197), pl198, (nI nd199), (nI wr201), (nI at301), (nI (ne + 1)), (nI lk200), (nI fa197), (nI at301)]) rfl rfl (show (updA (stR (stR X203 16 la (nI r202)) 15 x (nI at301)) 2 K) = (updA (updA (stR (stR X203 16 la (nI r202)) 15 x (nI at301)) 2 K) 2 K) from updsA_eq2 (F := X203) (l1 := [(16, (upd (X203 16) la (nI r202))), (15, (upd ((stR X203 16 la (nI r202)) 15) x (nI at301))), (2, K)]) (l2 := [(16, (upd (X203 16) la (nI r202))), (15, (upd ((stR X203 16 la (nI r202)) 15) x (nI at301))), (2, K), (2, K)]) (V := [(upd (X203 16) la (nI r202)), (upd ((stR X203 16 la (nI r202)) 15) x (nI at301)), K, (upd (X203 16) la (nI r202)), (upd ((stR X203 16 la (nI r202)) 15) x (nI at301)), K, K]) rfl rfl) hP
                  have hD : va_D A (mW G h0 a (upd (upd (upd (upd (upd (upd (upd (upd (upd F 15 (nI fa197)) 16 pl198) 27 (nI nd199)) 31 (nI wr201)) 64 (nI at301)) 65 (nI (ne + 1))) 66 (nI lk200)) 15 (nI fa197)) 64 (nI at301)) (updA (updA (stR (stR X203 16 la (nI r202)) 15 x (nI at301)) 2 K) 2 K)) := mW_D hD
                  refine pc_V0 (G := G) (As := [.int 41]) (rest := []) hx hb hml hown hq hE hX pX0_al hP hD hS hA hl.1 (R_take l G h0 a (upd (upd (upd (upd (upd (upd (upd F 15 (nI fa197)) 16 pl198) 27 (nI nd199)) 31 (nI wr201)) 64 (nI at301)) 65 (nI (ne + 1))) 66 (nI lk200)) (updA (stR (stR X203 16 la (nI r202)) 15 x (nI at301)) 2 K) at301 T fa197 K 41 (by omega) (by omega) hK (by omega) (by decide) (by decide)) (gV pw_1614 pw_1615 pw_1616 pw_1523 pw_1601) hV_X12_take 0 9 rfl rfl rfl rfl (Nat.le_of_ble_eq_true rfl) dX12_arguments_101 ⟨Nat.le_of_ble_eq_true rfl, Nat.le_of_ble_eq_true rfl⟩ ⟨(by show 4 + 1 ≤ (20 * n + 8); omega), (by show 8 + (2 + 11) + 103 ≤ (1000 * n + 40 * 8); omega)⟩ (fun v314 u312 H locs hw313 hP hD hS => ?_)
                  obtain ⟨at315, fa316, pl317⟩ := u312
                  obtain ⟨hw313, h318, h319, h320, h321, h322, h323, h324, h325⟩ := hw313
                  have h318 : at301 ≤ at315 := h318
                  have h319 : at315 ≤ T := h319
                  have h320 : fa197 ≤ fa316 := h320
                  have h321 : fa316 ≤ 100 := h321
                  have h322 : If (0 < fa197) (at315 = at301 ∧ fa316 = fa197) := h322
                  have h323 : at315 ≤ at301 + 1 := h323
                  have h324 : at301 + 1 ≤ at315 + fa316 := h324
                  have h325 : If (fa316 = 0) (K at301 = 41) := h325
                  obtain rfl : v314 = none := hw313
                  have hP : va_P G.1 pCl (mW G h0 a (upd (upd (upd (upd (upd (upd (upd F 15 (nI fa316)) 16 pl317) 27 (nI nd199)) 31 (nI wr201)) 64 (nI at315)) 65 (nI (ne + 1))) 66 (nI lk200)) (updA (stR (stR X203 16 la (nI r202)) 15 x (nI at301)) 2 K)) _ := mW_to (F := F) (l1 := [(15, (nI fa197)), (16, pl198), (27, (nI nd199)), (31, (nI wr201)), (64, (nI at301)), (65, (nI (ne + 1))), (66, (nI lk200)), (15, (nI fa316)), (16, pl317), (64, (nI at315))]) (l2 := [(15, (nI fa316)), (16, pl317), (27, (nI nd199)), (31, (nI wr201)), (64, (nI at315)), (65, (nI (ne + 1))), (66, (nI lk200))]) (V := [(nI fa316), pl317, (nI nd199), (nI wr201), (nI at315), (nI (ne + 1)), (nI lk200), (nI fa316), pl317, (nI at315), (nI fa316), pl317, (nI nd199), (nI wr201), (nI at315), (nI (ne + 1)), (nI lk200)]) rfl rfl (show (updA (updA (stR (stR X203 16 la (nI r202)) 15 x (nI at301)) 2 K) 2 K) = (updA (stR (stR X203 16 la (nI r202)) 15 x (nI at301)) 2 K) from updsA_eq2 (F := X203) (l1 := [(16, (upd (X203 16) la (nI r202))), (15, (upd ((stR X203 16 la (nI r202)) 15) x (nI at301))), (2, K), (2, K)]) (l2 := [(16, (upd (X203 16) la (nI r202))), (15, (upd ((stR X203 16 la (nI r202)) 15) x (nI at301))), (2, K)]) (V := [(upd (X203 16) la (nI r202)), (upd ((stR X203 16 la (nI r202)) 15) x (nI at301)), K, K, (upd (X203 16) la (nI r202)), (upd ((stR X203 16 la (nI r202)) 15) x (nI at301)), K]) rfl rfl) hP
                  have hD : va_D A (mW G h0 a (upd (upd (upd (upd (upd (upd (upd F 15 (nI fa316)) 16 pl317) 27 (nI nd199)) 31 (nI wr201)) 64 (nI at315)) 65 (nI (ne + 1))) 66 (nI lk200)) (updA (stR (stR X203 16 la (nI r202)) 15 x (nI at301)) 2 K)) := mW_D hD
                  refine W.widen (k := 0) (n := 0) (Nat.le_of_ble_eq_true rfl) (Nat.le_of_ble_eq_true rfl) ?_
                  refine W.eq (g2 := F0 m 104 ls []) rfl ?_
                  obtain ⟨n327, n326⟩ := h322 e219
                  replace n327 := n327.symm
                  subst n327
                  replace n326 := n326.symm
                  subst n326
                  refine lv_aload_n hx hb dX12_arguments_104 rfl (lv_at hl 4 rfl) ?_
                  refine lv_dup hx hb dX12_arguments_105 rfl ?_
                  refine r_get (v := .int (nI (ne + 1))) hx hb hown hq hE hP 65 366 tFX12_65 (by decide) pw_1612 rfl dX12_arguments_106 ?_
                  refine lv_iconst (v := 1) hx hb dX12_arguments_109 (by decide) ?_
                  refine lv_isub hx hb dX12_arguments_110 ?_
                  refine lv_topi (fun x328 e329 => ?_)
                  obtain rfl : x328 = nI ((ne + 1) - 1) := e329.trans (nI_subN (a := 1) (b := (ne + 1)) (by omega))
                  refine r_put (v := (nI ((ne + 1) - 1))) (ty := .int) hx hb hown hq hE hP hD hS 65 366 tFX12_65 (by decide) pw_1612 (by decide) rfl rfl (ms_65 a _ _) dX12_arguments_111 (fun H locs hP hD hS => ?_)
                  have hz330 : at0 ≤ at301 := (by omega)
                  have hz331 : at301 ≤ T := (by omega)
                  have hz332 : fa197 ≤ 100 := (by omega)
                  have hz333 : nd ≤ nd199 := (by omega)
                  have hz334 : nd199 + 2 * at0 ≤ nd + 2 * at301 + 100000 * fa197 := (by omega)
                  have hz335 : nd199 + 2 * at0 ≤ nd + 2 * at301 + 40 * (21 - ne) := (by omega)
                  have hz336 : wr ≤ wr201 := (by omega)
                  have hz337 : wr201 + at0 ≤ wr + at301 := (by omega)
                  have hz338 : lk ≤ lk200 := (by omega)
                  have hz339 : lk200 ≤ 60 + 100 * fa197 := (by omega)
                  have hz340 : at0 + 1 ≤ at301 + fa197 := (by omega)
                  have hz341 : Kp B (stR (stR X203 16 la (nI r202)) 15 x (nI at301)) wr201 T := hkp311
                  have hz342 : If (fa197 = 0) (Low B (stR (stR X203 16 la (nI r202)) 15 x (nI at301)) lo wr ∧ Frs K T wr201 (stR (stR X203 16 la (nI r202)) 15 x (nI at301)) lo nd199 20000 [(x, (zb + lk200 - lk))] ∧ (stR (stR X203 16 la (nI r202)) 15 x (nI at301)) 9 x = nI k) := (fun e => absurd e (by omega))
                  have hP : va_P G.1 pCl (mW G h0 a (upd (upd (upd (upd (upd (upd (upd F 15 (nI fa197)) 16 pl317) 27 (nI nd199)) 31 (nI wr201)) 64 (nI at301)) 65 (nI ne)) 66 (nI lk200)) (updA (stR (stR X203 16 la (nI r202)) 15 x (nI at301)) 2 K)) _ := hP
                  have hD : va_D A (mW G h0 a (upd (upd (upd (upd (upd (upd (upd F 15 (nI fa197)) 16 pl317) 27 (nI nd199)) 31 (nI wr201)) 64 (nI at301)) 65 (nI ne)) 66 (nI lk200)) (updA (stR (stR X203 16 la (nI r202)) 15 x (nI at301)) 2 K)) := mW_D hD
                  exact W.vret hx hb hr (fun t9 ht9 hW9 => ⟨⟨_, (at301, fa197, pl317, nd199, lk200, wr201, (stR (stR X203 16 la (nI r202)) 15 x (nI at301))), rfl, ⟨rfl, hz330, hz331, hz332, hz333, hz334, hz335, hz336, hz337, hz338, hz339, hz340, hz341, hz342⟩, by rw [ht9]; exact hP, hD⟩, hS.F ht9⟩) hS.2.2 dX12_arguments_114
            have hP : va_P G.1 pCl (mW G h0 a (upd (upd (upd (upd (upd (upd (upd F 15 0) 16 pl92) 27 (nI nd93)) 31 (nI wr95)) 64 (nI at131)) 65 (nI (ne + 1))) 66 (nI lk94)) (updA (stR X97 13 x (nI r96)) 2 K)) _ := hP
            have hD : va_D A (mW G h0 a (upd (upd (upd (upd (upd (upd (upd F 15 0) 16 pl92) 27 (nI nd93)) 31 (nI wr95)) 64 (nI at131)) 65 (nI (ne + 1))) 66 (nI lk94)) (updA (stR X97 13 x (nI r96)) 2 K)) := mW_D hD
            exact loop_o (T + 1) at131 nd93 wr95 lk94 pl92 (stR X97 13 x (nI r96)) r96 (nI r96) _ _ _ (by omega) (by omega) (by omega) (by omega) (by omega) (by omega) (by omega) (by omega) (by omega) (by omega) (by omega) hkp122 hlo123 hf127 hn125 hP hD hS (lv_sub hl [0, 1, 4, 3] rfl)
        · have e113 := e113
          refine lv_istore (lv' := [(4, .int (nI r96)), (3, .int 1), (2, .int (-1)), (0, .ref h0), (1, .int (nI x))]) hx hb dX12_arguments_49 hl (by decide) rfl (fun ls hl => ?_)
          refine lv_iload_n hx hb dX12_arguments_51 rfl (lv_at hl 2 rfl) ?_
          refine lv_iconst (v := (-1)) hx hb dX12_arguments_52 (by decide) ?_
          refine lv_icmp_ne (tgt := 67) hx hb dX12_arguments_53 (by decide) (fun c343 => absurd c343 (by decide)) (fun c343 => ?_)
          refine lv_aload_n hx hb dX12_arguments_56 rfl (lv_at hl 3 rfl) ?_
          refine r_get (v := .ref (a 13)) hx hb hown hq hE hP 21 50 tFX12_21 (by decide) pw_1443 rfl dX12_arguments_57 ?_
          refine lv_iload_n hx hb dX12_arguments_60 rfl (lv_at hl 4 rfl) ?_
          refine lv_iload hx hb dX12_arguments_61 (lv_at hl 0 rfl) ?_
          refine r_sti (f := (X97 13)) (j := x) hx hb hE hP hD hS 13 (ma_13 G a _) rfl (mas_13 G a _) (by omega) (by decide) dX12_arguments_63 (fun H locs hP hD hS => ?_)
          have hP : va_P G.1 pCl (mW G h0 a (upd (upd (upd (upd (upd (upd (upd F 15 (nI fa91)) 16 pl92) 27 (nI nd93)) 31 (nI wr95)) 64 (nI at90)) 65 (nI (ne + 1))) 66 (nI lk94)) (updA (stR X97 13 x (nI r96)) 2 K)) _ := mW_to (F := F) (l1 := [(15, (nI fa91)), (16, pl92), (27, (nI nd93)), (31, (nI wr95)), (64, (nI at90)), (65, (nI (ne + 1))), (66, (nI lk94))]) (l2 := [(15, (nI fa91)), (16, pl92), (27, (nI nd93)), (31, (nI wr95)), (64, (nI at90)), (65, (nI (ne + 1))), (66, (nI lk94))]) (V := [(nI fa91), pl92, (nI nd93), (nI wr95), (nI at90), (nI (ne + 1)), (nI lk94), (nI fa91), pl92, (nI nd93), (nI wr95), (nI at90), (nI (ne + 1)), (nI lk94)]) rfl rfl (show (updA (updA X97 2 K) 13 (upd (X97 13) x (nI r96))) = (updA (stR X97 13 x (nI r96)) 2 K) from updsA_eq2 (F := X97) (l1 := [(2, K), (13, (upd (X97 13) x (nI r96)))]) (l2 := [(13, (upd (X97 13) x (nI r96))), (2, K)]) (V := [K, (upd (X97 13) x (nI r96)), (upd (X97 13) x (nI r96)), K]) rfl rfl) hP
          have hD : va_D A (mW G h0 a (upd (upd (upd (upd (upd (upd (upd F 15 (nI fa91)) 16 pl92) 27 (nI nd93)) 31 (nI wr95)) 64 (nI at90)) 65 (nI (ne + 1))) 66 (nI lk94)) (updA (stR X97 13 x (nI r96)) 2 K)) := mW_D hD
          have hkp344 : Kp B (stR X97 13 x (nI r96)) wr95 T := (Kp.row hkp112 (by omega))
          refine lv_goto (tgt := 75) hx hb dX12_arguments_64 (by decide) ?_
          refine lv_iload hx hb dX12_arguments_75 (lv_at hl 0 rfl) ?_
          refine lv_istore_n (lv' := [(2, .int (nI r96)), (4, .int (nI r96)), (3, .int 1), (0, .ref h0), (1, .int (nI x))]) hx hb dX12_arguments_77 rfl hl (by decide) rfl (fun ls hl => ?_)
          refine lv_aload_n hx hb dX12_arguments_78 rfl (lv_at hl 3 rfl) ?_
          refine lv_bipush (v := 44) hx hb dX12_arguments_79 (by decide) ?_
          have hP : va_P G.1 pCl (mW G h0 a (upd (upd (upd (upd (upd (upd (upd (upd (upd F 15 (nI fa91)) 16 pl92) 27 (nI nd93)) 31 (nI wr95)) 64 (nI at90)) 65 (nI (ne + 1))) 66 (nI lk94)) 15 (nI fa91)) 64 (nI at90)) (updA (updA (stR X97 13 x (nI r96)) 2 K) 2 K)) _ := mW_to (F := F) (l1 := [(15, (nI fa91)), (16, pl92), (27, (nI nd93)), (31, (nI wr95)), (64, (nI at90)), (65, (nI (ne + 1))), (66, (nI lk94))]) (l2 := [(15, (nI fa91)), (16, pl92), (27, (nI nd93)), (31, (nI wr95)), (64, (nI at90)), (65, (nI (ne + 1))), (66, (nI lk94)), (15, (nI fa91)), (64, (nI at90))]) (V := [(nI fa91), pl92, (nI nd93), (nI wr95), (nI at90), (nI (ne + 1)), (nI lk94), (nI fa91), pl92, (nI nd93), (nI wr95), (nI at90), (nI (ne + 1)), (nI lk94), (nI fa91), (nI at90)]) rfl rfl (show (updA (stR X97 13 x (nI r96)) 2 K) = (updA (updA (stR X97 13 x (nI r96)) 2 K) 2 K) from updsA_eq2 (F := X97) (l1 := [(13, (upd (X97 13) x (nI r96))), (2, K)]) (l2 := [(13, (upd (X97 13) x (nI r96))), (2, K), (2, K)]) (V := [(upd (X97 13) x (nI r96)), K, (upd (X97 13) x (nI r96)), K, K]) rfl rfl) hP
          have hD : va_D A (mW G h0 a (upd (upd (upd (upd (upd (upd (upd (upd (upd F 15 (nI fa91)) 16 pl92) 27 (nI nd93)) 31 (nI wr95)) 64 (nI at90)) 65 (nI (ne + 1))) 66 (nI lk94)) 15 (nI fa91)) 64 (nI at90)) (updA (updA (stR X97 13 x (nI r96)) 2 K) 2 K)) := mW_D hD
          refine pc_V0 (G := G) (As := [.int 44]) (rest := []) hx hb hml hown hq hE hX pX0_al hP hD hS hA hl.1 (R_may l G h0 a (upd (upd (upd (upd (upd (upd (upd F 15 (nI fa91)) 16 pl92) 27 (nI nd93)) 31 (nI wr95)) 64 (nI at90)) 65 (nI (ne + 1))) 66 (nI lk94)) (updA (stR X97 13 x (nI r96)) 2 K) at90 T fa91 K 44 (by omega) (by omega) hK (by omega) (by decide) (by decide)) (gV pw_1621 pw_1622 pw_1623 pw_1523 pw_1605) hV_X12_may 0 9 rfl rfl rfl rfl (Nat.le_of_ble_eq_true rfl) dX12_arguments_81 ⟨Nat.le_of_ble_eq_true rfl, Nat.le_of_ble_eq_true rfl⟩ ⟨(by show 3 + 1 ≤ (20 * n + 8); omega), (by show 8 + (3 + 11) + 81 ≤ (1000 * n + 40 * 8); omega)⟩ (fun v347 u345 H locs hw346 hP hD hS => ?_)
          obtain ⟨at348, r349⟩ := u345
          obtain ⟨hw346, h350, h351, h352, h353, h354, h355⟩ := hw346
          have h350 : r349 ≤ 1 := h350
          have h351 : fa91 + 100 * r349 ≤ 100 := h351
          have h352 : at348 = at90 + r349 := h352
          have h353 : at348 ≤ T := h353
          have h354 : If (r349 = 1) (K at90 = 44) := h354
          have h355 : If (r349 = 0) (fa91 = 0 → ¬ K at90 = 44) := h355
          obtain rfl : v347 = some (.int (nI r349)) := hw346
          have hP : va_P G.1 pCl (mW G h0 a (upd (upd (upd (upd (upd (upd (upd F 15 (nI fa91)) 16 pl92) 27 (nI nd93)) 31 (nI wr95)) 64 (nI at348)) 65 (nI (ne + 1))) 66 (nI lk94)) (updA (stR X97 13 x (nI r96)) 2 K)) _ := mW_to (F := F) (l1 := [(15, (nI fa91)), (16, pl92), (27, (nI nd93)), (31, (nI wr95)), (64, (nI at90)), (65, (nI (ne + 1))), (66, (nI lk94)), (15, (nI fa91)), (64, (nI at348))]) (l2 := [(15, (nI fa91)), (16, pl92), (27, (nI nd93)), (31, (nI wr95)), (64, (nI at348)), (65, (nI (ne + 1))), (66, (nI lk94))]) (V := [(nI fa91), pl92, (nI nd93), (nI wr95), (nI at348), (nI (ne + 1)), (nI lk94), (nI fa91), (nI at348), (nI fa91), pl92, (nI nd93), (nI wr95), (nI at348), (nI (ne + 1)), (nI lk94)]) rfl rfl (show (updA (updA (stR X97 13 x (nI r96)) 2 K) 2 K) = (updA (stR X97 13 x (nI r96)) 2 K) from updsA_eq2 (F := X97) (l1 := [(13, (upd (X97 13) x (nI r96))), (2, K), (2, K)]) (l2 := [(13, (upd (X97 13) x (nI r96))), (2, K)]) (V := [(upd (X97 13) x (nI r96)), K, K, (upd (X97 13) x (nI r96)), K]) rfl rfl) hP
          have hD : va_D A (mW G h0 a (upd (upd (upd (upd (upd (upd (upd F 15 (nI fa91)) 16 pl92) 27 (nI nd93)) 31 (nI wr95)) 64 (nI at348)) 65 (nI (ne + 1))) 66 (nI lk94)) (updA (stR X97 13 x (nI r96)) 2 K)) := mW_D hD
          refine W.widen (k := 0) (n := 0) (Nat.le_of_ble_eq_true rfl) (Nat.le_of_ble_eq_true rfl) ?_
          refine W.eq (g2 := F0 m 84 ls [.int (nI r349)]) rfl ?_
          refine lv_istore_n (lv' := [(3, .int (nI r349)), (2, .int (nI r96)), (4, .int (nI r96)), (0, .ref h0), (1, .int (nI x))]) hx hb dX12_arguments_84 rfl hl (by decide) rfl (fun ls hl => ?_)
          refine lv_goto (tgt := 34) hx hb dX12_arguments_85 (by decide) ?_
          refine lv_iload_n hx hb dX12_arguments_34 rfl (lv_at hl 0 rfl) ?_
          refine lv_if_eq (tgt := 88) hx hb dX12_arguments_35 (by decide) (fun c356 => ?_) (fun c356 => (by have n357 : ¬ (r349 = 0) := fun h9 => c356 ((nI_eq (a := r349) (b := 0) (by omega) (by omega)).mpr h9); omega))
          refine lv_aload_n hx hb dX12_arguments_88 rfl (lv_at hl 3 rfl) ?_
          refine r_get (v := .ref (a 15)) hx hb hown hq hE hP 23 56 tFX12_23 (by decide) pw_1445 rfl dX12_arguments_89 ?_
          refine lv_iload_n hx hb dX12_arguments_92 rfl (lv_at hl 4 rfl) ?_
          refine lv_aload_n hx hb dX12_arguments_93 rfl (lv_at hl 3 rfl) ?_
          refine r_get (v := .int (nI at348)) hx hb hown hq hE hP 64 343 tFX12_64 (by decide) pw_1592 rfl dX12_arguments_94 ?_
          refine r_sti (f := ((stR X97 13 x (nI r96)) 15)) (j := x) hx hb hE hP hD hS 15 (ma_15 G a _) rfl (mas_15 G a _) (by omega) (by decide) dX12_arguments_97 (fun H locs hP hD hS => ?_)
          have hP : va_P G.1 pCl (mW G h0 a (upd (upd (upd (upd (upd (upd (upd F 15 (nI fa91)) 16 pl92) 27 (nI nd93)) 31 (nI wr95)) 64 (nI at348)) 65 (nI (ne + 1))) 66 (nI lk94)) (updA (stR (stR X97 13 x (nI r96)) 15 x (nI at348)) 2 K)) _ := mW_to (F := F) (l1 := [(15, (nI fa91)), (16, pl92), (27, (nI nd93)), (31, (nI wr95)), (64, (nI at348)), (65, (nI (ne + 1))), (66, (nI lk94))]) (l2 := [(15, (nI fa91)), (16, pl92), (27, (nI nd93)), (31, (nI wr95)), (64, (nI at348)), (65, (nI (ne + 1))), (66, (nI lk94))]) (V := [(nI fa91), pl92, (nI nd93), (nI wr95), (nI at348), (nI (ne + 1)), (nI lk94), (nI fa91), pl92, (nI nd93), (nI wr95), (nI at348), (nI (ne + 1)), (nI lk94)]) rfl rfl (show (updA (updA (stR X97 13 x (nI r96)) 2 K) 15 (upd ((stR X97 13 x (nI r96)) 15) x (nI at348))) = (updA (stR (stR X97 13 x (nI r96)) 15 x (nI at348)) 2 K) from updsA_eq2 (F := X97) (l1 := [(13, (upd (X97 13) x (nI r96))), (2, K), (15, (upd ((stR X97 13 x (nI r96)) 15) x (nI at348)))]) (l2 := [(13, (upd (X97 13) x (nI r96))), (15, (upd ((stR X97 13 x (nI r96)) 15) x (nI at348))), (2, K)]) (V := [(upd (X97 13) x (nI r96)), K, (upd ((stR X97 13 x (nI r96)) 15) x (nI at348)), (upd (X97 13) x (nI r96)), (upd ((stR X97 13 x (nI r96)) 15) x (nI at348)), K]) rfl rfl) hP
          have hD : va_D A (mW G h0 a (upd (upd (upd (upd (upd (upd (upd F 15 (nI fa91)) 16 pl92) 27 (nI nd93)) 31 (nI wr95)) 64 (nI at348)) 65 (nI (ne + 1))) 66 (nI lk94)) (updA (stR (stR X97 13 x (nI r96)) 15 x (nI at348)) 2 K)) := mW_D hD
          have hkp358 : Kp B (stR (stR X97 13 x (nI r96)) 15 x (nI at348)) wr95 T := (Kp.row hkp344 (by omega))
          refine lv_aload_n hx hb dX12_arguments_98 rfl (lv_at hl 3 rfl) ?_
          refine lv_bipush (v := 41) hx hb dX12_arguments_99 (by decide) ?_
          have hP : va_P G.1 pCl (mW G h0 a (upd (upd (upd (upd (upd (upd (upd (upd (upd F 15 (nI fa91)) 16 pl92) 27 (nI nd93)) 31 (nI wr95)) 64 (nI at348)) 65 (nI (ne + 1))) 66 (nI lk94)) 15 (nI fa91)) 64 (nI at348)) (updA (updA (stR (stR X97 13 x (nI r96)) 15 x (nI at348)) 2 K) 2 K)) _ := mW_to (F := F) (l1 := [(15, (nI fa91)), (16, pl92), (27, (nI nd93)), (31, (nI wr95)), (64, (nI at348)), (65, (nI (ne + 1))), (66, (nI lk94))]) (l2 := [(15, (nI fa91)), (16, pl92), (27, (nI nd93)), (31, (nI wr95)), (64, (nI at348)), (65, (nI (ne + 1))), (66, (nI lk94)), (15, (nI fa91)), (64, (nI at348))]) (V := [(nI fa91), pl92, (nI nd93), (nI wr95), (nI at348), (nI (ne + 1)), (nI lk94), (nI fa91), pl92, (nI nd93), (nI wr95), (nI at348), (nI (ne + 1)), (nI lk94), (nI fa91), (nI at348)]) rfl rfl (show (updA (stR (stR X97 13 x (nI r96)) 15 x (nI at348)) 2 K) = (updA (updA (stR (stR X97 13 x (nI r96)) 15 x (nI at348)) 2 K) 2 K) from updsA_eq2 (F := X97) (l1 := [(13, (upd (X97 13) x (nI r96))), (15, (upd ((stR X97 13 x (nI r96)) 15) x (nI at348))), (2, K)]) (l2 := [(13, (upd (X97 13) x (nI r96))), (15, (upd ((stR X97 13 x (nI r96)) 15) x (nI at348))), (2, K), (2, K)]) (V := [(upd (X97 13) x (nI r96)), (upd ((stR X97 13 x (nI r96)) 15) x (nI at348)), K, (upd (X97 13) x (nI r96)), (upd ((stR X97 13 x (nI r96)) 15) x (nI at348)), K, K]) rfl rfl) hP
          have hD : va_D A (mW G h0 a (upd (upd (upd (upd (upd (upd (upd (upd (upd F 15 (nI fa91)) 16 pl92) 27 (nI nd93)) 31 (nI wr95)) 64 (nI at348)) 65 (nI (ne + 1))) 66 (nI lk94)) 15 (nI fa91)) 64 (nI at348)) (updA (updA (stR (stR X97 13 x (nI r96)) 15 x (nI at348)) 2 K) 2 K)) := mW_D hD
          refine pc_V0 (G := G) (As := [.int 41]) (rest := []) hx hb hml hown hq hE hX pX0_al hP hD hS hA hl.1 (R_take l G h0 a (upd (upd (upd (upd (upd (upd (upd F 15 (nI fa91)) 16 pl92) 27 (nI nd93)) 31 (nI wr95)) 64 (nI at348)) 65 (nI (ne + 1))) 66 (nI lk94)) (updA (stR (stR X97 13 x (nI r96)) 15 x (nI at348)) 2 K) at348 T fa91 K 41 (by omega) (by omega) hK (by omega) (by decide) (by decide)) (gV pw_1614 pw_1615 pw_1616 pw_1523 pw_1601) hV_X12_take 0 9 rfl rfl rfl rfl (Nat.le_of_ble_eq_true rfl) dX12_arguments_101 ⟨Nat.le_of_ble_eq_true rfl, Nat.le_of_ble_eq_true rfl⟩ ⟨(by show 4 + 1 ≤ (20 * n + 8); omega), (by show 8 + (2 + 11) + 103 ≤ (1000 * n + 40 * 8); omega)⟩ (fun v361 u359 H locs hw360 hP hD hS => ?_)
          obtain ⟨at362, fa363, pl364⟩ := u359
          obtain ⟨hw360, h365, h366, h367, h368, h369, h370, h371, h372⟩ := hw360
          have h365 : at348 ≤ at362 := h365
          have h366 : at362 ≤ T := h366
          have h367 : fa91 ≤ fa363 := h367
          have h368 : fa363 ≤ 100 := h368
          have h369 : If (0 < fa91) (at362 = at348 ∧ fa363 = fa91) := h369
          have h370 : at362 ≤ at348 + 1 := h370
          have h371 : at348 + 1 ≤ at362 + fa363 := h371
          have h372 : If (fa363 = 0) (K at348 = 41) := h372
          obtain rfl : v361 = none := hw360
          have hP : va_P G.1 pCl (mW G h0 a (upd (upd (upd (upd (upd (upd (upd F 15 (nI fa363)) 16 pl364) 27 (nI nd93)) 31 (nI wr95)) 64 (nI at362)) 65 (nI (ne + 1))) 66 (nI lk94)) (updA (stR (stR X97 13 x (nI r96)) 15 x (nI at348)) 2 K)) _ := mW_to (F := F) (l1 := [(15, (nI fa91)), (16, pl92), (27, (nI nd93)), (31, (nI wr95)), (64, (nI at348)), (65, (nI (ne + 1))), (66, (nI lk94)), (15, (nI fa363)), (16, pl364), (64, (nI at362))]) (l2 := [(15, (nI fa363)), (16, pl364), (27, (nI nd93)), (31, (nI wr95)), (64, (nI at362)), (65, (nI (ne + 1))), (66, (nI lk94))]) (V := [(nI fa363), pl364, (nI nd93), (nI wr95), (nI at362), (nI (ne + 1)), (nI lk94), (nI fa363), pl364, (nI at362), (nI fa363), pl364, (nI nd93), (nI wr95), (nI at362), (nI (ne + 1)), (nI lk94)]) rfl rfl (show (updA (updA (stR (stR X97 13 x (nI r96)) 15 x (nI at348)) 2 K) 2 K) = (updA (stR (stR X97 13 x (nI r96)) 15 x (nI at348)) 2 K) from updsA_eq2 (F := X97) (l1 := [(13, (upd (X97 13) x (nI r96))), (15, (upd ((stR X97 13 x (nI r96)) 15) x (nI at348))), (2, K), (2, K)]) (l2 := [(13, (upd (X97 13) x (nI r96))), (15, (upd ((stR X97 13 x (nI r96)) 15) x (nI at348))), (2, K)]) (V := [(upd (X97 13) x (nI r96)), (upd ((stR X97 13 x (nI r96)) 15) x (nI at348)), K, K, (upd (X97 13) x (nI r96)), (upd ((stR X97 13 x (nI r96)) 15) x (nI at348)), K]) rfl rfl) hP
          have hD : va_D A (mW G h0 a (upd (upd (upd (upd (upd (upd (upd F 15 (nI fa363)) 16 pl364) 27 (nI nd93)) 31 (nI wr95)) 64 (nI at362)) 65 (nI (ne + 1))) 66 (nI lk94)) (updA (stR (stR X97 13 x (nI r96)) 15 x (nI at348)) 2 K)) := mW_D hD
          refine W.widen (k := 0) (n := 0) (Nat.le_of_ble_eq_true rfl) (Nat.le_of_ble_eq_true rfl) ?_
          refine W.eq (g2 := F0 m 104 ls []) rfl ?_
          obtain ⟨n374, n373⟩ := h369 e113
          replace n374 := n374.symm
          subst n374
          replace n373 := n373.symm
          subst n373
          refine lv_aload_n hx hb dX12_arguments_104 rfl (lv_at hl 3 rfl) ?_
          refine lv_dup hx hb dX12_arguments_105 rfl ?_
          refine r_get (v := .int (nI (ne + 1))) hx hb hown hq hE hP 65 366 tFX12_65 (by decide) pw_1612 rfl dX12_arguments_106 ?_
          refine lv_iconst (v := 1) hx hb dX12_arguments_109 (by decide) ?_
          refine lv_isub hx hb dX12_arguments_110 ?_
          refine lv_topi (fun x375 e376 => ?_)
          obtain rfl : x375 = nI ((ne + 1) - 1) := e376.trans (nI_subN (a := 1) (b := (ne + 1)) (by omega))
          refine r_put (v := (nI ((ne + 1) - 1))) (ty := .int) hx hb hown hq hE hP hD hS 65 366 tFX12_65 (by decide) pw_1612 (by decide) rfl rfl (ms_65 a _ _) dX12_arguments_111 (fun H locs hP hD hS => ?_)
          have hz377 : at0 ≤ at348 := (by omega)
          have hz378 : at348 ≤ T := (by omega)
          have hz379 : fa91 ≤ 100 := (by omega)
          have hz380 : nd ≤ nd93 := (by omega)
          have hz381 : nd93 + 2 * at0 ≤ nd + 2 * at348 + 100000 * fa91 := (by omega)
          have hz382 : nd93 + 2 * at0 ≤ nd + 2 * at348 + 40 * (21 - ne) := (by omega)
          have hz383 : wr ≤ wr95 := (by omega)
          have hz384 : wr95 + at0 ≤ wr + at348 := (by omega)
          have hz385 : lk ≤ lk94 := (by omega)
          have hz386 : lk94 ≤ 60 + 100 * fa91 := (by omega)
          have hz387 : at0 + 1 ≤ at348 + fa91 := (by omega)
          have hz388 : Kp B (stR (stR X97 13 x (nI r96)) 15 x (nI at348)) wr95 T := hkp358
          have hz389 : If (fa91 = 0) (Low B (stR (stR X97 13 x (nI r96)) 15 x (nI at348)) lo wr ∧ Frs K T wr95 (stR (stR X97 13 x (nI r96)) 15 x (nI at348)) lo nd93 20000 [(x, (zb + lk94 - lk))] ∧ (stR (stR X97 13 x (nI r96)) 15 x (nI at348)) 9 x = nI k) := (fun e => absurd e (by omega))
          have hP : va_P G.1 pCl (mW G h0 a (upd (upd (upd (upd (upd (upd (upd F 15 (nI fa91)) 16 pl364) 27 (nI nd93)) 31 (nI wr95)) 64 (nI at348)) 65 (nI ne)) 66 (nI lk94)) (updA (stR (stR X97 13 x (nI r96)) 15 x (nI at348)) 2 K)) _ := hP
          have hD : va_D A (mW G h0 a (upd (upd (upd (upd (upd (upd (upd F 15 (nI fa91)) 16 pl364) 27 (nI nd93)) 31 (nI wr95)) 64 (nI at348)) 65 (nI ne)) 66 (nI lk94)) (updA (stR (stR X97 13 x (nI r96)) 15 x (nI at348)) 2 K)) := mW_D hD
          exact W.vret hx hb hr (fun t9 ht9 hW9 => ⟨⟨_, (at348, fa91, pl364, nd93, lk94, wr95, (stR (stR X97 13 x (nI r96)) 15 x (nI at348))), rfl, ⟨rfl, hz377, hz378, hz379, hz380, hz381, hz382, hz383, hz384, hz385, hz386, hz387, hz388, hz389⟩, by rw [ht9]; exact hP, hD⟩, hS.F ht9⟩) hS.2.2 dX12_arguments_114
    · have e28 := e28
      refine lv_iconst (v := (-1)) hx hb dX12_arguments_10 (by decide) ?_
      refine lv_istore_n (lv' := [(2, .int (-1)), (0, .ref h0), (1, .int (nI x))]) hx hb dX12_arguments_11 rfl hl (by decide) rfl (fun ls hl => ?_)
      refine lv_aload_n hx hb dX12_arguments_12 rfl (lv_at hl 1 rfl) ?_
      refine r_get (v := .int (nI fa18)) hx hb hown hq hE hP 15 350 tFX12_15 (by decide) pw_1594 rfl dX12_arguments_13 ?_
      refine lv_if_ne (tgt := 32) hx hb dX12_arguments_16 (by decide) (fun c390 => ?_) (fun c390 => (by have n391 : fa18 = 0 := (nI_eq (a := fa18) (b := 0) (by omega) (by omega)).mp c390; omega))
      refine lv_iconst (v := 0) hx hb dX12_arguments_32 (by decide) ?_
      refine lv_istore_n (lv' := [(3, .int 0), (2, .int (-1)), (0, .ref h0), (1, .int (nI x))]) hx hb dX12_arguments_33 rfl hl (by decide) rfl (fun ls hl => ?_)
      refine lv_iload_n hx hb dX12_arguments_34 rfl (lv_at hl 0 rfl) ?_
      refine lv_if_eq (tgt := 88) hx hb dX12_arguments_35 (by decide) (fun c392 => ?_) (fun c392 => absurd c392 (by decide))
      refine lv_aload_n hx hb dX12_arguments_88 rfl (lv_at hl 2 rfl) ?_
      refine r_get (v := .ref (a 15)) hx hb hown hq hE hP 23 56 tFX12_23 (by decide) pw_1445 rfl dX12_arguments_89 ?_
      refine lv_iload_n hx hb dX12_arguments_92 rfl (lv_at hl 3 rfl) ?_
      refine lv_aload_n hx hb dX12_arguments_93 rfl (lv_at hl 2 rfl) ?_
      refine r_get (v := .int (nI at17)) hx hb hown hq hE hP 64 343 tFX12_64 (by decide) pw_1592 rfl dX12_arguments_94 ?_
      refine r_sti (f := (B 15)) (j := x) hx hb hE hP hD hS 15 (ma_15 G a _) rfl (mas_15 G a _) (by omega) (by decide) dX12_arguments_97 (fun H locs hP hD hS => ?_)
      have hP : va_P G.1 pCl (mW G h0 a (upd (upd (upd (upd (upd (upd (upd F 15 (nI fa18)) 16 pl19) 27 (nI nd)) 31 (nI wr)) 64 (nI at17)) 65 (nI (ne + 1))) 66 (nI lk)) (updA (stR B 15 x (nI at17)) 2 K)) _ := mW_to (F := F) (l1 := [(15, (nI fa18)), (16, pl19), (27, (nI nd)), (31, (nI wr)), (64, (nI at17)), (65, (nI (ne + 1))), (66, (nI lk))]) (l2 := [(15, (nI fa18)), (16, pl19), (27, (nI nd)), (31, (nI wr)), (64, (nI at17)), (65, (nI (ne + 1))), (66, (nI lk))]) (V := [(nI fa18), pl19, (nI nd), (nI wr), (nI at17), (nI (ne + 1)), (nI lk), (nI fa18), pl19, (nI nd), (nI wr), (nI at17), (nI (ne + 1)), (nI lk)]) rfl rfl (show (updA (updA B 2 K) 15 (upd (B 15) x (nI at17))) = (updA (stR B 15 x (nI at17)) 2 K) from updsA_eq2 (F := B) (l1 := [(2, K), (15, (upd (B 15) x (nI at17)))]) (l2 := [(15, (upd (B 15) x (nI at17))), (2, K)]) (V := [K, (upd (B 15) x (nI at17)), (upd (B 15) x (nI at17)), K]) rfl rfl) hP
      have hD : va_D A (mW G h0 a (upd (upd (upd (upd (upd (upd (upd F 15 (nI fa18)) 16 pl19) 27 (nI nd)) 31 (nI wr)) 64 (nI at17)) 65 (nI (ne + 1))) 66 (nI lk)) (updA (stR B 15 x (nI at17)) 2 K)) := mW_D hD
      have hkp393 : Kp B (stR B 15 x (nI at17)) wr T := (Kp.row hkp1 (by omega))
      refine lv_aload_n hx hb dX12_arguments_98 rfl (lv_at hl 2 rfl) ?_
      refine lv_bipush (v := 41) hx hb dX12_arguments_99 (by decide) ?_
      have hP : va_P G.1 pCl (mW G h0 a (upd (upd (upd (upd (upd (upd (upd (upd (upd F 15 (nI fa18)) 16 pl19) 27 (nI nd)) 31 (nI wr)) 64 (nI at17)) 65 (nI (ne + 1))) 66 (nI lk)) 15 (nI fa18)) 64 (nI at17)) (updA (updA (stR B 15 x (nI at17)) 2 K) 2 K)) _ := mW_to (F := F) (l1 := [(15, (nI fa18)), (16, pl19), (27, (nI nd)), (31, (nI wr)), (64, (nI at17)), (65, (nI (ne + 1))), (66, (nI lk))]) (l2 := [(15, (nI fa18)), (16, pl19), (27, (nI nd)), (31, (nI wr)), (64, (nI at17)), (65, (nI (ne + 1))), (66, (nI lk)), (15, (nI fa18)), (64, (nI at17))]) (V := [(nI fa18), pl19, (nI nd), (nI wr), (nI at17), (nI (ne + 1)), (nI lk), (nI fa18), pl19, (nI nd), (nI wr), (nI at17), (nI (ne + 1)), (nI lk), (nI fa18), (nI at17)]) rfl rfl (show (updA (stR B 15 x (nI at17)) 2 K) = (updA (updA (stR B 15 x (nI at17)) 2 K) 2 K) from updsA_eq2 (F := B) (l1 := [(15, (upd (B 15) x (nI at17))), (2, K)]) (l2 := [(15, (upd (B 15) x (nI at17))), (2, K), (2, K)]) (V := [(upd (B 15) x (nI at17)), K, (upd (B 15) x (nI at17)), K, K]) rfl rfl) hP
      have hD : va_D A (mW G h0 a (upd (upd (upd (upd (upd (upd (upd (upd (upd F 15 (nI fa18)) 16 pl19) 27 (nI nd)) 31 (nI wr)) 64 (nI at17)) 65 (nI (ne + 1))) 66 (nI lk)) 15 (nI fa18)) 64 (nI at17)) (updA (updA (stR B 15 x (nI at17)) 2 K) 2 K)) := mW_D hD
      refine pc_V0 (G := G) (As := [.int 41]) (rest := []) hx hb hml hown hq hE hX pX0_al hP hD hS hA hl.1 (R_take l G h0 a (upd (upd (upd (upd (upd (upd (upd F 15 (nI fa18)) 16 pl19) 27 (nI nd)) 31 (nI wr)) 64 (nI at17)) 65 (nI (ne + 1))) 66 (nI lk)) (updA (stR B 15 x (nI at17)) 2 K) at17 T fa18 K 41 (by omega) (by omega) hK (by omega) (by decide) (by decide)) (gV pw_1614 pw_1615 pw_1616 pw_1523 pw_1601) hV_X12_take 0 9 rfl rfl rfl rfl (Nat.le_of_ble_eq_true rfl) dX12_arguments_101 ⟨Nat.le_of_ble_eq_true rfl, Nat.le_of_ble_eq_true rfl⟩ ⟨(by show 4 + 1 ≤ (20 * n + 8); omega), (by show 8 + (2 + 11) + 103 ≤ (1000 * n + 40 * 8); omega)⟩ (fun v396 u394 H locs hw395 hP hD hS => ?_)
      obtain ⟨at397, fa398, pl399⟩ := u394
      obtain ⟨hw395, h400, h401, h402, h403, h404, h405, h406, h407⟩ := hw395
      have h400 : at17 ≤ at397 := h400
      have h401 : at397 ≤ T := h401
      have h402 : fa18 ≤ fa398 := h402
      have h403 : fa398 ≤ 100 := h403
      have h404 : If (0 < fa18) (at397 = at17 ∧ fa398 = fa18) := h404
      have h405 : at397 ≤ at17 + 1 := h405
      have h406 : at17 + 1 ≤ at397 + fa398 := h406
      have h407 : If (fa398 = 0) (K at17 = 41) := h407
      obtain rfl : v396 = none := hw395
      have hP : va_P G.1 pCl (mW G h0 a (upd (upd (upd (upd (upd (upd (upd F 15 (nI fa398)) 16 pl399) 27 (nI nd)) 31 (nI wr)) 64 (nI at397)) 65 (nI (ne + 1))) 66 (nI lk)) (updA (stR B 15 x (nI at17)) 2 K)) _ := mW_to (F := F) (l1 := [(15, (nI fa18)), (16, pl19), (27, (nI nd)), (31, (nI wr)), (64, (nI at17)), (65, (nI (ne + 1))), (66, (nI lk)), (15, (nI fa398)), (16, pl399), (64, (nI at397))]) (l2 := [(15, (nI fa398)), (16, pl399), (27, (nI nd)), (31, (nI wr)), (64, (nI at397)), (65, (nI (ne + 1))), (66, (nI lk))]) (V := [(nI fa398), pl399, (nI nd), (nI wr), (nI at397), (nI (ne + 1)), (nI lk), (nI fa398), pl399, (nI at397), (nI fa398), pl399, (nI nd), (nI wr), (nI at397), (nI (ne + 1)), (nI lk)]) rfl rfl (show (updA (updA (stR B 15 x (nI at17)) 2 K) 2 K) = (updA (stR B 15 x (nI at17)) 2 K) from updsA_eq2 (F := B) (l1 := [(15, (upd (B 15) x (nI at17))), (2, K), (2, K)]) (l2 := [(15, (upd (B 15) x (nI at17))), (2, K)]) (V := [(upd (B 15) x (nI at17)), K, K, (upd (B 15) x (nI at17)), K]) rfl rfl) hP
      have hD : va_D A (mW G h0 a (upd (upd (upd (upd (upd (upd (upd F 15 (nI fa398)) 16 pl399) 27 (nI nd)) 31 (nI wr)) 64 (nI at397)) 65 (nI (ne + 1))) 66 (nI lk)) (updA (stR B 15 x (nI at17)) 2 K)) := mW_D hD
      refine W.widen (k := 0) (n := 0) (Nat.le_of_ble_eq_true rfl) (Nat.le_of_ble_eq_true rfl) ?_
      refine W.eq (g2 := F0 m 104 ls []) rfl ?_
      obtain ⟨n409, n408⟩ := h404 e28
      replace n409 := n409.symm
      subst n409
      replace n408 := n408.symm
      subst n408
      refine lv_aload_n hx hb dX12_arguments_104 rfl (lv_at hl 2 rfl) ?_
      refine lv_dup hx hb dX12_arguments_105 rfl ?_
      refine r_get (v := .int (nI (ne + 1))) hx hb hown hq hE hP 65 366 tFX12_65 (by decide) pw_1612 rfl dX12_arguments_106 ?_
      refine lv_iconst (v := 1) hx hb dX12_arguments_109 (by decide) ?_
      refine lv_isub hx hb dX12_arguments_110 ?_
      refine lv_topi (fun x410 e411 => ?_)
      obtain rfl : x410 = nI ((ne + 1) - 1) := e411.trans (nI_subN (a := 1) (b := (ne + 1)) (by omega))
      refine r_put (v := (nI ((ne + 1) - 1))) (ty := .int) hx hb hown hq hE hP hD hS 65 366 tFX12_65 (by decide) pw_1612 (by decide) rfl rfl (ms_65 a _ _) dX12_arguments_111 (fun H locs hP hD hS => ?_)
      have hz412 : at0 ≤ at17 := (by omega)
      have hz413 : at17 ≤ T := (by omega)
      have hz414 : fa18 ≤ 100 := (by omega)
      have hz415 : nd ≤ nd := (by omega)
      have hz416 : nd + 2 * at0 ≤ nd + 2 * at17 + 100000 * fa18 := (by omega)
      have hz417 : nd + 2 * at0 ≤ nd + 2 * at17 + 40 * (21 - ne) := (by omega)
      have hz418 : wr ≤ wr := (by omega)
      have hz419 : wr + at0 ≤ wr + at17 := (by omega)
      have hz420 : lk ≤ lk := (by omega)
      have hz421 : lk ≤ 60 + 100 * fa18 := (by omega)
      have hz422 : at0 + 1 ≤ at17 + fa18 := (by omega)
      have hz423 : Kp B (stR B 15 x (nI at17)) wr T := hkp393
      have hz424 : If (fa18 = 0) (Low B (stR B 15 x (nI at17)) lo wr ∧ Frs K T wr (stR B 15 x (nI at17)) lo nd 20000 [(x, (zb + lk - lk))] ∧ (stR B 15 x (nI at17)) 9 x = nI k) := (fun e => absurd e (by omega))
      have hP : va_P G.1 pCl (mW G h0 a (upd (upd (upd (upd (upd (upd (upd F 15 (nI fa18)) 16 pl399) 27 (nI nd)) 31 (nI wr)) 64 (nI at17)) 65 (nI ne)) 66 (nI lk)) (updA (stR B 15 x (nI at17)) 2 K)) _ := hP
      have hD : va_D A (mW G h0 a (upd (upd (upd (upd (upd (upd (upd F 15 (nI fa18)) 16 pl399) 27 (nI nd)) 31 (nI wr)) 64 (nI at17)) 65 (nI ne)) 66 (nI lk)) (updA (stR B 15 x (nI at17)) 2 K)) := mW_D hD
      exact W.vret hx hb hr (fun t9 ht9 hW9 => ⟨⟨_, (at17, fa18, pl399, nd, lk, wr, (stR B 15 x (nI at17))), rfl, ⟨rfl, hz412, hz413, hz414, hz415, hz416, hz417, hz418, hz419, hz420, hz421, hz422, hz423, hz424⟩, by rw [ht9]; exact hP, hD⟩, hS.F ht9⟩) hS.2.2 dX12_arguments_114
  · have e12 := e12
    refine lv_aload_n hx hb dX12_arguments_4 rfl (lv_at hl 0 rfl) ?_
    refine lv_bipush (v := 40) hx hb dX12_arguments_5 (by decide) ?_
    have hP : va_P G.1 pCl (mW G h0 a (upd (upd (upd (upd (upd (upd (upd (upd (upd F 15 (nI fa6)) 16 pl7) 27 (nI nd)) 31 (nI wr)) 64 (nI at0)) 65 (nI (ne + 1))) 66 (nI lk)) 15 (nI fa6)) 64 (nI at0)) (updA (updA B 2 K) 2 K)) _ := mW_to (F := F) (l1 := [(15, (nI fa6)), (16, pl7), (27, (nI nd)), (31, (nI wr)), (64, (nI at0)), (65, (nI (ne + 1))), (66, (nI lk))]) (l2 := [(15, (nI fa6)), (16, pl7), (27, (nI nd)), (31, (nI wr)), (64, (nI at0)), (65, (nI (ne + 1))), (66, (nI lk)), (15, (nI fa6)), (64, (nI at0))]) (V := [(nI fa6), pl7, (nI nd), (nI wr), (nI at0), (nI (ne + 1)), (nI lk), (nI fa6), pl7, (nI nd), (nI wr), (nI at0), (nI (ne + 1)), (nI lk), (nI fa6), (nI at0)]) rfl rfl (show (updA B 2 K) = (updA (updA B 2 K) 2 K) from updsA_eq2 (F := B) (l1 := [(2, K)]) (l2 := [(2, K), (2, K)]) (V := [K, K, K]) rfl rfl) hP
    have hD : va_D A (mW G h0 a (upd (upd (upd (upd (upd (upd (upd (upd (upd F 15 (nI fa6)) 16 pl7) 27 (nI nd)) 31 (nI wr)) 64 (nI at0)) 65 (nI (ne + 1))) 66 (nI lk)) 15 (nI fa6)) 64 (nI at0)) (updA (updA B 2 K) 2 K)) := mW_D hD
    refine pc_V0 (G := G) (As := [.int 40]) (rest := []) hx hb hml hown hq hE hX pX0_al hP hD hS hA hl.1 (R_take l G h0 a (upd (upd (upd (upd (upd (upd (upd F 15 (nI fa6)) 16 pl7) 27 (nI nd)) 31 (nI wr)) 64 (nI at0)) 65 (nI (ne + 1))) 66 (nI lk)) (updA B 2 K) at0 T fa6 K 40 (by omega) (by omega) hK (by omega) (by decide) (by decide)) (gV pw_1614 pw_1615 pw_1616 pw_1523 pw_1601) hV_X12_take 0 9 rfl rfl rfl rfl (Nat.le_of_ble_eq_true rfl) dX12_arguments_7 ⟨Nat.le_of_ble_eq_true rfl, Nat.le_of_ble_eq_true rfl⟩ ⟨(by show 4 + 1 ≤ (20 * n + 8); omega), (by show 8 + (2 + 11) + 103 ≤ (1000 * n + 40 * 8); omega)⟩ (fun v427 u425 H locs hw426 hP hD hS => ?_)
    obtain ⟨at428, fa429, pl430⟩ := u425
    obtain ⟨hw426, h431, h432, h433, h434, h435, h436, h437, h438⟩ := hw426
    have h431 : at0 ≤ at428 := h431
    have h432 : at428 ≤ T := h432
    have h433 : fa6 ≤ fa429 := h433
    have h434 : fa429 ≤ 100 := h434
    have h435 : If (0 < fa6) (at428 = at0 ∧ fa429 = fa6) := h435
    have h436 : at428 ≤ at0 + 1 := h436
    have h437 : at0 + 1 ≤ at428 + fa429 := h437
    have h438 : If (fa429 = 0) (K at0 = 40) := h438
    obtain rfl : v427 = none := hw426
    have hP : va_P G.1 pCl (mW G h0 a (upd (upd (upd (upd (upd (upd (upd F 15 (nI fa429)) 16 pl430) 27 (nI nd)) 31 (nI wr)) 64 (nI at428)) 65 (nI (ne + 1))) 66 (nI lk)) (updA B 2 K)) _ := mW_to (F := F) (l1 := [(15, (nI fa6)), (16, pl7), (27, (nI nd)), (31, (nI wr)), (64, (nI at0)), (65, (nI (ne + 1))), (66, (nI lk)), (15, (nI fa429)), (16, pl430), (64, (nI at428))]) (l2 := [(15, (nI fa429)), (16, pl430), (27, (nI nd)), (31, (nI wr)), (64, (nI at428)), (65, (nI (ne + 1))), (66, (nI lk))]) (V := [(nI fa429), pl430, (nI nd), (nI wr), (nI at428), (nI (ne + 1)), (nI lk), (nI fa429), pl430, (nI at428), (nI fa429), pl430, (nI nd), (nI wr), (nI at428), (nI (ne + 1)), (nI lk)]) rfl rfl (show (updA (updA B 2 K) 2 K) = (updA B 2 K) from updsA_eq2 (F := B) (l1 := [(2, K), (2, K)]) (l2 := [(2, K)]) (V := [K, K, K]) rfl rfl) hP
    have hD : va_D A (mW G h0 a (upd (upd (upd (upd (upd (upd (upd F 15 (nI fa429)) 16 pl430) 27 (nI nd)) 31 (nI wr)) 64 (nI at428)) 65 (nI (ne + 1))) 66 (nI lk)) (updA B 2 K)) := mW_D hD
    refine W.widen (k := 0) (n := 0) (Nat.le_of_ble_eq_true rfl) (Nat.le_of_ble_eq_true rfl) ?_
    refine W.eq (g2 := F0 m 10 ls []) rfl ?_
    obtain ⟨n440, n439⟩ := h435 e12
    replace n440 := n440.symm
    subst n440
    replace n439 := n439.symm
    subst n439
    refine lv_iconst (v := (-1)) hx hb dX12_arguments_10 (by decide) ?_
    refine lv_istore_n (lv' := [(2, .int (-1)), (0, .ref h0), (1, .int (nI x))]) hx hb dX12_arguments_11 rfl hl (by decide) rfl (fun ls hl => ?_)
    refine lv_aload_n hx hb dX12_arguments_12 rfl (lv_at hl 1 rfl) ?_
    refine r_get (v := .int (nI fa6)) hx hb hown hq hE hP 15 350 tFX12_15 (by decide) pw_1594 rfl dX12_arguments_13 ?_
    refine lv_if_ne (tgt := 32) hx hb dX12_arguments_16 (by decide) (fun c441 => ?_) (fun c441 => (by have n442 : fa6 = 0 := (nI_eq (a := fa6) (b := 0) (by omega) (by omega)).mp c441; omega))
    refine lv_iconst (v := 0) hx hb dX12_arguments_32 (by decide) ?_
    refine lv_istore_n (lv' := [(3, .int 0), (2, .int (-1)), (0, .ref h0), (1, .int (nI x))]) hx hb dX12_arguments_33 rfl hl (by decide) rfl (fun ls hl => ?_)
    refine lv_iload_n hx hb dX12_arguments_34 rfl (lv_at hl 0 rfl) ?_
    refine lv_if_eq (tgt := 88) hx hb dX12_arguments_35 (by decide) (fun c443 => ?_) (fun c443 => absurd c443 (by decide))
    refine lv_aload_n hx hb dX12_arguments_88 rfl (lv_at hl 2 rfl) ?_
    refine r_get (v := .ref (a 15)) hx hb hown hq hE hP 23 56 tFX12_23 (by decide) pw_1445 rfl dX12_arguments_89 ?_
    refine lv_iload_n hx hb dX12_arguments_92 rfl (lv_at hl 3 rfl) ?_
    refine lv_aload_n hx hb dX12_arguments_93 rfl (lv_at hl 2 rfl) ?_
    refine r_get (v := .int (nI at0)) hx hb hown hq hE hP 64 343 tFX12_64 (by decide) pw_1592 rfl dX12_arguments_94 ?_
    refine r_sti (f := (B 15)) (j := x) hx hb hE hP hD hS 15 (ma_15 G a _) rfl (mas_15 G a _) (by omega) (by decide) dX12_arguments_97 (fun H locs hP hD hS => ?_)
    have hP : va_P G.1 pCl (mW G h0 a (upd (upd (upd (upd (upd (upd (upd F 15 (nI fa6)) 16 pl430) 27 (nI nd)) 31 (nI wr)) 64 (nI at0)) 65 (nI (ne + 1))) 66 (nI lk)) (updA (stR B 15 x (nI at0)) 2 K)) _ := hP
    have hD : va_D A (mW G h0 a (upd (upd (upd (upd (upd (upd (upd F 15 (nI fa6)) 16 pl430) 27 (nI nd)) 31 (nI wr)) 64 (nI at0)) 65 (nI (ne + 1))) 66 (nI lk)) (updA (stR B 15 x (nI at0)) 2 K)) := mW_D hD
    have hkp444 : Kp B (stR B 15 x (nI at0)) wr T := (Kp.row hkp1 (by omega))
    refine lv_aload_n hx hb dX12_arguments_98 rfl (lv_at hl 2 rfl) ?_
    refine lv_bipush (v := 41) hx hb dX12_arguments_99 (by decide) ?_
    have hP : va_P G.1 pCl (mW G h0 a (upd (upd (upd (upd (upd (upd (upd (upd (upd F 15 (nI fa6)) 16 pl430) 27 (nI nd)) 31 (nI wr)) 64 (nI at0)) 65 (nI (ne + 1))) 66 (nI lk)) 15 (nI fa6)) 64 (nI at0)) (updA (updA (stR B 15 x (nI at0)) 2 K) 2 K)) _ := mW_to (F := F) (l1 := [(15, (nI fa6)), (16, pl430), (27, (nI nd)), (31, (nI wr)), (64, (nI at0)), (65, (nI (ne + 1))), (66, (nI lk))]) (l2 := [(15, (nI fa6)), (16, pl430), (27, (nI nd)), (31, (nI wr)), (64, (nI at0)), (65, (nI (ne + 1))), (66, (nI lk)), (15, (nI fa6)), (64, (nI at0))]) (V := [(nI fa6), pl430, (nI nd), (nI wr), (nI at0), (nI (ne + 1)), (nI lk), (nI fa6), pl430, (nI nd), (nI wr), (nI at0), (nI (ne + 1)), (nI lk), (nI fa6), (nI at0)]) rfl rfl (show (updA (stR B 15 x (nI at0)) 2 K) = (updA (updA (stR B 15 x (nI at0)) 2 K) 2 K) from updsA_eq2 (F := B) (l1 := [(15, (upd (B 15) x (nI at0))), (2, K)]) (l2 := [(15, (upd (B 15) x (nI at0))), (2, K), (2, K)]) (V := [(upd (B 15) x (nI at0)), K, (upd (B 15) x (nI at0)), K, K]) rfl rfl) hP
    have hD : va_D A (mW G h0 a (upd (upd (upd (upd (upd (upd (upd (upd (upd F 15 (nI fa6)) 16 pl430) 27 (nI nd)) 31 (nI wr)) 64 (nI at0)) 65 (nI (ne + 1))) 66 (nI lk)) 15 (nI fa6)) 64 (nI at0)) (updA (updA (stR B 15 x (nI at0)) 2 K) 2 K)) := mW_D hD
    refine pc_V0 (G := G) (As := [.int 41]) (rest := []) hx hb hml hown hq hE hX pX0_al hP hD hS hA hl.1 (R_take l G h0 a (upd (upd (upd (upd (upd (upd (upd F 15 (nI fa6)) 16 pl430) 27 (nI nd)) 31 (nI wr)) 64 (nI at0)) 65 (nI (ne + 1))) 66 (nI lk)) (updA (stR B 15 x (nI at0)) 2 K) at0 T fa6 K 41 (by omega) (by omega) hK (by omega) (by decide) (by decide)) (gV pw_1614 pw_1615 pw_1616 pw_1523 pw_1601) hV_X12_take 0 9 rfl rfl rfl rfl (Nat.le_of_ble_eq_true rfl) dX12_arguments_101 ⟨Nat.le_of_ble_eq_true rfl, Nat.le_of_ble_eq_true rfl⟩ ⟨(by show 4 + 1 ≤ (20 * n + 8); omega), (by show 8 + (2 + 11) + 103 ≤ (1000 * n + 40 * 8); omega)⟩ (fun v447 u445 H locs hw446 hP hD hS => ?_)
    obtain ⟨at448, fa449, pl450⟩ := u445
    obtain ⟨hw446, h451, h452, h453, h454, h455, h456, h457, h458⟩ := hw446
    have h451 : at0 ≤ at448 := h451
    have h452 : at448 ≤ T := h452
    have h453 : fa6 ≤ fa449 := h453
    have h454 : fa449 ≤ 100 := h454
    have h455 : If (0 < fa6) (at448 = at0 ∧ fa449 = fa6) := h455
    have h456 : at448 ≤ at0 + 1 := h456
    have h457 : at0 + 1 ≤ at448 + fa449 := h457
    have h458 : If (fa449 = 0) (K at0 = 41) := h458
    obtain rfl : v447 = none := hw446
    have hP : va_P G.1 pCl (mW G h0 a (upd (upd (upd (upd (upd (upd (upd F 15 (nI fa449)) 16 pl450) 27 (nI nd)) 31 (nI wr)) 64 (nI at448)) 65 (nI (ne + 1))) 66 (nI lk)) (updA (stR B 15 x (nI at0)) 2 K)) _ := mW_to (F := F) (l1 := [(15, (nI fa6)), (16, pl430), (27, (nI nd)), (31, (nI wr)), (64, (nI at0)), (65, (nI (ne + 1))), (66, (nI lk)), (15, (nI fa449)), (16, pl450), (64, (nI at448))]) (l2 := [(15, (nI fa449)), (16, pl450), (27, (nI nd)), (31, (nI wr)), (64, (nI at448)), (65, (nI (ne + 1))), (66, (nI lk))]) (V := [(nI fa449), pl450, (nI nd), (nI wr), (nI at448), (nI (ne + 1)), (nI lk), (nI fa449), pl450, (nI at448), (nI fa449), pl450, (nI nd), (nI wr), (nI at448), (nI (ne + 1)), (nI lk)]) rfl rfl (show (updA (updA (stR B 15 x (nI at0)) 2 K) 2 K) = (updA (stR B 15 x (nI at0)) 2 K) from updsA_eq2 (F := B) (l1 := [(15, (upd (B 15) x (nI at0))), (2, K), (2, K)]) (l2 := [(15, (upd (B 15) x (nI at0))), (2, K)]) (V := [(upd (B 15) x (nI at0)), K, K, (upd (B 15) x (nI at0)), K]) rfl rfl) hP
    have hD : va_D A (mW G h0 a (upd (upd (upd (upd (upd (upd (upd F 15 (nI fa449)) 16 pl450) 27 (nI nd)) 31 (nI wr)) 64 (nI at448)) 65 (nI (ne + 1))) 66 (nI lk)) (updA (stR B 15 x (nI at0)) 2 K)) := mW_D hD
    refine W.widen (k := 0) (n := 0) (Nat.le_of_ble_eq_true rfl) (Nat.le_of_ble_eq_true rfl) ?_
    refine W.eq (g2 := F0 m 104 ls []) rfl ?_
    obtain ⟨n460, n459⟩ := h455 e12
    replace n460 := n460.symm
    subst n460
    replace n459 := n459.symm
    subst n459
    refine lv_aload_n hx hb dX12_arguments_104 rfl (lv_at hl 2 rfl) ?_
    refine lv_dup hx hb dX12_arguments_105 rfl ?_
    refine r_get (v := .int (nI (ne + 1))) hx hb hown hq hE hP 65 366 tFX12_65 (by decide) pw_1612 rfl dX12_arguments_106 ?_
    refine lv_iconst (v := 1) hx hb dX12_arguments_109 (by decide) ?_
    refine lv_isub hx hb dX12_arguments_110 ?_
    refine lv_topi (fun x461 e462 => ?_)
    obtain rfl : x461 = nI ((ne + 1) - 1) := e462.trans (nI_subN (a := 1) (b := (ne + 1)) (by omega))
    refine r_put (v := (nI ((ne + 1) - 1))) (ty := .int) hx hb hown hq hE hP hD hS 65 366 tFX12_65 (by decide) pw_1612 (by decide) rfl rfl (ms_65 a _ _) dX12_arguments_111 (fun H locs hP hD hS => ?_)
    have hz463 : at0 ≤ at0 := (by omega)
    have hz464 : at0 ≤ T := (by omega)
    have hz465 : fa6 ≤ 100 := (by omega)
    have hz466 : nd ≤ nd := (by omega)
    have hz467 : nd + 2 * at0 ≤ nd + 2 * at0 + 100000 * fa6 := (by omega)
    have hz468 : nd + 2 * at0 ≤ nd + 2 * at0 + 40 * (21 - ne) := (by omega)
    have hz469 : wr ≤ wr := (by omega)
    have hz470 : wr + at0 ≤ wr + at0 := (by omega)
    have hz471 : lk ≤ lk := (by omega)
    have hz472 : lk ≤ 60 + 100 * fa6 := (by omega)
    have hz473 : at0 + 1 ≤ at0 + fa6 := (by omega)
    have hz474 : Kp B (stR B 15 x (nI at0)) wr T := hkp444
    have hz475 : If (fa6 = 0) (Low B (stR B 15 x (nI at0)) lo wr ∧ Frs K T wr (stR B 15 x (nI at0)) lo nd 20000 [(x, (zb + lk - lk))] ∧ (stR B 15 x (nI at0)) 9 x = nI k) := (fun e => absurd e (by omega))
    have hP : va_P G.1 pCl (mW G h0 a (upd (upd (upd (upd (upd (upd (upd F 15 (nI fa6)) 16 pl450) 27 (nI nd)) 31 (nI wr)) 64 (nI at0)) 65 (nI ne)) 66 (nI lk)) (updA (stR B 15 x (nI at0)) 2 K)) _ := hP
    have hD : va_D A (mW G h0 a (upd (upd (upd (upd (upd (upd (upd F 15 (nI fa6)) 16 pl450) 27 (nI nd)) 31 (nI wr)) 64 (nI at0)) 65 (nI ne)) 66 (nI lk)) (updA (stR B 15 x (nI at0)) 2 K)) := mW_D hD
    exact W.vret hx hb hr (fun t9 ht9 hW9 => ⟨⟨_, (at0, fa6, pl450, nd, lk, wr, (stR B 15 x (nI at0))), rfl, ⟨rfl, hz463, hz464, hz465, hz466, hz467, hz468, hz469, hz470, hz471, hz472, hz473, hz474, hz475⟩, by rw [ht9]; exact hP, hD⟩, hS.F ht9⟩) hS.2.2 dX12_arguments_114

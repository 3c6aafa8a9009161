theorem dX12_block_32 : decode cX12_block 32 = .ok (.aload_n 0, 1) := by decide +kernel
theorem dX12_block_33 : decode cX12_block 33 = .ok (.invokevirtual 381, 3) := by decide +kernel
theorem dX12_block_36 : decode cX12_block 36 = .ok (.bipush 125, 2) := by decide +kernel
theorem dX12_block_38 : decode cX12_block 38 = .ok (.if_icmp .eq 35, 3) := by decide +kernel
theorem dX12_block_41 : decode cX12_block 41 = .ok (.aload_n 0, 1) := by decide +kernel
theorem dX12_block_42 : decode cX12_block 42 = .ok (.invokevirtual 432, 3) := by decide +kernel
theorem dX12_block_45 : decode cX12_block 45 = .ok (.istore_n 3, 1) := by decide +kernel
theorem dX12_block_46 : decode cX12_block 46 = .ok (.iload_n 2, 1) := by decide +kernel
theorem dX12_block_47 : decode cX12_block 47 = .ok (.iconst (-1), 1) := by decide +kernel
theorem dX12_block_48 : decode cX12_block 48 = .ok (.if_icmp .ne 13, 3) := by decide +kernel
theorem dX12_block_51 : decode cX12_block 51 = .ok (.aload_n 0, 1) := by decide +kernel
theorem dX12_block_52 : decode cX12_block 52 = .ok (.getfield 47, 3) := by decide +kernel
theorem dX12_block_55 : decode cX12_block 55 = .ok (.iload_n 1, 1) := by decide +kernel
theorem dX12_block_56 : decode cX12_block 56 = .ok (.iload_n 3, 1) := by decide +kernel
theorem dX12_block_57 : decode cX12_block 57 = .ok (.iastore, 1) := by decide +kernel
theorem dX12_block_58 : decode cX12_block 58 = .ok (.goto 10, 3) := by decide +kernel
theorem dX12_block_68 : decode cX12_block 68 = .ok (.iload_n 3, 1) := by decide +kernel
theorem dX12_block_69 : decode cX12_block 69 = .ok (.istore_n 2, 1) := by decide +kernel
theorem dX12_block_70 : decode cX12_block 70 = .ok (.goto (-45), 3) := by decide +kernel
theorem dX12_block_61 : decode cX12_block 61 = .ok (.aload_n 0, 1) := by decide +kernel
theorem dX12_block_62 : decode cX12_block 62 = .ok (.getfield 59, 3) := by decide +kernel
theorem dX12_block_65 : decode cX12_block 65 = .ok (.iload_n 2, 1) := by decide +kernel
theorem dX12_block_66 : decode cX12_block 66 = .ok (.iload_n 3, 1) := by decide +kernel
theorem dX12_block_67 : decode cX12_block 67 = .ok (.iastore, 1) := by decide +kernel
set_option maxHeartbeats 2000000 in
set_option maxRecDepth 100000 in
/-- block(), no fault ahead -/
theorem RT_block (l : Launch) (G : pT) (h0 : Nat) (a : Nat → Nat) (F : Nat → Int32) (B : Nat → Nat → Int32) (at0 : Nat) (T : Nat) (n : Nat) (ne : Nat) (nd : Nat) (wr : Nat) (lk : Nat) (K : Nat → Int32) (hat : at0 ≤ T) (hT : T ≤ 5000) (hK : K T = 0 ∨ K T = 3) (hne : ne ≤ 20) (hnd : nd ≤ 2 * at0) (hwr : wr ≤ at0) (hlk : lk ≤ 60) (hy : tkRow (B 19) wr T) (hn : 21 ≤ n + ne) (hp : Ppart l G n) : PM l G pX0 yX12_block cX12_block 4 (some .int) ({ frames := (26 * n + 42), cells := 0, slots := 0, locals := (2000 * n + 4200) }) [.ref h0] (mW G h0 a (upd (upd (upd (upd (upd (upd F 15 0) 27 (nI nd)) 31 (nI wr)) 64 (nI at0)) 65 (nI ne)) 66 (nI lk)) (updA B 2 K)) (fun (v : Option Value) (u : Nat × Nat × Int32 × Nat × Nat × Nat × Nat × (Nat → Nat → Int32)) => v = some (.int (nI u.2.2.2.2.2.2.1)) ∧ (at0 ≤ u.1) ∧ (u.1 ≤ T) ∧ (u.2.1 ≤ 100) ∧ (nd ≤ u.2.2.2.1) ∧ (u.2.2.2.1 + 2 * at0 ≤ nd + 2 * u.1 + 100000 * u.2.1) ∧ (u.2.2.2.1 + 2 * at0 ≤ nd + 2 * u.1 + (60 * (20 - ne) + 50)) ∧ (wr ≤ u.2.2.2.2.2.1) ∧ (u.2.2.2.2.2.1 + at0 ≤ wr + u.1) ∧ (lk ≤ u.2.2.2.2.1) ∧ (u.2.2.2.2.1 ≤ lk) ∧ (at0 + 1 ≤ u.1 + u.2.1) ∧ (u.2.2.2.2.2.2.1 ≤ u.2.2.2.1) ∧ (Kp B u.2.2.2.2.2.2.2 u.2.2.2.2.2.1 T) ∧ (If (u.2.1 = 0) (Low B u.2.2.2.2.2.2.2 nd wr ∧ Frs K T u.2.2.2.2.2.1 u.2.2.2.2.2.2.2 nd u.2.2.2.1 20000 [(u.2.2.2.2.2.2.1, (281 + 4 * (20 - ne)))] ∧ kcl 10 (u.2.2.2.2.2.2.2 9 u.2.2.2.2.2.2.1) = true))) (fun u => (mW G h0 a (upd (upd (upd (upd (upd (upd (upd F 15 (nI u.2.1)) 16 u.2.2.1) 27 (nI u.2.2.2.1)) 31 (nI u.2.2.2.2.2.1)) 64 (nI u.1)) 65 (nI ne)) 66 (nI u.2.2.2.2.1)) (updA u.2.2.2.2.2.2.2 2 K))) := by
  intro sz
  refine Met.ofW (cc := cX12_block) (maxL := 4) (ret := (some .int)) (by decide) rfl ?_
  intro p e s m args below meth c s₁ B9 hml hv
  obtain ⟨rfl, hsz, hP, hD0, hE, hX⟩ := hv
  have hx := B9.exec
  have hb := B9.bytes
  have hr := B9.returns
  have hts := atoms_spec (ws := Cond.code yX12_block cX12_block 4 (some .int) :: pw) B9.pre
  have hq : ∀ w ∈ pw, w.before _ s = true := fun w h => hts w (List.mem_cons_of_mem _ h)
  have hown : s.vm.findClass RX12 = some m.cls := findClass_of_methodNamed B9.named
  have hlocks := B9.notSynchronized
  subst hsz
  have hD := hD0.self (sz := s.heap.size)
  have hA : ∀ q : Nat, s.heap.size ≤ q → va_A (mW G h0 a (upd (upd (upd (upd (upd (upd F 15 0) 27 (nI nd)) 31 (nI wr)) 64 (nI at0)) 65 (nI ne)) 66 (nI lk)) (updA B 2 K)) s.heap.size q := fun q h => Or.inr h
  have hP : va_P G.1 pCl (mW G h0 a (upd (upd (upd (upd (upd (upd F 15 0) 27 (nI nd)) 31 (nI wr)) 64 (nI at0)) 65 (nI ne)) 66 (nI lk)) (updA B 2 K)) s.heap := hP
  generalize va_A (mW G h0 a (upd (upd (upd (upd (upd (upd F 15 0) 27 (nI nd)) 31 (nI wr)) 64 (nI at0)) 65 (nI ne)) 66 (nI lk)) (updA B 2 K)) s.heap.size = A at hD hE hA ⊢
  have hS : va_S A s.heap s.heap [] := va_S.rf
  have hl := lv_entry ([.ref h0]) (n := 4) (Nat.le_of_ble_eq_true rfl)
  rw [lg_entry_eq]
  generalize (lg_sl ([.ref h0]) ++ List.replicate (4 - (lg_sl ([.ref h0])).length) Slot.unset).toArray = ls at hl ⊢
  have hl : lv_has ls 4 [(0, .ref h0)] := hl
  have hkp1 : Kp B B wr T := Kp.rfl hy
  have hlo2 : Low B B nd wr := Low.rfl
  refine lv_aload_n hx hb dX12_block_0 rfl (lv_at hl 0 rfl) ?_
  refine lv_bipush (v := 31) hx hb dX12_block_1 (by decide) ?_
  refine lv_aload_n hx hb dX12_block_3 rfl (lv_at hl 0 rfl) ?_
  refine r_get (v := .int (nI at0)) hx hb hown hq hE hP 64 343 tFX12_64 (by decide) pw_1592 rfl dX12_block_4 ?_
  refine lv_aload_n hx hb dX12_block_7 rfl (lv_at hl 0 rfl) ?_
  refine r_get (v := .int (nI at0)) hx hb hown hq hE hP 64 343 tFX12_64 (by decide) pw_1592 rfl dX12_block_8 ?_
  refine lv_iconst (v := (-1)) hx hb dX12_block_11 (by decide) ?_
  refine lv_iconst (v := (-1)) hx hb dX12_block_12 (by decide) ?_
  have hP : va_P G.1 pCl (mW G h0 a (upd (upd (upd (upd (upd (upd (upd F 15 0) 27 (nI nd)) 31 (nI wr)) 64 (nI at0)) 65 (nI ne)) 66 (nI lk)) 27 (nI nd)) (updA B 2 K)) _ := mW_to (F := F) (l1 := [(15, 0), (27, (nI nd)), (31, (nI wr)), (64, (nI at0)), (65, (nI ne)), (66, (nI lk))]) (l2 := [(15, 0), (27, (nI nd)), (31, (nI wr)), (64, (nI at0)), (65, (nI ne)), (66, (nI lk)), (27, (nI nd))]) (V := [0, (nI nd), (nI wr), (nI at0), (nI ne), (nI lk), 0, (nI nd), (nI wr), (nI at0), (nI ne), (nI lk), (nI nd)]) rfl rfl rfl hP
  have hD : va_D A (mW G h0 a (upd (upd (upd (upd (upd (upd (upd F 15 0) 27 (nI nd)) 31 (nI wr)) 64 (nI at0)) 65 (nI ne)) 66 (nI lk)) 27 (nI nd)) (updA B 2 K)) := mW_D hD
  refine pc_V0 (G := G) (As := [.int 31, .int (nI at0), .int (nI at0), .int (-1), .int (-1)]) (rest := []) hx hb hml hown hq hE hX pX0_al hP hD hS hA hl.1 (R_nodeB l G h0 a (upd (upd (upd (upd (upd (upd F 15 0) 27 (nI nd)) 31 (nI wr)) 64 (nI at0)) 65 (nI ne)) 66 (nI lk)) B 31 (nI at0) (nI at0) (-1) (-1) nd K (by omega)) (gV pw_1650 pw_1651 pw_1652 pw_1523 pw_1589) hV_X12_node 0 9 rfl rfl rfl rfl (Nat.le_of_ble_eq_true rfl) dX12_block_13 ⟨Nat.le_of_ble_eq_true rfl, Nat.le_of_ble_eq_true rfl⟩ ⟨(by show 2 + 1 ≤ (26 * n + 42); omega), (by show 8 + (7 + 11) + 60 ≤ (2000 * n + 4200); omega)⟩ (fun v5 u3 H locs hw4 hP hD hS => ?_)
  obtain ⟨X6, rfl⟩ : ∃ z, z = u3 := ⟨_, rfl⟩
  obtain ⟨hw4, h7⟩ := hw4
  have h7 : NewN B X6 nd 31 (nI at0) (nI at0) (-1) (-1) := h7
  obtain rfl : v5 = some (.int (nI nd)) := hw4
  have hP : va_P G.1 pCl (mW G h0 a (upd (upd (upd (upd (upd (upd F 15 0) 27 (nI (nd + 1))) 31 (nI wr)) 64 (nI at0)) 65 (nI ne)) 66 (nI lk)) (updA X6 2 K)) _ := mW_to (F := F) (l1 := [(15, 0), (27, (nI nd)), (31, (nI wr)), (64, (nI at0)), (65, (nI ne)), (66, (nI lk)), (27, (nI (nd + 1)))]) (l2 := [(15, 0), (27, (nI (nd + 1))), (31, (nI wr)), (64, (nI at0)), (65, (nI ne)), (66, (nI lk))]) (V := [0, (nI (nd + 1)), (nI wr), (nI at0), (nI ne), (nI lk), (nI (nd + 1)), 0, (nI (nd + 1)), (nI wr), (nI at0), (nI ne), (nI lk)]) rfl rfl rfl hP
  have hD : va_D A (mW G h0 a (upd (upd (upd (upd (upd (upd F 15 0) 27 (nI (nd + 1))) 31 (nI wr)) 64 (nI at0)) 65 (nI ne)) 66 (nI lk)) (updA X6 2 K)) := mW_D hD
  refine W.widen (k := 0) (n := 0) (Nat.le_of_ble_eq_true rfl) (Nat.le_of_ble_eq_true rfl) ?_
  refine W.eq (g2 := F0 m 16 ls [.int (nI nd)]) rfl ?_
  have hkp8 : Kp B X6 wr T := (Kp.new hkp1 h7)
  have hlo9 : Low B X6 nd wr := (Low.new hlo2 h7 (by omega))
  have hf10 : Frs K T wr X6 nd (nd + 1) nd [(nd, 0)] := (Frs.new0 (k := 31) Frs.nil (Nat.le_refl _) (Nat.le_refl _) h7 rfl (by decide) (by decide) (by omega) (by omega) (fun e => absurd e (by decide)) (newOK.m1 (by decide)) (newOK.m1 (by decide)) (newOK.m1 (by decide)) (newOK.m1 (by decide)))
  have hn11 : Nd X6 nd 31 (-1) (-1) (-1) (-1) := (NewN.toNd h7)
  have hf12 : Frs K T wr X6 nd (nd + 1) 20000 [(nd, 0)] := (Frs.fin (k := 31) hf10 hn11 rfl (by decide) (fun h => absurd h (by decide)) (fun h => absurd h (by decide)) (fun h => absurd h (by decide)) (fun h => absurd h (by decide)))
  refine lv_istore_n (lv' := [(1, .int (nI nd)), (0, .ref h0)]) hx hb dX12_block_16 rfl hl (by decide) rfl (fun ls hl => ?_)
  refine lv_aload_n hx hb dX12_block_17 rfl (lv_at hl 1 rfl) ?_
  refine lv_bipush (v := 123) hx hb dX12_block_18 (by decide) ?_
  have hP : va_P G.1 pCl (mW G h0 a (upd (upd (upd (upd (upd (upd (upd (upd F 15 0) 27 (nI (nd + 1))) 31 (nI wr)) 64 (nI at0)) 65 (nI ne)) 66 (nI lk)) 15 (nI 0)) 64 (nI at0)) (updA (updA X6 2 K) 2 K)) _ := mW_to (F := F) (l1 := [(15, 0), (27, (nI (nd + 1))), (31, (nI wr)), (64, (nI at0)), (65, (nI ne)), (66, (nI lk))]) (l2 := [(15, 0), (27, (nI (nd + 1))), (31, (nI wr)), (64, (nI at0)), (65, (nI ne)), (66, (nI lk)), (15, (nI 0)), (64, (nI at0))]) (V := [(nI 0), (nI (nd + 1)), (nI wr), (nI at0), (nI ne), (nI lk), (nI 0), (nI (nd + 1)), (nI wr), (nI at0), (nI ne), (nI lk), (nI 0), (nI at0)]) rfl rfl (show (updA X6 2 K) = (updA (updA X6 2 K) 2 K) from updsA_eq2 (F := X6) (l1 := [(2, K)]) (l2 := [(2, K), (2, K)]) (V := [K, K, K]) rfl rfl) hP
  have hD : va_D A (mW G h0 a (upd (upd (upd (upd (upd (upd (upd (upd F 15 0) 27 (nI (nd + 1))) 31 (nI wr)) 64 (nI at0)) 65 (nI ne)) 66 (nI lk)) 15 (nI 0)) 64 (nI at0)) (updA (updA X6 2 K) 2 K)) := mW_D hD
  refine pc_V0 (G := G) (As := [.int 123]) (rest := []) hx hb hml hown hq hE hX pX0_al hP hD hS hA hl.1 (R_take l G h0 a (upd (upd (upd (upd (upd (upd F 15 0) 27 (nI (nd + 1))) 31 (nI wr)) 64 (nI at0)) 65 (nI ne)) 66 (nI lk)) (updA X6 2 K) at0 T 0 K 123 (by omega) (by omega) hK (by omega) (by decide) (by decide)) (gV pw_1614 pw_1615 pw_1616 pw_1523 pw_1601) hV_X12_take 0 9 rfl rfl rfl rfl (Nat.le_of_ble_eq_true rfl) dX12_block_20 ⟨Nat.le_of_ble_eq_true rfl, Nat.le_of_ble_eq_true rfl⟩ ⟨(by show 4 + 1 ≤ (26 * n + 42); omega), (by show 8 + (2 + 11) + 103 ≤ (2000 * n + 4200); omega)⟩ (fun v15 u13 H locs hw14 hP hD hS => ?_)
  obtain ⟨at16, fa17, pl18⟩ := u13
  obtain ⟨hw14, h19, h20, h21, h22, h23, h24, h25, h26⟩ := hw14
  have h19 : at0 ≤ at16 := h19
  have h20 : at16 ≤ T := h20
  have h21 : 0 ≤ fa17 := h21
  have h22 : fa17 ≤ 100 := h22
  have h23 : If (0 < 0) (at16 = at0 ∧ fa17 = 0) := h23
  have h24 : at16 ≤ at0 + 1 := h24
  have h25 : at0 + 1 ≤ at16 + fa17 := h25
  have h26 : If (fa17 = 0) (K at0 = 123) := h26
  obtain rfl : v15 = none := hw14
  have hP : va_P G.1 pCl (mW G h0 a (upd (upd (upd (upd (upd (upd (upd F 15 (nI fa17)) 16 pl18) 27 (nI (nd + 1))) 31 (nI wr)) 64 (nI at16)) 65 (nI ne)) 66 (nI lk)) (updA X6 2 K)) _ := mW_to (F := F) (l1 := [(15, 0), (27, (nI (nd + 1))), (31, (nI wr)), (64, (nI at0)), (65, (nI ne)), (66, (nI lk)), (15, (nI fa17)), (16, pl18), (64, (nI at16))]) (l2 := [(15, (nI fa17)), (16, pl18), (27, (nI (nd + 1))), (31, (nI wr)), (64, (nI at16)), (65, (nI ne)), (66, (nI lk))]) (V := [(nI fa17), (nI (nd + 1)), (nI wr), (nI at16), (nI ne), (nI lk), (nI fa17), pl18, (nI at16), (nI fa17), pl18, (nI (nd + 1)), (nI wr), (nI at16), (nI ne), (nI lk)]) rfl rfl (show (updA (updA X6 2 K) 2 K) = (updA X6 2 K) from updsA_eq2 (F := X6) (l1 := [(2, K), (2, K)]) (l2 := [(2, K)]) (V := [K, K, K]) rfl rfl) hP
  have hD : va_D A (mW G h0 a (upd (upd (upd (upd (upd (upd (upd F 15 (nI fa17)) 16 pl18) 27 (nI (nd + 1))) 31 (nI wr)) 64 (nI at16)) 65 (nI ne)) 66 (nI lk)) (updA X6 2 K)) := mW_D hD
  refine W.widen (k := 0) (n := 0) (Nat.le_of_ble_eq_true rfl) (Nat.le_of_ble_eq_true rfl) ?_
  refine W.eq (g2 := F0 m 23 ls []) rfl ?_
  rcases Nat.eq_zero_or_pos fa17 with e27 | e27
  · subst e27
    have hP : va_P G.1 pCl (mW G h0 a (upd (upd (upd (upd (upd (upd (upd F 15 0) 16 pl18) 27 (nI (nd + 1))) 31 (nI wr)) 64 (nI at16)) 65 (nI ne)) 66 (nI lk)) (updA X6 2 K)) _ := hP
    have hD : va_D A (mW G h0 a (upd (upd (upd (upd (upd (upd (upd F 15 0) 16 pl18) 27 (nI (nd + 1))) 31 (nI wr)) 64 (nI at16)) 65 (nI ne)) 66 (nI lk)) (updA X6 2 K)) := mW_D hD
    refine lv_iconst (v := (-1)) hx hb dX12_block_23 (by decide) ?_
    refine lv_istore_n (lv' := [(2, .int (-1)), (1, .int (nI nd)), (0, .ref h0)]) hx hb dX12_block_24 rfl hl (by decide) rfl (fun ls hl => ?_)
    refine lv_aload_n hx hb dX12_block_25 rfl (lv_at hl 2 rfl) ?_
    refine r_get (v := .int 0) hx hb hown hq hE hP 15 350 tFX12_15 (by decide) pw_1594 rfl dX12_block_26 ?_
    refine lv_if_ne (tgt := 73) hx hb dX12_block_29 (by decide) (fun c28 => absurd c28 (by decide)) (fun c28 => ?_)
    refine lv_aload_n hx hb dX12_block_32 rfl (lv_at hl 2 rfl) ?_
    have hP : va_P G.1 pCl (mW G h0 a (upd (upd (upd (upd (upd (upd (upd (upd (upd F 15 0) 16 pl18) 27 (nI (nd + 1))) 31 (nI wr)) 64 (nI at16)) 65 (nI ne)) 66 (nI lk)) 15 (nI 0)) 64 (nI at16)) (updA (updA X6 2 K) 2 K)) _ := mW_to (F := F) (l1 := [(15, 0), (16, pl18), (27, (nI (nd + 1))), (31, (nI wr)), (64, (nI at16)), (65, (nI ne)), (66, (nI lk))]) (l2 := [(15, 0), (16, pl18), (27, (nI (nd + 1))), (31, (nI wr)), (64, (nI at16)), (65, (nI ne)), (66, (nI lk)), (15, (nI 0)), (64, (nI at16))]) (V := [(nI 0), pl18, (nI (nd + 1)), (nI wr), (nI at16), (nI ne), (nI lk), (nI 0), pl18, (nI (nd + 1)), (nI wr), (nI at16), (nI ne), (nI lk), (nI 0), (nI at16)]) rfl rfl (show (updA X6 2 K) = (updA (updA X6 2 K) 2 K) from updsA_eq2 (F := X6) (l1 := [(2, K)]) (l2 := [(2, K), (2, K)]) (V := [K, K, K]) rfl rfl) hP
    have hD : va_D A (mW G h0 a (upd (upd (upd (upd (upd (upd (upd (upd (upd F 15 0) 16 pl18) 27 (nI (nd + 1))) 31 (nI wr)) 64 (nI at16)) 65 (nI ne)) 66 (nI lk)) 15 (nI 0)) 64 (nI at16)) (updA (updA X6 2 K) 2 K)) := mW_D hD
    refine pc_V0 (G := G) (As := []) (rest := []) hx hb hml hown hq hE hX pX0_al hP hD hS hA hl.1 (R_kind l G h0 a (upd (upd (upd (upd (upd (upd (upd F 15 0) 16 pl18) 27 (nI (nd + 1))) 31 (nI wr)) 64 (nI at16)) 65 (nI ne)) 66 (nI lk)) (updA X6 2 K) at16 T 0 K (by omega) (by omega) hK (by omega)) (gV pw_1626 pw_1627 pw_1628 pw_1523 pw_1591) hV_X12_kind 0 9 rfl rfl rfl rfl (Nat.le_of_ble_eq_true rfl) dX12_block_33 ⟨Nat.le_of_ble_eq_true rfl, Nat.le_of_ble_eq_true rfl⟩ ⟨(by show 2 + 1 ≤ (26 * n + 42); omega), (by show 8 + (1 + 11) + 60 ≤ (2000 * n + 4200); omega)⟩ (fun v31 u29 H locs hw30 hP hD hS => ?_)
    obtain rfl : v31 = some (.int (K at16)) := hw30
    have hP : va_P G.1 pCl (mW G h0 a (upd (upd (upd (upd (upd (upd (upd F 15 0) 16 pl18) 27 (nI (nd + 1))) 31 (nI wr)) 64 (nI at16)) 65 (nI ne)) 66 (nI lk)) (updA X6 2 K)) _ := mW_to (F := F) (l1 := [(15, 0), (16, pl18), (27, (nI (nd + 1))), (31, (nI wr)), (64, (nI at16)), (65, (nI ne)), (66, (nI lk)), (15, (nI 0)), (64, (nI at16))]) (l2 := [(15, 0), (16, pl18), (27, (nI (nd + 1))), (31, (nI wr)), (64, (nI at16)), (65, (nI ne)), (66, (nI lk))]) (V := [0, pl18, (nI (nd + 1)), (nI wr), (nI at16), (nI ne), (nI lk), 0, (nI at16), 0, pl18, (nI (nd + 1)), (nI wr), (nI at16), (nI ne), (nI lk)]) rfl rfl (show (updA (updA X6 2 K) 2 K) = (updA X6 2 K) from updsA_eq2 (F := X6) (l1 := [(2, K), (2, K)]) (l2 := [(2, K)]) (V := [K, K, K]) rfl rfl) hP
    have hD : va_D A (mW G h0 a (upd (upd (upd (upd (upd (upd (upd F 15 0) 16 pl18) 27 (nI (nd + 1))) 31 (nI wr)) 64 (nI at16)) 65 (nI ne)) 66 (nI lk)) (updA X6 2 K)) := mW_D hD
    refine W.widen (k := 0) (n := 0) (Nat.le_of_ble_eq_true rfl) (Nat.le_of_ble_eq_true rfl) ?_
    refine W.eq (g2 := F0 m 36 ls [.int (K at16)]) rfl ?_
    refine lv_bipush (v := 125) hx hb dX12_block_36 (by decide) ?_
    refine lv_icmp_eq (tgt := 73) hx hb dX12_block_38 (by decide) (fun c32 => ?_) (fun c32 => ?_)
    · refine lv_aload_n hx hb dX12_block_73 rfl (lv_at hl 2 rfl) ?_
      refine lv_bipush (v := 125) hx hb dX12_block_74 (by decide) ?_
      have hP : va_P G.1 pCl (mW G h0 a (upd (upd (upd (upd (upd (upd (upd (upd (upd F 15 0) 16 pl18) 27 (nI (nd + 1))) 31 (nI wr)) 64 (nI at16)) 65 (nI ne)) 66 (nI lk)) 15 (nI 0)) 64 (nI at16)) (updA (updA X6 2 K) 2 K)) _ := mW_to (F := F) (l1 := [(15, 0), (16, pl18), (27, (nI (nd + 1))), (31, (nI wr)), (64, (nI at16)), (65, (nI ne)), (66, (nI lk))]) (l2 := [(15, 0), (16, pl18), (27, (nI (nd + 1))), (31, (nI wr)), (64, (nI at16)), (65, (nI ne)), (66, (nI lk)), (15, (nI 0)), (64, (nI at16))]) (V := [(nI 0), pl18, (nI (nd + 1)), (nI wr), (nI at16), (nI ne), (nI lk), (nI 0), pl18, (nI (nd + 1)), (nI wr), (nI at16), (nI ne), (nI lk), (nI 0), (nI at16)]) rfl rfl (show (updA X6 2 K) = (updA (updA X6 2 K) 2 K) from updsA_eq2 (F := X6) (l1 := [(2, K)]) (l2 := [(2, K), (2, K)]) (V := [K, K, K]) rfl rfl) hP
      have hD : va_D A (mW G h0 a (upd (upd (upd (upd (upd (upd (upd (upd (upd F 15 0) 16 pl18) 27 (nI (nd + 1))) 31 (nI wr)) 64 (nI at16)) 65 (nI ne)) 66 (nI lk)) 15 (nI 0)) 64 (nI at16)) (updA (updA X6 2 K) 2 K)) := mW_D hD
      refine pc_V0 (G := G) (As := [.int 125]) (rest := []) hx hb hml hown hq hE hX pX0_al hP hD hS hA hl.1 (R_take l G h0 a (upd (upd (upd (upd (upd (upd (upd F 15 0) 16 pl18) 27 (nI (nd + 1))) 31 (nI wr)) 64 (nI at16)) 65 (nI ne)) 66 (nI lk)) (updA X6 2 K) at16 T 0 K 125 (by omega) (by omega) hK (by omega) (by decide) (by decide)) (gV pw_1614 pw_1615 pw_1616 pw_1523 pw_1601) hV_X12_take 0 9 rfl rfl rfl rfl (Nat.le_of_ble_eq_true rfl) dX12_block_76 ⟨Nat.le_of_ble_eq_true rfl, Nat.le_of_ble_eq_true rfl⟩ ⟨(by show 4 + 1 ≤ (26 * n + 42); omega), (by show 8 + (2 + 11) + 103 ≤ (2000 * n + 4200); omega)⟩ (fun v35 u33 H locs hw34 hP hD hS => ?_)
      obtain ⟨at36, fa37, pl38⟩ := u33
      obtain ⟨hw34, h39, h40, h41, h42, h43, h44, h45, h46⟩ := hw34
      have h39 : at16 ≤ at36 := h39
      have h40 : at36 ≤ T := h40
      have h41 : 0 ≤ fa37 := h41
      have h42 : fa37 ≤ 100 := h42
      have h43 : If (0 < 0) (at36 = at16 ∧ fa37 = 0) := h43
      have h44 : at36 ≤ at16 + 1 := h44
      have h45 : at16 + 1 ≤ at36 + fa37 := h45
      have h46 : If (fa37 = 0) (K at16 = 125) := h46
      obtain rfl : v35 = none := hw34
      have hP : va_P G.1 pCl (mW G h0 a (upd (upd (upd (upd (upd (upd (upd F 15 (nI fa37)) 16 pl38) 27 (nI (nd + 1))) 31 (nI wr)) 64 (nI at36)) 65 (nI ne)) 66 (nI lk)) (updA X6 2 K)) _ := mW_to (F := F) (l1 := [(15, 0), (16, pl18), (27, (nI (nd + 1))), (31, (nI wr)), (64, (nI at16)), (65, (nI ne)), (66, (nI lk)), (15, (nI fa37)), (16, pl38), (64, (nI at36))]) (l2 := [(15, (nI fa37)), (16, pl38), (27, (nI (nd + 1))), (31, (nI wr)), (64, (nI at36)), (65, (nI ne)), (66, (nI lk))]) (V := [(nI fa37), pl38, (nI (nd + 1)), (nI wr), (nI at36), (nI ne), (nI lk), (nI fa37), pl38, (nI at36), (nI fa37), pl38, (nI (nd + 1)), (nI wr), (nI at36), (nI ne), (nI lk)]) rfl rfl (show (updA (updA X6 2 K) 2 K) = (updA X6 2 K) from updsA_eq2 (F := X6) (l1 := [(2, K), (2, K)]) (l2 := [(2, K)]) (V := [K, K, K]) rfl rfl) hP
      have hD : va_D A (mW G h0 a (upd (upd (upd (upd (upd (upd (upd F 15 (nI fa37)) 16 pl38) 27 (nI (nd + 1))) 31 (nI wr)) 64 (nI at36)) 65 (nI ne)) 66 (nI lk)) (updA X6 2 K)) := mW_D hD
      refine W.widen (k := 0) (n := 0) (Nat.le_of_ble_eq_true rfl) (Nat.le_of_ble_eq_true rfl) ?_
      refine W.eq (g2 := F0 m 79 ls []) rfl ?_
      rcases Nat.eq_zero_or_pos fa37 with e47 | e47
      · subst e47
        have hP : va_P G.1 pCl (mW G h0 a (upd (upd (upd (upd (upd (upd (upd F 15 0) 16 pl38) 27 (nI (nd + 1))) 31 (nI wr)) 64 (nI at36)) 65 (nI ne)) 66 (nI lk)) (updA X6 2 K)) _ := hP
        have hD : va_D A (mW G h0 a (upd (upd (upd (upd (upd (upd (upd F 15 0) 16 pl38) 27 (nI (nd + 1))) 31 (nI wr)) 64 (nI at36)) 65 (nI ne)) 66 (nI lk)) (updA X6 2 K)) := mW_D hD
        refine lv_iload_n hx hb dX12_block_79 rfl (lv_at hl 1 rfl) ?_
        have hz48 : at0 ≤ at36 := (by omega)
        have hz49 : at36 ≤ T := (by omega)
        have hz50 : 0 ≤ 100 := (by omega)
        have hz51 : nd ≤ (nd + 1) := (by omega)
        have hz52 : (nd + 1) + 2 * at0 ≤ nd + 2 * at36 + 100000 * 0 := (by omega)
        have hz53 : (nd + 1) + 2 * at0 ≤ nd + 2 * at36 + (60 * (20 - ne) + 50) := (by omega)
        have hz54 : wr ≤ wr := (by omega)
        have hz55 : wr + at0 ≤ wr + at36 := (by omega)
        have hz56 : lk ≤ lk := (by omega)
        have hz57 : lk ≤ lk := (by omega)
        have hz58 : at0 + 1 ≤ at36 + 0 := (by omega)
        have hz59 : nd ≤ (nd + 1) := (by omega)
        have hz60 : Kp B X6 wr T := hkp8
        have hz61 : If (0 = 0) (Low B X6 nd wr ∧ Frs K T wr X6 nd (nd + 1) 20000 [(nd, (281 + 4 * (20 - ne)))] ∧ kcl 10 (X6 9 nd) = true) := (fun _ => ⟨hlo9, Frs.up hf12 (by omega), (by rw [hn11.1]; decide)⟩)
        have hP : va_P G.1 pCl (mW G h0 a (upd (upd (upd (upd (upd (upd (upd F 15 (nI 0)) 16 pl38) 27 (nI (nd + 1))) 31 (nI wr)) 64 (nI at36)) 65 (nI ne)) 66 (nI lk)) (updA X6 2 K)) _ := mW_to (F := F) (l1 := [(15, 0), (16, pl38), (27, (nI (nd + 1))), (31, (nI wr)), (64, (nI at36)), (65, (nI ne)), (66, (nI lk))]) (l2 := [(15, (nI 0)), (16, pl38), (27, (nI (nd + 1))), (31, (nI wr)), (64, (nI at36)), (65, (nI ne)), (66, (nI lk))]) (V := [(nI 0), pl38, (nI (nd + 1)), (nI wr), (nI at36), (nI ne), (nI lk), (nI 0), pl38, (nI (nd + 1)), (nI wr), (nI at36), (nI ne), (nI lk)]) rfl rfl rfl hP
        have hD : va_D A (mW G h0 a (upd (upd (upd (upd (upd (upd (upd F 15 (nI 0)) 16 pl38) 27 (nI (nd + 1))) 31 (nI wr)) 64 (nI at36)) 65 (nI ne)) 66 (nI lk)) (updA X6 2 K)) := mW_D hD
        exact W.iret (v := (nI nd)) hx hb hr (fun t9 ht9 hW9 => ⟨⟨_, (at36, 0, pl38, (nd + 1), lk, wr, nd, X6), rfl, ⟨rfl, hz48, hz49, hz50, hz51, hz52, hz53, hz54, hz55, hz56, hz57, hz58, hz59, hz60, hz61⟩, by rw [ht9]; exact hP, hD⟩, hS.F ht9⟩) hS.2.2 dX12_block_80
      · have e47 := e47
        refine lv_iload_n hx hb dX12_block_79 rfl (lv_at hl 1 rfl) ?_
        have hz62 : at0 ≤ at36 := (by omega)
        have hz63 : at36 ≤ T := (by omega)
        have hz64 : fa37 ≤ 100 := (by omega)
        have hz65 : nd ≤ (nd + 1) := (by omega)
        have hz66 : (nd + 1) + 2 * at0 ≤ nd + 2 * at36 + 100000 * fa37 := (by omega)
        have hz67 : (nd + 1) + 2 * at0 ≤ nd + 2 * at36 + (60 * (20 - ne) + 50) := (by omega)
        have hz68 : wr ≤ wr := (by omega)
        have hz69 : wr + at0 ≤ wr + at36 := (by omega)
        have hz70 : lk ≤ lk := (by omega)
        have hz71 : lk ≤ lk := (by omega)
        have hz72 : at0 + 1 ≤ at36 + fa37 := (by omega)
        have hz73 : nd ≤ (nd + 1) := (by omega)
        have hz74 : Kp B X6 wr T := hkp8
        have hz75 : If (fa37 = 0) (Low B X6 nd wr ∧ Frs K T wr X6 nd (nd + 1) 20000 [(nd, (281 + 4 * (20 - ne)))] ∧ kcl 10 (X6 9 nd) = true) := (fun e => absurd e (by omega))
        have hP : va_P G.1 pCl (mW G h0 a (upd (upd (upd (upd (upd (upd (upd F 15 (nI fa37)) 16 pl38) 27 (nI (nd + 1))) 31 (nI wr)) 64 (nI at36)) 65 (nI ne)) 66 (nI lk)) (updA X6 2 K)) _ := hP
        have hD : va_D A (mW G h0 a (upd (upd (upd (upd (upd (upd (upd F 15 (nI fa37)) 16 pl38) 27 (nI (nd + 1))) 31 (nI wr)) 64 (nI at36)) 65 (nI ne)) 66 (nI lk)) (updA X6 2 K)) := mW_D hD
        exact W.iret (v := (nI nd)) hx hb hr (fun t9 ht9 hW9 => ⟨⟨_, (at36, fa37, pl38, (nd + 1), lk, wr, nd, X6), rfl, ⟨rfl, hz62, hz63, hz64, hz65, hz66, hz67, hz68, hz69, hz70, hz71, hz72, hz73, hz74, hz75⟩, by rw [ht9]; exact hP, hD⟩, hS.F ht9⟩) hS.2.2 dX12_block_80
    · refine lv_aload_n hx hb dX12_block_41 rfl (lv_at hl 2 rfl) ?_
      have hP : va_P G.1 pCl (mW G h0 a (upd (upd (upd (upd (upd (upd (upd (upd (upd (upd (upd (upd (upd F 15 0) 16 pl18) 27 (nI (nd + 1))) 31 (nI wr)) 64 (nI at16)) 65 (nI ne)) 66 (nI lk)) 15 0) 27 (nI (nd + 1))) 31 (nI wr)) 64 (nI at16)) 65 (nI ne)) 66 (nI lk)) (updA X6 2 K)) _ := mW_to (F := F) (l1 := [(15, 0), (16, pl18), (27, (nI (nd + 1))), (31, (nI wr)), (64, (nI at16)), (65, (nI ne)), (66, (nI lk))]) (l2 := [(15, 0), (16, pl18), (27, (nI (nd + 1))), (31, (nI wr)), (64, (nI at16)), (65, (nI ne)), (66, (nI lk)), (15, 0), (27, (nI (nd + 1))), (31, (nI wr)), (64, (nI at16)), (65, (nI ne)), (66, (nI lk))]) (V := [0, pl18, (nI (nd + 1)), (nI wr), (nI at16), (nI ne), (nI lk), 0, pl18, (nI (nd + 1)), (nI wr), (nI at16), (nI ne), (nI lk), 0, (nI (nd + 1)), (nI wr), (nI at16), (nI ne), (nI lk)]) rfl rfl rfl hP
      have hD : va_D A (mW G h0 a (upd (upd (upd (upd (upd (upd (upd (upd (upd (upd (upd (upd (upd F 15 0) 16 pl18) 27 (nI (nd + 1))) 31 (nI wr)) 64 (nI at16)) 65 (nI ne)) 66 (nI lk)) 15 0) 27 (nI (nd + 1))) 31 (nI wr)) 64 (nI at16)) 65 (nI ne)) 66 (nI lk)) (updA X6 2 K)) := mW_D hD
      refine pc_V0 (G := G) (As := []) (rest := []) hx hb hml hown hq hE hX pX0_al hP hD hS hA hl.1 (hp h0 a (upd (upd (upd (upd (upd (upd (upd F 15 0) 16 pl18) 27 (nI (nd + 1))) 31 (nI wr)) 64 (nI at16)) 65 (nI ne)) 66 (nI lk)) X6 at16 T ne (nd + 1) wr lk K (by omega) (by omega) hK (by omega) (by omega) (by omega) (by omega) (hkp8).2 (by omega)) (gV pw_1689 pw_1690 pw_1691 pw_1523 pw_1702) hV_X12_part 0 9 rfl rfl rfl rfl (Nat.le_of_ble_eq_true rfl) dX12_block_42 ⟨Nat.le_of_ble_eq_true rfl, Nat.le_of_ble_eq_true rfl⟩ ⟨(by show (26 * n + 41) + 1 ≤ (26 * n + 42); omega), (by show 8 + (4 + 11) + (2000 * n + 4100) ≤ (2000 * n + 4200); omega)⟩ (fun v78 u76 H locs hw77 hP hD hS => ?_)
      obtain ⟨at79, fa80, pl81, nd82, lk83, wr84, r85, X86⟩ := u76
      obtain ⟨hw77, h87, h88, h89, h90, h91, h92, h93, h94, h95, h96, h97, h98, h99, h100⟩ := hw77
      have h87 : at16 ≤ at79 := h87
      have h88 : at79 ≤ T := h88
      have h89 : fa80 ≤ 100 := h89
      have h90 : (nd + 1) ≤ nd82 := h90
      have h91 : nd82 + 2 * at16 ≤ (nd + 1) + 2 * at79 + 100000 * fa80 := h91
      have h92 : nd82 + 2 * at16 ≤ (nd + 1) + 2 * at79 + (60 * (20 - ne) + 40) := h92
      have h93 : wr ≤ wr84 := h93
      have h94 : wr84 + at16 ≤ wr + at79 := h94
      have h95 : lk ≤ lk83 := h95
      have h96 : lk83 ≤ lk := h96
      have h97 : at16 + 1 ≤ at79 + fa80 := h97
      have h98 : r85 ≤ nd82 := h98
      have h99 : Kp X6 X86 wr84 T := h99
      have h100 : If (fa80 = 0) (Low X6 X86 (nd + 1) wr ∧ Frs K T wr84 X86 (nd + 1) nd82 20000 [(r85, (280 + 4 * (20 - ne)))] ∧ kcl 7 (X86 9 r85) = true) := h100
      obtain rfl : v78 = some (.int (nI r85)) := hw77
      have hP : va_P G.1 pCl (mW G h0 a (upd (upd (upd (upd (upd (upd (upd F 15 (nI fa80)) 16 pl81) 27 (nI nd82)) 31 (nI wr84)) 64 (nI at79)) 65 (nI ne)) 66 (nI lk83)) (updA X86 2 K)) _ := mW_to (F := F) (l1 := [(15, 0), (16, pl18), (27, (nI (nd + 1))), (31, (nI wr)), (64, (nI at16)), (65, (nI ne)), (66, (nI lk)), (15, (nI fa80)), (16, pl81), (27, (nI nd82)), (31, (nI wr84)), (64, (nI at79)), (65, (nI ne)), (66, (nI lk83))]) (l2 := [(15, (nI fa80)), (16, pl81), (27, (nI nd82)), (31, (nI wr84)), (64, (nI at79)), (65, (nI ne)), (66, (nI lk83))]) (V := [(nI fa80), pl81, (nI nd82), (nI wr84), (nI at79), (nI ne), (nI lk83), (nI fa80), pl81, (nI nd82), (nI wr84), (nI at79), (nI ne), (nI lk83), (nI fa80), pl81, (nI nd82), (nI wr84), (nI at79), (nI ne), (nI lk83)]) rfl rfl rfl hP
      have hD : va_D A (mW G h0 a (upd (upd (upd (upd (upd (upd (upd F 15 (nI fa80)) 16 pl81) 27 (nI nd82)) 31 (nI wr84)) 64 (nI at79)) 65 (nI ne)) 66 (nI lk83)) (updA X86 2 K)) := mW_D hD
      refine W.widen (k := 0) (n := 0) (Nat.le_of_ble_eq_true rfl) (Nat.le_of_ble_eq_true rfl) ?_
      refine W.eq (g2 := F0 m 45 ls [.int (nI r85)]) rfl ?_
      have hkp101 : Kp B X86 wr84 T := (Kp.trans hkp8 h99)
      rcases Nat.eq_zero_or_pos fa80 with e102 | e102
      · subst e102
        have hP : va_P G.1 pCl (mW G h0 a (upd (upd (upd (upd (upd (upd (upd F 15 0) 16 pl81) 27 (nI nd82)) 31 (nI wr84)) 64 (nI at79)) 65 (nI ne)) 66 (nI lk83)) (updA X86 2 K)) _ := hP
        have hD : va_D A (mW G h0 a (upd (upd (upd (upd (upd (upd (upd F 15 0) 16 pl81) 27 (nI nd82)) 31 (nI wr84)) 64 (nI at79)) 65 (nI ne)) 66 (nI lk83)) (updA X86 2 K)) := mW_D hD
        obtain ⟨hlw103, hf104, hc105⟩ := h100 rfl
        have hlo106 : Low B X86 nd wr := (Low.trans hlo9 hlw103 (by omega) (by omega))
        have hf107 : Frs K T wr84 X86 nd (nd + 1) 20000 [(nd, 0)] := (Frs.same hf12 (by omega) (fun j i q1 q2 q3 q4 => (hlw103.1 j i q1 (by omega) (by omega))))
        have hn108 : Nd X86 nd 31 (-1) (-1) (-1) (-1) := (Nd.low hn11 hlw103 (by omega))
        have hm109 := Frs.mem hf104
        refine lv_istore_n (lv' := [(3, .int (nI r85)), (2, .int (-1)), (1, .int (nI nd)), (0, .ref h0)]) hx hb dX12_block_45 rfl hl (by decide) rfl (fun ls hl => ?_)
        refine lv_iload_n hx hb dX12_block_46 rfl (lv_at hl 1 rfl) ?_
        refine lv_iconst (v := (-1)) hx hb dX12_block_47 (by decide) ?_
        refine lv_icmp_ne (tgt := 61) hx hb dX12_block_48 (by decide) (fun c110 => absurd c110 (by decide)) (fun c110 => ?_)
        refine lv_aload_n hx hb dX12_block_51 rfl (lv_at hl 3 rfl) ?_
        refine r_get (v := .ref (a 12)) hx hb hown hq hE hP 20 47 tFX12_20 (by decide) pw_1442 rfl dX12_block_52 ?_
        refine lv_iload_n hx hb dX12_block_55 rfl (lv_at hl 2 rfl) ?_
        refine lv_iload_n hx hb dX12_block_56 rfl (lv_at hl 0 rfl) ?_
        refine r_sti (f := (X86 12)) (j := nd) hx hb hE hP hD hS 12 (ma_12 G a _) rfl (mas_12 G a _) (by omega) (by decide) dX12_block_57 (fun H locs hP hD hS => ?_)
        have hP : va_P G.1 pCl (mW G h0 a (upd (upd (upd (upd (upd (upd (upd F 15 0) 16 pl81) 27 (nI nd82)) 31 (nI wr84)) 64 (nI at79)) 65 (nI ne)) 66 (nI lk83)) (updA (stR X86 12 nd (nI r85)) 2 K)) _ := mW_to (F := F) (l1 := [(15, 0), (16, pl81), (27, (nI nd82)), (31, (nI wr84)), (64, (nI at79)), (65, (nI ne)), (66, (nI lk83))]) (l2 := [(15, 0), (16, pl81), (27, (nI nd82)), (31, (nI wr84)), (64, (nI at79)), (65, (nI ne)), (66, (nI lk83))]) (V := [0, pl81, (nI nd82), (nI wr84), (nI at79), (nI ne), (nI lk83), 0, pl81, (nI nd82), (nI wr84), (nI at79), (nI ne), (nI lk83)]) rfl rfl (show (updA (updA X86 2 K) 12 (upd (X86 12) nd (nI r85))) = (updA (stR X86 12 nd (nI r85)) 2 K) from updsA_eq2 (F := X86) (l1 := [(2, K), (12, (upd (X86 12) nd (nI r85)))]) (l2 := [(12, (upd (X86 12) nd (nI r85))), (2, K)]) (V := [K, (upd (X86 12) nd (nI r85)), (upd (X86 12) nd (nI r85)), K]) rfl rfl) hP
        have hD : va_D A (mW G h0 a (upd (upd (upd (upd (upd (upd (upd F 15 0) 16 pl81) 27 (nI nd82)) 31 (nI wr84)) 64 (nI at79)) 65 (nI ne)) 66 (nI lk83)) (updA (stR X86 12 nd (nI r85)) 2 K)) := mW_D hD
        have hkp111 : Kp B (stR X86 12 nd (nI r85)) wr84 T := (Kp.row hkp101 (by omega))
        have hlo112 : Low B (stR X86 12 nd (nI r85)) nd wr := (Low.st hlo106 (by omega) (by omega))
        have hf113 : Frs K T wr84 X86 nd nd82 20000 [(nd, 0), (r85, (280 + 4 * (20 - ne)))] := (Frs.join hf107 hf104 (by omega) (by omega) (by omega))
        have hn114 : Nd (stR X86 12 nd (nI r85)) nd 31 (nI r85) (-1) (-1) (-1) := (Nd.st hn108 (by omega))
        have hc115 : kcl 7 ((stR X86 12 nd (nI r85)) 9 r85) = true := by rw [st_ne (by omega)]; exact hc105
        have hf116 : FrL K T wr84 (stR X86 12 nd (nI r85)) nd nd82 20000 nd (281 + 4 * (20 - ne)) r85 2 := (FrL.head (s := 1) (k := 31) hf113 (by omega) (by omega) (by omega) (by omega) hn108.2.1 hn108.1 (by decide) ⟨by decide, hc105, by decide⟩ (lcl_7 hc105) (by omega) (by omega) (fun h => by omega))
        refine lv_goto (tgt := 68) hx hb dX12_block_58 (by decide) ?_
        refine lv_iload_n hx hb dX12_block_68 rfl (lv_at hl 0 rfl) ?_
        refine lv_istore_n (lv' := [(2, .int (nI r85)), (3, .int (nI r85)), (1, .int (nI nd)), (0, .ref h0)]) hx hb dX12_block_69 rfl hl (by decide) rfl (fun ls hl => ?_)
        refine lv_goto (tgt := 25) hx hb dX12_block_70 (by decide) ?_
        have loop_o : ∀ (n_o : Nat) (at2 : Nat) (nd2 : Nat) (wr2 : Nat) (lk2 : Nat) (pl2 : Int32) (X2 : Nat → Nat → Int32) (la : Nat) (xa2 : Int32) (H : Heap) (locs : List Loc) (ls : Array Slot), at2 ≤ T → T + 1 ≤ at2 + n_o → (at0 + 1 ≤ at2) → (nd ≤ nd2) → (nd2 + 2 * at0 ≤ nd + 2 * at2) → (wr ≤ wr2) → (wr2 + at0 ≤ wr + at2) → (lk ≤ lk2) → (lk2 ≤ 60) → (lk2 ≤ lk) → (nd ≤ la ∧ la < nd2) → (nd + 1 ≤ nd2) → (Kp B X2 wr2 T) → (Low B X2 nd wr) → (FrL K T wr2 X2 nd nd2 20000 nd (281 + 4 * (20 - ne)) la 2) → (Nd X2 nd 31 xa2 (-1) (-1) (-1)) → va_P G.1 pCl (mW G h0 a (upd (upd (upd (upd (upd (upd (upd F 15 0) 16 pl2) 27 (nI nd2)) 31 (nI wr2)) 64 (nI at2)) 65 (nI ne)) 66 (nI lk2)) (updA X2 2 K)) H → va_D A (mW G h0 a (upd (upd (upd (upd (upd (upd (upd F 15 0) 16 pl2) 27 (nI nd2)) 31 (nI wr2)) 64 (nI at2)) 65 (nI ne)) 66 (nI lk2)) (updA X2 2 K)) → va_S A s.heap H locs → lv_has ls 4 [(2, .int (nI la)), (1, .int (nI nd)), (0, .ref h0)] → W p l e (headSpec (Cond.code yX12_block cX12_block 4 (some .int) :: pw) ({ frames := (26 * n + 42), cells := 0, slots := 0, locals := (2000 * n + 4200) } : Room)).room s m ([.ref h0] : List Value).toArray below meth c H locs 0 0 (MQ below (pQ G A (fun (v : Option Value) (u : Nat × Nat × Int32 × Nat × Nat × Nat × Nat × (Nat → Nat → Int32)) => v = some (.int (nI u.2.2.2.2.2.2.1)) ∧ (at0 ≤ u.1) ∧ (u.1 ≤ T) ∧ (u.2.1 ≤ 100) ∧ (nd ≤ u.2.2.2.1) ∧ (u.2.2.2.1 + 2 * at0 ≤ nd + 2 * u.1 + 100000 * u.2.1) ∧ (u.2.2.2.1 + 2 * at0 ≤ nd + 2 * u.1 + (60 * (20 - ne) + 50)) ∧ (wr ≤ u.2.2.2.2.2.1) ∧ (u.2.2.2.2.2.1 + at0 ≤ wr + u.1) ∧ (lk ≤ u.2.2.2.2.1) ∧ (u.2.2.2.2.1 ≤ lk) ∧ (at0 + 1 ≤ u.1 + u.2.1) ∧ (u.2.2.2.2.2.2.1 ≤ u.2.2.2.1) ∧ (Kp B u.2.2.2.2.2.2.2 u.2.2.2.2.2.1 T) ∧ (If (u.2.1 = 0) (Low B u.2.2.2.2.2.2.2 nd wr ∧ Frs K T u.2.2.2.2.2.1 u.2.2.2.2.2.2.2 nd u.2.2.2.1 20000 [(u.2.2.2.2.2.2.1, (281 + 4 * (20 - ne)))] ∧ kcl 10 (u.2.2.2.2.2.2.2 9 u.2.2.2.2.2.2.1) = true))) (fun u => (mW G h0 a (upd (upd (upd (upd (upd (upd (upd F 15 (nI u.2.1)) 16 u.2.2.1) 27 (nI u.2.2.2.1)) 31 (nI u.2.2.2.2.2.1)) 64 (nI u.1)) 65 (nI ne)) 66 (nI u.2.2.2.2.1)) (updA u.2.2.2.2.2.2.2 2 K)))) ([.ref h0] : List Value).toArray s ({ frames := (26 * n + 42), cells := 0, slots := 0, locals := (2000 * n + 4200) } : Room).cells ({ frames := (26 * n + 42), cells := 0, slots := 0, locals := (2000 * n + 4200) } : Room).slots A) (F0 m 25 ls []) := by
          intro n_o
          induction n_o with
          | zero => intro at2 nd2 wr2 lk2 pl2 X2 la xa2 H locs ls hk_o hn_o; omega
          | succ n_o ih_o =>
            intro at2 nd2 wr2 lk2 pl2 X2 la xa2 H locs ls hk_o hn_o hl1 hl3 hl4 hl5 hl6 hl7 hl8 hl0 hla hnd2 hkp2 hlo2 hf2 hn2 hP hD hS hl
            refine lv_aload_n hx hb dX12_block_25 rfl (lv_at hl 2 rfl) ?_
            refine r_get (v := .int 0) hx hb hown hq hE hP 15 350 tFX12_15 (by decide) pw_1594 rfl dX12_block_26 ?_
            refine lv_if_ne (tgt := 73) hx hb dX12_block_29 (by decide) (fun c117 => absurd c117 (by decide)) (fun c117 => ?_)
            refine lv_aload_n hx hb dX12_block_32 rfl (lv_at hl 2 rfl) ?_
            have hP : va_P G.1 pCl (mW G h0 a (upd (upd (upd (upd (upd (upd (upd (upd (upd F 15 0) 16 pl2) 27 (nI nd2)) 31 (nI wr2)) 64 (nI at2)) 65 (nI ne)) 66 (nI lk2)) 15 (nI 0)) 64 (nI at2)) (updA (updA X2 2 K) 2 K)) _ := mW_to (F := F) (l1 := [(15, 0), (16, pl2), (27, (nI nd2)), (31, (nI wr2)), (64, (nI at2)), (65, (nI ne)), (66, (nI lk2))]) (l2 := [(15, 0), (16, pl2), (27, (nI nd2)), (31, (nI wr2)), (64, (nI at2)), (65, (nI ne)), (66, (nI lk2)), (15, (nI 0)), (64, (nI at2))]) (V := [(nI 0), pl2, (nI nd2), (nI wr2), (nI at2), (nI ne), (nI lk2), (nI 0), pl2, (nI nd2), (nI wr2), (nI at2), (nI ne), (nI lk2), (nI 0), (nI at2)]) rfl rfl (show (updA X2 2 K) = (updA (updA X2 2 K) 2 K) from updsA_eq2 (F := X2) (l1 := [(2, K)]) (l2 := [(2, K), (2, K)]) (V := [K, K, K]) rfl rfl) hP
            have hD : va_D A (mW G h0 a (upd (upd (upd (upd (upd (upd (upd (upd (upd F 15 0) 16 pl2) 27 (nI nd2)) 31 (nI wr2)) 64 (nI at2)) 65 (nI ne)) 66 (nI lk2)) 15 (nI 0)) 64 (nI at2)) (updA (updA X2 2 K) 2 K)) := mW_D hD
            refine pc_V0 (G := G) (As := []) (rest := []) hx hb hml hown hq hE hX pX0_al hP hD hS hA hl.1 (R_kind l G h0 a (upd (upd (upd (upd (upd (upd (upd F 15 0) 16 pl2) 27 (nI nd2)) 31 (nI wr2)) 64 (nI at2)) 65 (nI ne)) 66 (nI lk2)) (updA X2 2 K) at2 T 0 K (by omega) (by omega) hK (by omega)) (gV pw_1626 pw_1627 pw_1628 pw_1523 pw_1591) hV_X12_kind 0 9 rfl rfl rfl rfl (Nat.le_of_ble_eq_true rfl) dX12_block_33 ⟨Nat.le_of_ble_eq_true rfl, Nat.le_of_ble_eq_true rfl⟩ ⟨(by show 2 + 1 ≤ (26 * n + 42); omega), (by show 8 + (1 + 11) + 60 ≤ (2000 * n + 4200); omega)⟩ (fun v120 u118 H locs hw119 hP hD hS => ?_)
            obtain rfl : v120 = some (.int (K at2)) := hw119
            have hP : va_P G.1 pCl (mW G h0 a (upd (upd (upd (upd (upd (upd (upd F 15 0) 16 pl2) 27 (nI nd2)) 31 (nI wr2)) 64 (nI at2)) 65 (nI ne)) 66 (nI lk2)) (updA X2 2 K)) _ := mW_to (F := F) (l1 := [(15, 0), (16, pl2), (27, (nI nd2)), (31, (nI wr2)), (64, (nI at2)), (65, (nI ne)), (66, (nI lk2)), (15, (nI 0)), (64, (nI at2))]) (l2 := [(15, 0), (16, pl2), (27, (nI nd2)), (31, (nI wr2)), (64, (nI at2)), (65, (nI ne)), (66, (nI lk2))]) (V := [0, pl2, (nI nd2), (nI wr2), (nI at2), (nI ne), (nI lk2), 0, (nI at2), 0, pl2, (nI nd2), (nI wr2), (nI at2), (nI ne), (nI lk2)]) rfl rfl (show (updA (updA X2 2 K) 2 K) = (updA X2 2 K) from updsA_eq2 (F := X2) (l1 := [(2, K), (2, K)]) (l2 := [(2, K)]) (V := [K, K, K]) rfl rfl) hP
            have hD : va_D A (mW G h0 a (upd (upd (upd (upd (upd (upd (upd F 15 0) 16 pl2) 27 (nI nd2)) 31 (nI wr2)) 64 (nI at2)) 65 (nI ne)) 66 (nI lk2)) (updA X2 2 K)) := mW_D hD
            refine W.widen (k := 0) (n := 0) (Nat.le_of_ble_eq_true rfl) (Nat.le_of_ble_eq_true rfl) ?_
            refine W.eq (g2 := F0 m 36 ls [.int (K at2)]) rfl ?_
            refine lv_bipush (v := 125) hx hb dX12_block_36 (by decide) ?_
            refine lv_icmp_eq (tgt := 73) hx hb dX12_block_38 (by decide) (fun c121 => ?_) (fun c121 => ?_)
            · refine lv_aload_n hx hb dX12_block_73 rfl (lv_at hl 2 rfl) ?_
              refine lv_bipush (v := 125) hx hb dX12_block_74 (by decide) ?_
              have hP : va_P G.1 pCl (mW G h0 a (upd (upd (upd (upd (upd (upd (upd (upd (upd F 15 0) 16 pl2) 27 (nI nd2)) 31 (nI wr2)) 64 (nI at2)) 65 (nI ne)) 66 (nI lk2)) 15 (nI 0)) 64 (nI at2)) (updA (updA X2 2 K) 2 K)) _ := mW_to (F := F) (l1 := [(15, 0), (16, pl2), (27, (nI nd2)), (31, (nI wr2)), (64, (nI at2)), (65, (nI ne)), (66, (nI lk2))]) (l2 := [(15, 0), (16, pl2), (27, (nI nd2)), (31, (nI wr2)), (64, (nI at2)), (65, (nI ne)), (66, (nI lk2)), (15, (nI 0)), (64, (nI at2))]) (V := [(nI 0), pl2, (nI nd2), (nI wr2), (nI at2), (nI ne), (nI lk2), (nI 0), pl2, (nI nd2), (nI wr2), (nI at2), (nI ne), (nI lk2), (nI 0), (nI at2)]) rfl rfl (show (updA X2 2 K) = (updA (updA X2 2 K) 2 K) from updsA_eq2 (F := X2) (l1 := [(2, K)]) (l2 := [(2, K), (2, K)]) (V := [K, K, K]) rfl rfl) hP
              have hD : va_D A (mW G h0 a (upd (upd (upd (upd (upd (upd (upd (upd (upd F 15 0) 16 pl2) 27 (nI nd2)) 31 (nI wr2)) 64 (nI at2)) 65 (nI ne)) 66 (nI lk2)) 15 (nI 0)) 64 (nI at2)) (updA (updA X2 2 K) 2 K)) := mW_D hD
              refine pc_V0 (G := G) (As := [.int 125]) (rest := []) hx hb hml hown hq hE hX pX0_al hP hD hS hA hl.1 (R_take l G h0 a (upd (upd (upd (upd (upd (upd (upd F 15 0) 16 pl2) 27 (nI nd2)) 31 (nI wr2)) 64 (nI at2)) 65 (nI ne)) 66 (nI lk2)) (updA X2 2 K) at2 T 0 K 125 (by omega) (by omega) hK (by omega) (by decide) (by decide)) (gV pw_1614 pw_1615 pw_1616 pw_1523 pw_1601) hV_X12_take 0 9 rfl rfl rfl rfl (Nat.le_of_ble_eq_true rfl) dX12_block_76 ⟨Nat.le_of_ble_eq_true rfl, Nat.le_of_ble_eq_true rfl⟩ ⟨(by show 4 + 1 ≤ (26 * n + 42); omega), (by show 8 + (2 + 11) + 103 ≤ (2000 * n + 4200); omega)⟩ (fun v124 u122 H locs hw123 hP hD hS => ?_)
              obtain ⟨at125, fa126, pl127⟩ := u122
              obtain ⟨hw123, h128, h129, h130, h131, h132, h133, h134, h135⟩ := hw123
              have h128 : at2 ≤ at125 := h128
              have h129 : at125 ≤ T := h129
              have h130 : 0 ≤ fa126 := h130
              have h131 : fa126 ≤ 100 := h131
              have h132 : If (0 < 0) (at125 = at2 ∧ fa126 = 0) := h132
              have h133 : at125 ≤ at2 + 1 := h133
              have h134 : at2 + 1 ≤ at125 + fa126 := h134
              have h135 : If (fa126 = 0) (K at2 = 125) := h135
              obtain rfl : v124 = none := hw123
              have hP : va_P G.1 pCl (mW G h0 a (upd (upd (upd (upd (upd (upd (upd F 15 (nI fa126)) 16 pl127) 27 (nI nd2)) 31 (nI wr2)) 64 (nI at125)) 65 (nI ne)) 66 (nI lk2)) (updA X2 2 K)) _ := mW_to (F := F) (l1 := [(15, 0), (16, pl2), (27, (nI nd2)), (31, (nI wr2)), (64, (nI at2)), (65, (nI ne)), (66, (nI lk2)), (15, (nI fa126)), (16, pl127), (64, (nI at125))]) (l2 := [(15, (nI fa126)), (16, pl127), (27, (nI nd2)), (31, (nI wr2)), (64, (nI at125)), (65, (nI ne)), (66, (nI lk2))]) (V := [(nI fa126), pl127, (nI nd2), (nI wr2), (nI at125), (nI ne), (nI lk2), (nI fa126), pl127, (nI at125), (nI fa126), pl127, (nI nd2), (nI wr2), (nI at125), (nI ne), (nI lk2)]) rfl rfl (show (updA (updA X2 2 K) 2 K) = (updA X2 2 K) from updsA_eq2 (F := X2) (l1 := [(2, K), (2, K)]) (l2 := [(2, K)]) (V := [K, K, K]) rfl rfl) hP
              have hD : va_D A (mW G h0 a (upd (upd (upd (upd (upd (upd (upd F 15 (nI fa126)) 16 pl127) 27 (nI nd2)) 31 (nI wr2)) 64 (nI at125)) 65 (nI ne)) 66 (nI lk2)) (updA X2 2 K)) := mW_D hD
              refine W.widen (k := 0) (n := 0) (Nat.le_of_ble_eq_true rfl) (Nat.le_of_ble_eq_true rfl) ?_
              refine W.eq (g2 := F0 m 79 ls []) rfl ?_
              rcases Nat.eq_zero_or_pos fa126 with e136 | e136
              · subst e136
                have hP : va_P G.1 pCl (mW G h0 a (upd (upd (upd (upd (upd (upd (upd F 15 0) 16 pl127) 27 (nI nd2)) 31 (nI wr2)) 64 (nI at125)) 65 (nI ne)) 66 (nI lk2)) (updA X2 2 K)) _ := hP
                have hD : va_D A (mW G h0 a (upd (upd (upd (upd (upd (upd (upd F 15 0) 16 pl127) 27 (nI nd2)) 31 (nI wr2)) 64 (nI at125)) 65 (nI ne)) 66 (nI lk2)) (updA X2 2 K)) := mW_D hD
                refine lv_iload_n hx hb dX12_block_79 rfl (lv_at hl 1 rfl) ?_
                have hf137 : Frs K T wr2 X2 nd nd2 20000 [(nd, (281 + 4 * (20 - ne)))] := (FrL.toFrs hf2)
                have hz138 : at0 ≤ at125 := (by omega)
                have hz139 : at125 ≤ T := (by omega)
                have hz140 : 0 ≤ 100 := (by omega)
                have hz141 : nd ≤ nd2 := (by omega)
                have hz142 : nd2 + 2 * at0 ≤ nd + 2 * at125 + 100000 * 0 := (by omega)
                have hz143 : nd2 + 2 * at0 ≤ nd + 2 * at125 + (60 * (20 - ne) + 50) := (by omega)
                have hz144 : wr ≤ wr2 := (by omega)
                have hz145 : wr2 + at0 ≤ wr + at125 := (by omega)
                have hz146 : lk ≤ lk2 := (by omega)
                have hz147 : lk2 ≤ lk := (by omega)
                have hz148 : at0 + 1 ≤ at125 + 0 := (by omega)
                have hz149 : nd ≤ nd2 := (by omega)
                have hz150 : Kp B X2 wr2 T := hkp2
                have hz151 : If (0 = 0) (Low B X2 nd wr ∧ Frs K T wr2 X2 nd nd2 20000 [(nd, (281 + 4 * (20 - ne)))] ∧ kcl 10 (X2 9 nd) = true) := (fun _ => ⟨hlo2, Frs.up hf137 (by omega), (by rw [hn2.1]; decide)⟩)
                have hP : va_P G.1 pCl (mW G h0 a (upd (upd (upd (upd (upd (upd (upd F 15 (nI 0)) 16 pl127) 27 (nI nd2)) 31 (nI wr2)) 64 (nI at125)) 65 (nI ne)) 66 (nI lk2)) (updA X2 2 K)) _ := mW_to (F := F) (l1 := [(15, 0), (16, pl127), (27, (nI nd2)), (31, (nI wr2)), (64, (nI at125)), (65, (nI ne)), (66, (nI lk2))]) (l2 := [(15, (nI 0)), (16, pl127), (27, (nI nd2)), (31, (nI wr2)), (64, (nI at125)), (65, (nI ne)), (66, (nI lk2))]) (V := [(nI 0), pl127, (nI nd2), (nI wr2), (nI at125), (nI ne), (nI lk2), (nI 0), pl127, (nI nd2), (nI wr2), (nI at125), (nI ne), (nI lk2)]) rfl rfl rfl hP
                have hD : va_D A (mW G h0 a (upd (upd (upd (upd (upd (upd (upd F 15 (nI 0)) 16 pl127) 27 (nI nd2)) 31 (nI wr2)) 64 (nI at125)) 65 (nI ne)) 66 (nI lk2)) (updA X2 2 K)) := mW_D hD
                exact W.iret (v := (nI nd)) hx hb hr (fun t9 ht9 hW9 => ⟨⟨_, (at125, 0, pl127, nd2, lk2, wr2, nd, X2), rfl, ⟨rfl, hz138, hz139, hz140, hz141, hz142, hz143, hz144, hz145, hz146, hz147, hz148, hz149, hz150, hz151⟩, by rw [ht9]; exact hP, hD⟩, hS.F ht9⟩) hS.2.2 dX12_block_80
              · have e136 := e136
                refine lv_iload_n hx hb dX12_block_79 rfl (lv_at hl 1 rfl) ?_
                have hz152 : at0 ≤ at125 := (by omega)
                have hz153 : at125 ≤ T := (by omega)
                have hz154 : fa126 ≤ 100 := (by omega)
                have hz155 : nd ≤ nd2 := (by omega)
                have hz156 : nd2 + 2 * at0 ≤ nd + 2 * at125 + 100000 * fa126 := (by omega)
                have hz157 : nd2 + 2 * at0 ≤ nd + 2 * at125 + (60 * (20 - ne) + 50) := (by omega)
                have hz158 : wr ≤ wr2 := (by omega)
                have hz159 : wr2 + at0 ≤ wr + at125 := (by omega)
                have hz160 : lk ≤ lk2 := (by omega)
                have hz161 : lk2 ≤ lk := (by omega)
                have hz162 : at0 + 1 ≤ at125 + fa126 := (by omega)
                have hz163 : nd ≤ nd2 := (by omega)
                have hz164 : Kp B X2 wr2 T := hkp2
                have hz165 : If (fa126 = 0) (Low B X2 nd wr ∧ Frs K T wr2 X2 nd nd2 20000 [(nd, (281 + 4 * (20 - ne)))] ∧ kcl 10 (X2 9 nd) = true) := (fun e => absurd e (by omega))
                have hP : va_P G.1 pCl (mW G h0 a (upd (upd (upd (upd (upd (upd (upd F 15 (nI fa126)) 16 pl127) 27 (nI nd2)) 31 (nI wr2)) 64 (nI at125)) 65 (nI ne)) 66 (nI lk2)) (updA X2 2 K)) _ := hP
                have hD : va_D A (mW G h0 a (upd (upd (upd (upd (upd (upd (upd F 15 (nI fa126)) 16 pl127) 27 (nI nd2)) 31 (nI wr2)) 64 (nI at125)) 65 (nI ne)) 66 (nI lk2)) (updA X2 2 K)) := mW_D hD
                exact W.iret (v := (nI nd)) hx hb hr (fun t9 ht9 hW9 => ⟨⟨_, (at125, fa126, pl127, nd2, lk2, wr2, nd, X2), rfl, ⟨rfl, hz152, hz153, hz154, hz155, hz156, hz157, hz158, hz159, hz160, hz161, hz162, hz163, hz164, hz165⟩, by rw [ht9]; exact hP, hD⟩, hS.F ht9⟩) hS.2.2 dX12_block_80
            · refine lv_aload_n hx hb dX12_block_41 rfl (lv_at hl 2 rfl) ?_
              have hP : va_P G.1 pCl (mW G h0 a (upd (upd (upd (upd (upd (upd (upd (upd (upd (upd (upd (upd (upd F 15 0) 16 pl2) 27 (nI nd2)) 31 (nI wr2)) 64 (nI at2)) 65 (nI ne)) 66 (nI lk2)) 15 0) 27 (nI nd2)) 31 (nI wr2)) 64 (nI at2)) 65 (nI ne)) 66 (nI lk2)) (updA X2 2 K)) _ := mW_to (F := F) (l1 := [(15, 0), (16, pl2), (27, (nI nd2)), (31, (nI wr2)), (64, (nI at2)), (65, (nI ne)), (66, (nI lk2))]) (l2 := [(15, 0), (16, pl2), (27, (nI nd2)), (31, (nI wr2)), (64, (nI at2)), (65, (nI ne)), (66, (nI lk2)), (15, 0), (27, (nI nd2)), (31, (nI wr2)), (64, (nI at2)), (65, (nI ne)), (66, (nI lk2))]) (V := [0, pl2, (nI nd2), (nI wr2), (nI at2), (nI ne), (nI lk2), 0, pl2, (nI nd2), (nI wr2), (nI at2), (nI ne), (nI lk2), 0, (nI nd2), (nI wr2), (nI at2), (nI ne), (nI lk2)]) rfl rfl rfl hP
              have hD : va_D A (mW G h0 a (upd (upd (upd (upd (upd (upd (upd (upd (upd (upd (upd (upd (upd F 15 0) 16 pl2) 27 (nI nd2)) 31 (nI wr2)) 64 (nI at2)) 65 (nI ne)) 66 (nI lk2)) 15 0) 27 (nI nd2)) 31 (nI wr2)) 64 (nI at2)) 65 (nI ne)) 66 (nI lk2)) (updA X2 2 K)) := mW_D hD
              refine pc_V0 (G := G) (As := []) (rest := []) hx hb hml hown hq hE hX pX0_al hP hD hS hA hl.1 (hp h0 a (upd (upd (upd (upd (upd (upd (upd F 15 0) 16 pl2) 27 (nI nd2)) 31 (nI wr2)) 64 (nI at2)) 65 (nI ne)) 66 (nI lk2)) X2 at2 T ne nd2 wr2 lk2 K (by omega) (by omega) hK (by omega) (by omega) (by omega) (by omega) (hkp2).2 (by omega)) (gV pw_1689 pw_1690 pw_1691 pw_1523 pw_1702) hV_X12_part 0 9 rfl rfl rfl rfl (Nat.le_of_ble_eq_true rfl) dX12_block_42 ⟨Nat.le_of_ble_eq_true rfl, Nat.le_of_ble_eq_true rfl⟩ ⟨(by show (26 * n + 41) + 1 ≤ (26 * n + 42); omega), (by show 8 + (4 + 11) + (2000 * n + 4100) ≤ (2000 * n + 4200); omega)⟩ (fun v168 u166 H locs hw167 hP hD hS => ?_)
              obtain ⟨at169, fa170, pl171, nd172, lk173, wr174, r175, X176⟩ := u166
              obtain ⟨hw167, h177, h178, h179, h180, h181, h182, h183, h184, h185, h186, h187, h188, h189, h190⟩ := hw167
              have h177 : at2 ≤ at169 := h177
              have h178 : at169 ≤ T := h178
              have h179 : fa170 ≤ 100 := h179
              have h180 : nd2 ≤ nd172 := h180
              have h181 : nd172 + 2 * at2 ≤ nd2 + 2 * at169 + 100000 * fa170 := h181
              have h182 : nd172 + 2 * at2 ≤ nd2 + 2 * at169 + (60 * (20 - ne) + 40) := h182
              have h183 : wr2 ≤ wr174 := h183
              have h184 : wr174 + at2 ≤ wr2 + at169 := h184
              have h185 : lk2 ≤ lk173 := h185
              have h186 : lk173 ≤ lk2 := h186
              have h187 : at2 + 1 ≤ at169 + fa170 := h187
              have h188 : r175 ≤ nd172 := h188
              have h189 : Kp X2 X176 wr174 T := h189
              have h190 : If (fa170 = 0) (Low X2 X176 nd2 wr2 ∧ Frs K T wr174 X176 nd2 nd172 20000 [(r175, (280 + 4 * (20 - ne)))] ∧ kcl 7 (X176 9 r175) = true) := h190
              obtain rfl : v168 = some (.int (nI r175)) := hw167
              have hP : va_P G.1 pCl (mW G h0 a (upd (upd (upd (upd (upd (upd (upd F 15 (nI fa170)) 16 pl171) 27 (nI nd172)) 31 (nI wr174)) 64 (nI at169)) 65 (nI ne)) 66 (nI lk173)) (updA X176 2 K)) _ := mW_to (F := F) (l1 := [(15, 0), (16, pl2), (27, (nI nd2)), (31, (nI wr2)), (64, (nI at2)), (65, (nI ne)), (66, (nI lk2)), (15, (nI fa170)), (16, pl171), (27, (nI nd172)), (31, (nI wr174)), (64, (nI at169)), (65, (nI ne)), (66, (nI lk173))]) (l2 := [(15, (nI fa170)), (16, pl171), (27, (nI nd172)), (31, (nI wr174)), (64, (nI at169)), (65, (nI ne)), (66, (nI lk173))]) (V := [(nI fa170), pl171, (nI nd172), (nI wr174), (nI at169), (nI ne), (nI lk173), (nI fa170), pl171, (nI nd172), (nI wr174), (nI at169), (nI ne), (nI lk173), (nI fa170), pl171, (nI nd172), (nI wr174), (nI at169), (nI ne), (nI lk173)]) rfl rfl rfl hP
              have hD : va_D A (mW G h0 a (upd (upd (upd (upd (upd (upd (upd F 15 (nI fa170)) 16 pl171) 27 (nI nd172)) 31 (nI wr174)) 64 (nI at169)) 65 (nI ne)) 66 (nI lk173)) (updA X176 2 K)) := mW_D hD
              refine W.widen (k := 0) (n := 0) (Nat.le_of_ble_eq_true rfl) (Nat.le_of_ble_eq_true rfl) ?_
              refine W.eq (g2 := F0 m 45 ls [.int (nI r175)]) rfl ?_
              have hkp191 : Kp B X176 wr174 T := (Kp.trans hkp2 h189)
              rcases Nat.eq_zero_or_pos fa170 with e192 | e192
              · subst e192
                have hP : va_P G.1 pCl (mW G h0 a (upd (upd (upd (upd (upd (upd (upd F 15 0) 16 pl171) 27 (nI nd172)) 31 (nI wr174)) 64 (nI at169)) 65 (nI ne)) 66 (nI lk173)) (updA X176 2 K)) _ := hP
                have hD : va_D A (mW G h0 a (upd (upd (upd (upd (upd (upd (upd F 15 0) 16 pl171) 27 (nI nd172)) 31 (nI wr174)) 64 (nI at169)) 65 (nI ne)) 66 (nI lk173)) (updA X176 2 K)) := mW_D hD
                obtain ⟨hlw193, hf194, hc195⟩ := h190 rfl
                have hlo196 : Low B X176 nd wr := (Low.trans hlo2 hlw193 (by omega) (by omega))
                have hf197 : FrL K T wr174 X176 nd nd2 20000 nd (281 + 4 * (20 - ne)) la 2 := (FrL.same hf2 (by omega) (fun j i q1 q2 q3 q4 => (hlw193.1 j i q1 (by omega) (by omega))))
                have hn198 : Nd X176 nd 31 xa2 (-1) (-1) (-1) := (Nd.low hn2 hlw193 (by omega))
                have hm199 := Frs.mem hf194
                refine lv_istore_n (lv' := [(3, .int (nI r175)), (2, .int (nI la)), (1, .int (nI nd)), (0, .ref h0)]) hx hb dX12_block_45 rfl hl (by decide) rfl (fun ls hl => ?_)
                refine lv_iload_n hx hb dX12_block_46 rfl (lv_at hl 1 rfl) ?_
                refine lv_iconst (v := (-1)) hx hb dX12_block_47 (by decide) ?_
                refine lv_icmp_ne (tgt := 61) hx hb dX12_block_48 (by decide) (fun c200 => ?_) (fun c200 => absurd c200 (nI_m1 (by omega)))
                refine lv_aload_n hx hb dX12_block_61 rfl (lv_at hl 3 rfl) ?_
                refine r_get (v := .ref (a 16)) hx hb hown hq hE hP 24 59 tFX12_24 (by decide) pw_1446 rfl dX12_block_62 ?_
                refine lv_iload_n hx hb dX12_block_65 rfl (lv_at hl 1 rfl) ?_
                refine lv_iload_n hx hb dX12_block_66 rfl (lv_at hl 0 rfl) ?_
                refine r_sti (f := (X176 16)) (j := la) hx hb hE hP hD hS 16 (ma_16 G a _) rfl (mas_16 G a _) (by omega) (by decide) dX12_block_67 (fun H locs hP hD hS => ?_)
                have hP : va_P G.1 pCl (mW G h0 a (upd (upd (upd (upd (upd (upd (upd F 15 0) 16 pl171) 27 (nI nd172)) 31 (nI wr174)) 64 (nI at169)) 65 (nI ne)) 66 (nI lk173)) (updA (stR X176 16 la (nI r175)) 2 K)) _ := mW_to (F := F) (l1 := [(15, 0), (16, pl171), (27, (nI nd172)), (31, (nI wr174)), (64, (nI at169)), (65, (nI ne)), (66, (nI lk173))]) (l2 := [(15, 0), (16, pl171), (27, (nI nd172)), (31, (nI wr174)), (64, (nI at169)), (65, (nI ne)), (66, (nI lk173))]) (V := [0, pl171, (nI nd172), (nI wr174), (nI at169), (nI ne), (nI lk173), 0, pl171, (nI nd172), (nI wr174), (nI at169), (nI ne), (nI lk173)]) rfl rfl (show (updA (updA X176 2 K) 16 (upd (X176 16) la (nI r175))) = (updA (stR X176 16 la (nI r175)) 2 K) from updsA_eq2 (F := X176) (l1 := [(2, K), (16, (upd (X176 16) la (nI r175)))]) (l2 := [(16, (upd (X176 16) la (nI r175))), (2, K)]) (V := [K, (upd (X176 16) la (nI r175)), (upd (X176 16) la (nI r175)), K]) rfl rfl) hP
                have hD : va_D A (mW G h0 a (upd (upd (upd (upd (upd (upd (upd F 15 0) 16 pl171) 27 (nI nd172)) 31 (nI wr174)) 64 (nI at169)) 65 (nI ne)) 66 (nI lk173)) (updA (stR X176 16 la (nI r175)) 2 K)) := mW_D hD
                have hkp201 : Kp B (stR X176 16 la (nI r175)) wr174 T := (Kp.row hkp191 (by omega))
                have hlo202 : Low B (stR X176 16 la (nI r175)) nd wr := (Low.st hlo196 (by omega) (by omega))
                have hn203 : Nd (stR X176 16 la (nI r175)) nd 31 xa2 (-1) (-1) (-1) := (Nd.stn hn198 (by omega))
                have hc204 : kcl 7 ((stR X176 16 la (nI r175)) 9 r175) = true := by rw [st_ne (by omega)]; exact hc195
                have hf205 : FrL K T wr174 (stR X176 16 la (nI r175)) nd nd172 20000 nd (281 + 4 * (20 - ne)) r175 2 := (FrL.next hf197 hf194 (by omega) (by omega) (by omega) (by omega) (lcl_7 hc195) (by omega) (by omega) (fun h => by omega))
                refine lv_iload_n hx hb dX12_block_68 rfl (lv_at hl 0 rfl) ?_
                refine lv_istore_n (lv' := [(2, .int (nI r175)), (3, .int (nI r175)), (1, .int (nI nd)), (0, .ref h0)]) hx hb dX12_block_69 rfl hl (by decide) rfl (fun ls hl => ?_)
                refine lv_goto (tgt := 25) hx hb dX12_block_70 (by decide) ?_
                have hP : va_P G.1 pCl (mW G h0 a (upd (upd (upd (upd (upd (upd (upd F 15 0) 16 pl171) 27 (nI nd172)) 31 (nI wr174)) 64 (nI at169)) 65 (nI ne)) 66 (nI lk173)) (updA (stR X176 16 la (nI r175)) 2 K)) _ := hP
                have hD : va_D A (mW G h0 a (upd (upd (upd (upd (upd (upd (upd F 15 0) 16 pl171) 27 (nI nd172)) 31 (nI wr174)) 64 (nI at169)) 65 (nI ne)) 66 (nI lk173)) (updA (stR X176 16 la (nI r175)) 2 K)) := mW_D hD
                exact ih_o at169 nd172 wr174 lk173 pl171 (stR X176 16 la (nI r175)) r175 xa2 _ _ _ (by omega) (by omega) (by omega) (by omega) (by omega) (by omega) (by omega) (by omega) (by omega) (by omega) (by omega) (by omega) hkp201 hlo202 hf205 hn203 hP hD hS (lv_sub hl [0, 2, 3] rfl)
              · have e192 := e192
                refine lv_istore_n (lv' := [(3, .int (nI r175)), (2, .int (nI la)), (1, .int (nI nd)), (0, .ref h0)]) hx hb dX12_block_45 rfl hl (by decide) rfl (fun ls hl => ?_)
                refine lv_iload_n hx hb dX12_block_46 rfl (lv_at hl 1 rfl) ?_
                refine lv_iconst (v := (-1)) hx hb dX12_block_47 (by decide) ?_
                refine lv_icmp_ne (tgt := 61) hx hb dX12_block_48 (by decide) (fun c206 => ?_) (fun c206 => absurd c206 (nI_m1 (by omega)))
                refine lv_aload_n hx hb dX12_block_61 rfl (lv_at hl 3 rfl) ?_
                refine r_get (v := .ref (a 16)) hx hb hown hq hE hP 24 59 tFX12_24 (by decide) pw_1446 rfl dX12_block_62 ?_
                refine lv_iload_n hx hb dX12_block_65 rfl (lv_at hl 1 rfl) ?_
                refine lv_iload_n hx hb dX12_block_66 rfl (lv_at hl 0 rfl) ?_
                refine r_sti (f := (X176 16)) (j := la) hx hb hE hP hD hS 16 (ma_16 G a _) rfl (mas_16 G a _) (by omega) (by decide) dX12_block_67 (fun H locs hP hD hS => ?_)
                have hP : va_P G.1 pCl (mW G h0 a (upd (upd (upd (upd (upd (upd (upd F 15 (nI fa170)) 16 pl171) 27 (nI nd172)) 31 (nI wr174)) 64 (nI at169)) 65 (nI ne)) 66 (nI lk173)) (updA (stR X176 16 la (nI r175)) 2 K)) _ := mW_to (F := F) (l1 := [(15, (nI fa170)), (16, pl171), (27, (nI nd172)), (31, (nI wr174)), (64, (nI at169)), (65, (nI ne)), (66, (nI lk173))]) (l2 := [(15, (nI fa170)), (16, pl171), (27, (nI nd172)), (31, (nI wr174)), (64, (nI at169)), (65, (nI ne)), (66, (nI lk173))]) (V := [(nI fa170), pl171, (nI nd172), (nI wr174), (nI at169), (nI ne), (nI lk173), (nI fa170), pl171, (nI nd172), (nI wr174), (nI at169), (nI ne), (nI lk173)]) rfl rfl (show (updA (updA X176 2 K) 16 (upd (X176 16) la (nI r175))) = (updA (stR X176 16 la (nI r175)) 2 K) from updsA_eq2 (F := X176) (l1 := [(2, K), (16, (upd (X176 16) la (nI r175)))]) (l2 := [(16, (upd (X176 16) la (nI r175))), (2, K)]) (V := [K, (upd (X176 16) la (nI r175)), (upd (X176 16) la (nI r175)), K]) rfl rfl) hP
                have hD : va_D A (mW G h0 a (upd (upd (upd (upd (upd (upd (upd F 15 (nI fa170)) 16 pl171) 27 (nI nd172)) 31 (nI wr174)) 64 (nI at169)) 65 (nI ne)) 66 (nI lk173)) (updA (stR X176 16 la (nI r175)) 2 K)) := mW_D hD
                have hkp207 : Kp B (stR X176 16 la (nI r175)) wr174 T := (Kp.row hkp191 (by omega))
                refine lv_iload_n hx hb dX12_block_68 rfl (lv_at hl 0 rfl) ?_
                refine lv_istore_n (lv' := [(2, .int (nI r175)), (3, .int (nI r175)), (1, .int (nI nd)), (0, .ref h0)]) hx hb dX12_block_69 rfl hl (by decide) rfl (fun ls hl => ?_)
                refine lv_goto (tgt := 25) hx hb dX12_block_70 (by decide) ?_
                refine lv_aload_n hx hb dX12_block_25 rfl (lv_at hl 3 rfl) ?_
                refine r_get (v := .int (nI fa170)) hx hb hown hq hE hP 15 350 tFX12_15 (by decide) pw_1594 rfl dX12_block_26 ?_
                refine lv_if_ne (tgt := 73) hx hb dX12_block_29 (by decide) (fun c208 => ?_) (fun c208 => (by have n209 : fa170 = 0 := (nI_eq (a := fa170) (b := 0) (by omega) (by omega)).mp c208; omega))
                refine lv_aload_n hx hb dX12_block_73 rfl (lv_at hl 3 rfl) ?_
                refine lv_bipush (v := 125) hx hb dX12_block_74 (by decide) ?_
                have hP : va_P G.1 pCl (mW G h0 a (upd (upd (upd (upd (upd (upd (upd (upd (upd F 15 (nI fa170)) 16 pl171) 27 (nI nd172)) 31 (nI wr174)) 64 (nI at169)) 65 (nI ne)) 66 (nI lk173)) 15 (nI fa170)) 64 (nI at169)) (updA (updA (stR X176 16 la (nI r175)) 2 K) 2 K)) _ := mW_to (F := F) (l1 := [(15, (nI fa170)), (16, pl171), (27, (nI nd172)), (31, (nI wr174)), (64, (nI at169)), (65, (nI ne)), (66, (nI lk173))]) (l2 := [(15, (nI fa170)), (16, pl171), (27, (nI nd172)), (31, (nI wr174)), (64, (nI at169)), (65, (nI ne)), (66, (nI lk173)), (15, (nI fa170)), (64, (nI at169))]) (V := [(nI fa170), pl171, (nI nd172), (nI wr174), (nI at169), (nI ne), (nI lk173), (nI fa170), pl171, (nI nd172), (nI wr174), (nI at169), (nI ne), (nI lk173), (nI fa170), (nI at169)]) rfl rfl (show (updA (stR X176 16 la (nI r175)) 2 K) = (updA (updA (stR X176 16 la (nI r175)) 2 K) 2 K) from updsA_eq2 (F := X176) (l1 := [(16, (upd (X176 16) la (nI r175))), (2, K)]) (l2 := [(16, (upd (X176 16) la (nI r175))), (2, K), (2, K)]) (V := [(upd (X176 16) la (nI r175)), K, (upd (X176 16) la (nI r175)), K, K]) rfl rfl) hP
                have hD : va_D A (mW G h0 a (upd (upd (upd (upd (upd (upd (upd (upd (upd F 15 (nI fa170)) 16 pl171) 27 (nI nd172)) 31 (nI wr174)) 64 (nI at169)) 65 (nI ne)) 66 (nI lk173)) 15 (nI fa170)) 64 (nI at169)) (updA (updA (stR X176 16 la (nI r175)) 2 K) 2 K)) := mW_D hD
                refine pc_V0 (G := G) (As := [.int 125]) (rest := []) hx hb hml hown hq hE hX pX0_al hP hD hS hA hl.1 (R_take l G h0 a (upd (upd (upd (upd (upd (upd (upd F 15 (nI fa170)) 16 pl171) 27 (nI nd172)) 31 (nI wr174)) 64 (nI at169)) 65 (nI ne)) 66 (nI lk173)) (updA (stR X176 16 la (nI r175)) 2 K) at169 T fa170 K 125 (by omega) (by omega) hK (by omega) (by decide) (by decide)) (gV pw_1614 pw_1615 pw_1616 pw_1523 pw_1601) hV_X12_take 0 9 rfl rfl rfl rfl (Nat.le_of_ble_eq_true rfl) dX12_block_76 ⟨Nat.le_of_ble_eq_true rfl, Nat.le_of_ble_eq_true rfl⟩ ⟨(by show 4 + 1 ≤ (26 * n + 42); omega), (by show 8 + (2 + 11) + 103 ≤ (2000 * n + 4200); omega)⟩ (fun v212 u210 H locs hw211 hP hD hS => ?_)
                obtain ⟨at213, fa214, pl215⟩ := u210
                obtain ⟨hw211, h216, h217, h218, h219, h220, h221, h222, h223⟩ := hw211
                have h216 : at169 ≤ at213 := h216
                have h217 : at213 ≤ T := h217
                have h218 : fa170 ≤ fa214 := h218
                have h219 : fa214 ≤ 100 := h219
                have h220 : If (0 < fa170) (at213 = at169 ∧ fa214 = fa170) := h220
                have h221 : at213 ≤ at169 + 1 := h221
                have h222 : at169 + 1 ≤ at213 + fa214 := h222
                have h223 : If (fa214 = 0) (K at169 = 125) := h223
                obtain rfl : v212 = none := hw211
                have hP : va_P G.1 pCl (mW G h0 a (upd (upd (upd (upd (upd (upd (upd F 15 (nI fa214)) 16 pl215) 27 (nI nd172)) 31 (nI wr174)) 64 (nI at213)) 65 (nI ne)) 66 (nI lk173)) (updA (stR X176 16 la (nI r175)) 2 K)) _ := mW_to (F := F) (l1 := [(15, (nI fa170)), (16, pl171), (27, (nI nd172)), (31, (nI wr174)), (64, (nI at169)), (65, (nI ne)), (66, (nI lk173)), (15, (nI fa214)), (16, pl215), (64, (nI at213))]) (l2 := [(15, (nI fa214)), (16, pl215), (27, (nI nd172)), (31, (nI wr174)), (64, (nI at213)), (65, (nI ne)), (66, (nI lk173))]) (V := [(nI fa214), pl215, (nI nd172), (nI wr174), (nI at213), (nI ne), (nI lk173), (nI fa214), pl215, (nI at213), (nI fa214), pl215, (nI nd172), (nI wr174), (nI at213), (nI ne), (nI lk173)]) rfl rfl (show (updA (updA (stR X176 16 la (nI r175)) 2 K) 2 K) = (updA (stR X176 16 la (nI r175)) 2 K) from updsA_eq2 (F := X176) (l1 := [(16, (upd (X176 16) la (nI r175))), (2, K), (2, K)]) (l2 := [(16, (upd (X176 16) la (nI r175))), (2, K)]) (V := [(upd (X176 16) la (nI r175)), K, K, (upd (X176 16) la (nI r175)), K]) rfl rfl) hP
                have hD : va_D A (mW G h0 a (upd (upd (upd (upd (upd (upd (upd F 15 (nI fa214)) 16 pl215) 27 (nI nd172)) 31 (nI wr174)) 64 (nI at213)) 65 (nI ne)) 66 (nI lk173)) (updA (stR X176 16 la (nI r175)) 2 K)) := mW_D hD
                refine W.widen (k := 0) (n := 0) (Nat.le_of_ble_eq_true rfl) (Nat.le_of_ble_eq_true rfl) ?_
                refine W.eq (g2 := F0 m 79 ls []) rfl ?_
                obtain ⟨n225, n224⟩ := h220 e192
                replace n225 := n225.symm
                subst n225
                replace n224 := n224.symm
                subst n224
                refine lv_iload_n hx hb dX12_block_79 rfl (lv_at hl 2 rfl) ?_
                have hz226 : at0 ≤ at169 := (by omega)
                have hz227 : at169 ≤ T := (by omega)
                have hz228 : fa170 ≤ 100 := (by omega)
                have hz229 : nd ≤ nd172 := (by omega)
                have hz230 : nd172 + 2 * at0 ≤ nd + 2 * at169 + 100000 * fa170 := (by omega)
                have hz231 : nd172 + 2 * at0 ≤ nd + 2 * at169 + (60 * (20 - ne) + 50) := (by omega)
                have hz232 : wr ≤ wr174 := (by omega)
                have hz233 : wr174 + at0 ≤ wr + at169 := (by omega)
                have hz234 : lk ≤ lk173 := (by omega)
                have hz235 : lk173 ≤ lk := (by omega)
                have hz236 : at0 + 1 ≤ at169 + fa170 := (by omega)
                have hz237 : nd ≤ nd172 := (by omega)
                have hz238 : Kp B (stR X176 16 la (nI r175)) wr174 T := hkp207
                have hz239 : If (fa170 = 0) (Low B (stR X176 16 la (nI r175)) nd wr ∧ Frs K T wr174 (stR X176 16 la (nI r175)) nd nd172 20000 [(nd, (281 + 4 * (20 - ne)))] ∧ kcl 10 ((stR X176 16 la (nI r175)) 9 nd) = true) := (fun e => absurd e (by omega))
                have hP : va_P G.1 pCl (mW G h0 a (upd (upd (upd (upd (upd (upd (upd F 15 (nI fa170)) 16 pl215) 27 (nI nd172)) 31 (nI wr174)) 64 (nI at169)) 65 (nI ne)) 66 (nI lk173)) (updA (stR X176 16 la (nI r175)) 2 K)) _ := hP
                have hD : va_D A (mW G h0 a (upd (upd (upd (upd (upd (upd (upd F 15 (nI fa170)) 16 pl215) 27 (nI nd172)) 31 (nI wr174)) 64 (nI at169)) 65 (nI ne)) 66 (nI lk173)) (updA (stR X176 16 la (nI r175)) 2 K)) := mW_D hD
                exact W.iret (v := (nI nd)) hx hb hr (fun t9 ht9 hW9 => ⟨⟨_, (at169, fa170, pl215, nd172, lk173, wr174, nd, (stR X176 16 la (nI r175))), rfl, ⟨rfl, hz226, hz227, hz228, hz229, hz230, hz231, hz232, hz233, hz234, hz235, hz236, hz237, hz238, hz239⟩, by rw [ht9]; exact hP, hD⟩, hS.F ht9⟩) hS.2.2 dX12_block_80
        have hP : va_P G.1 pCl (mW G h0 a (upd (upd (upd (upd (upd (upd (upd F 15 0) 16 pl81) 27 (nI nd82)) 31 (nI wr84)) 64 (nI at79)) 65 (nI ne)) 66 (nI lk83)) (updA (stR X86 12 nd (nI r85)) 2 K)) _ := hP
        have hD : va_D A (mW G h0 a (upd (upd (upd (upd (upd (upd (upd F 15 0) 16 pl81) 27 (nI nd82)) 31 (nI wr84)) 64 (nI at79)) 65 (nI ne)) 66 (nI lk83)) (updA (stR X86 12 nd (nI r85)) 2 K)) := mW_D hD
        exact loop_o (T + 1) at79 nd82 wr84 lk83 pl81 (stR X86 12 nd (nI r85)) r85 (nI r85) _ _ _ (by omega) (by omega) (by omega) (by omega) (by omega) (by omega) (by omega) (by omega) (by omega) (by omega) (by omega) (by omega) hkp111 hlo112 hf116 hn114 hP hD hS (lv_sub hl [0, 2, 3] rfl)
      · have e102 := e102
        refine lv_istore_n (lv' := [(3, .int (nI r85)), (2, .int (-1)), (1, .int (nI nd)), (0, .ref h0)]) hx hb dX12_block_45 rfl hl (by decide) rfl (fun ls hl => ?_)
        refine lv_iload_n hx hb dX12_block_46 rfl (lv_at hl 1 rfl) ?_
        refine lv_iconst (v := (-1)) hx hb dX12_block_47 (by decide) ?_
        refine lv_icmp_ne (tgt := 61) hx hb dX12_block_48 (by decide) (fun c240 => absurd c240 (by decide)) (fun c240 => ?_)
        refine lv_aload_n hx hb dX12_block_51 rfl (lv_at hl 3 rfl) ?_
        refine r_get (v := .ref (a 12)) hx hb hown hq hE hP 20 47 tFX12_20 (by decide) pw_1442 rfl dX12_block_52 ?_
        refine lv_iload_n hx hb dX12_block_55 rfl (lv_at hl 2 rfl) ?_
        refine lv_iload_n hx hb dX12_block_56 rfl (lv_at hl 0 rfl) ?_
        refine r_sti (f := (X86 12)) (j := nd) hx hb hE hP hD hS 12 (ma_12 G a _) rfl (mas_12 G a _) (by omega) (by decide) dX12_block_57 (fun H locs hP hD hS => ?_)
        have hP : va_P G.1 pCl (mW G h0 a (upd (upd (upd (upd (upd (upd (upd F 15 (nI fa80)) 16 pl81) 27 (nI nd82)) 31 (nI wr84)) 64 (nI at79)) 65 (nI ne)) 66 (nI lk83)) (updA (stR X86 12 nd (nI r85)) 2 K)) _ := mW_to (F := F) (l1 := [(15, (nI fa80)), (16, pl81), (27, (nI nd82)), (31, (nI wr84)), (64, (nI at79)), (65, (nI ne)), (66, (nI lk83))]) (l2 := [(15, (nI fa80)), (16, pl81), (27, (nI nd82)), (31, (nI wr84)), (64, (nI at79)), (65, (nI ne)), (66, (nI lk83))]) (V := [(nI fa80), pl81, (nI nd82), (nI wr84), (nI at79), (nI ne), (nI lk83), (nI fa80), pl81, (nI nd82), (nI wr84), (nI at79), (nI ne), (nI lk83)]) rfl rfl (show (updA (updA X86 2 K) 12 (upd (X86 12) nd (nI r85))) = (updA (stR X86 12 nd (nI r85)) 2 K) from updsA_eq2 (F := X86) (l1 := [(2, K), (12, (upd (X86 12) nd (nI r85)))]) (l2 := [(12, (upd (X86 12) nd (nI r85))), (2, K)]) (V := [K, (upd (X86 12) nd (nI r85)), (upd (X86 12) nd (nI r85)), K]) rfl rfl) hP
        have hD : va_D A (mW G h0 a (upd (upd (upd (upd (upd (upd (upd F 15 (nI fa80)) 16 pl81) 27 (nI nd82)) 31 (nI wr84)) 64 (nI at79)) 65 (nI ne)) 66 (nI lk83)) (updA (stR X86 12 nd (nI r85)) 2 K)) := mW_D hD
        have hkp241 : Kp B (stR X86 12 nd (nI r85)) wr84 T := (Kp.row hkp101 (by omega))
        refine lv_goto (tgt := 68) hx hb dX12_block_58 (by decide) ?_
        refine lv_iload_n hx hb dX12_block_68 rfl (lv_at hl 0 rfl) ?_
        refine lv_istore_n (lv' := [(2, .int (nI r85)), (3, .int (nI r85)), (1, .int (nI nd)), (0, .ref h0)]) hx hb dX12_block_69 rfl hl (by decide) rfl (fun ls hl => ?_)
        refine lv_goto (tgt := 25) hx hb dX12_block_70 (by decide) ?_
        refine lv_aload_n hx hb dX12_block_25 rfl (lv_at hl 3 rfl) ?_
        refine r_get (v := .int (nI fa80)) hx hb hown hq hE hP 15 350 tFX12_15 (by decide) pw_1594 rfl dX12_block_26 ?_
        refine lv_if_ne (tgt := 73) hx hb dX12_block_29 (by decide) (fun c242 => ?_) (fun c242 => (by have n243 : fa80 = 0 := (nI_eq (a := fa80) (b := 0) (by omega) (by omega)).mp c242; omega))
        refine lv_aload_n hx hb dX12_block_73 rfl (lv_at hl 3 rfl) ?_
        refine lv_bipush (v := 125) hx hb dX12_block_74 (by decide) ?_
        have hP : va_P G.1 pCl (mW G h0 a (upd (upd (upd (upd (upd (upd (upd (upd (upd F 15 (nI fa80)) 16 pl81) 27 (nI nd82)) 31 (nI wr84)) 64 (nI at79)) 65 (nI ne)) 66 (nI lk83)) 15 (nI fa80)) 64 (nI at79)) (updA (updA (stR X86 12 nd (nI r85)) 2 K) 2 K)) _ := mW_to (F := F) (l1 := [(15, (nI fa80)), (16, pl81), (27, (nI nd82)), (31, (nI wr84)), (64, (nI at79)), (65, (nI ne)), (66, (nI lk83))]) (l2 := [(15, (nI fa80)), (16, pl81), (27, (nI nd82)), (31, (nI wr84)), (64, (nI at79)), (65, (nI ne)), (66, (nI lk83)), (15, (nI fa80)), (64, (nI at79))]) (V := [(nI fa80), pl81, (nI nd82), (nI wr84), (nI at79), (nI ne), (nI lk83), (nI fa80), pl81, (nI nd82), (nI wr84), (nI at79), (nI ne), (nI lk83), (nI fa80), (nI at79)]) rfl rfl (show (updA (stR X86 12 nd (nI r85)) 2 K) = (updA (updA (stR X86 12 nd (nI r85)) 2 K) 2 K) from updsA_eq2 (F := X86) (l1 := [(12, (upd (X86 12) nd (nI r85))), (2, K)]) (l2 := [(12, (upd (X86 12) nd (nI r85))), (2, K), (2, K)]) (V := [(upd (X86 12) nd (nI r85)), K, (upd (X86 12) nd (nI r85)), K, K]) rfl rfl) hP
        have hD : va_D A (mW G h0 a (upd (upd (upd (upd (upd (upd (upd (upd (upd F 15 (nI fa80)) 16 pl81) 27 (nI nd82)) 31 (nI wr84)) 64 (nI at79)) 65 (nI ne)) 66 (nI lk83)) 15 (nI fa80)) 64 (nI at79)) (updA (updA (stR X86 12 nd (nI r85)) 2 K) 2 K)) := mW_D hD
        refine pc_V0 (G := G) (As := [.int 125]) (rest := []) hx hb hml hown hq hE hX pX0_al hP hD hS hA hl.1 (R_take l G h0 a (upd (upd (upd (upd (upd (upd (upd F 15 (nI fa80)) 16 pl81) 27 (nI nd82)) 31 (nI wr84)) 64 (nI at79)) 65 (nI ne)) 66 (nI lk83)) (updA (stR X86 12 nd (nI r85)) 2 K) at79 T fa80 K 125 (by omega) (by omega) hK (by omega) (by decide) (by decide)) (gV pw_1614 pw_1615 pw_1616 pw_1523 pw_1601) hV_X12_take 0 9 rfl rfl rfl rfl (Nat.le_of_ble_eq_true rfl) dX12_block_76 ⟨Nat.le_of_ble_eq_true rfl, Nat.le_of_ble_eq_true rfl⟩ ⟨(by show 4 + 1 ≤ (26 * n + 42); omega), (by show 8 + (2 + 11) + 103 ≤ (2000 * n + 4200); omega)⟩ (fun v246 u244 H locs hw245 hP hD hS => ?_)
        obtain ⟨at247, fa248, pl249⟩ := u244
        obtain ⟨hw245, h250, h251, h252, h253, h254, h255, h256, h257⟩ := hw245
        have h250 : at79 ≤ at247 := h250
        have h251 : at247 ≤ T := h251
        have h252 : fa80 ≤ fa248 := h252
        have h253 : fa248 ≤ 100 := h253
        have h254 : If (0 < fa80) (at247 = at79 ∧ fa248 = fa80) := h254
        have h255 : at247 ≤ at79 + 1 := h255
        have h256 : at79 + 1 ≤ at247 + fa248 := h256
        have h257 : If (fa248 = 0) (K at79 = 125) := h257
        obtain rfl : v246 = none := hw245
        have hP : va_P G.1 pCl (mW G h0 a (upd (upd (upd (upd (upd (upd (upd F 15 (nI fa248)) 16 pl249) 27 (nI nd82)) 31 (nI wr84)) 64 (nI at247)) 65 (nI ne)) 66 (nI lk83)) (updA (stR X86 12 nd (nI r85)) 2 K)) _ := mW_to (F := F) (l1 := [(15, (nI fa80)), (16, pl81), (27, (nI nd82)), (31, (nI wr84)), (64, (nI at79)), (65, (nI ne)), (66, (nI lk83)), (15, (nI fa248)), (16, pl249), (64, (nI at247))]) (l2 := [(15, (nI fa248)), (16, pl249), (27, (nI nd82)), (31, (nI wr84)), (64, (nI at247)), (65, (nI ne)), (66, (nI lk83))]) (V := [(nI fa248), pl249, (nI nd82), (nI wr84), (nI at247), (nI ne), (nI lk83), (nI fa248), pl249, (nI at247), (nI fa248), pl249, (nI nd82), (nI wr84), (nI at247), (nI ne), (nI lk83)]) rfl rfl (show (updA (updA (stR X86 12 nd (nI r85)) 2 K) 2 K) = (updA (stR X86 12 nd (nI r85)) 2 K) from updsA_eq2 (F := X86) (l1 := [(12, (upd (X86 12) nd (nI r85))), (2, K), (2, K)]) (l2 := [(12, (upd (X86 12) nd (nI r85))), (2, K)]) (V := [(upd (X86 12) nd (nI r85)), K, K, (upd (X86 12) nd (nI r85)), K]) rfl rfl) hP
        have hD : va_D A (mW G h0 a (upd (upd (upd (upd (upd (upd (upd F 15 (nI fa248)) 16 pl249) 27 (nI nd82)) 31 (nI wr84)) 64 (nI at247)) 65 (nI ne)) 66 (nI lk83)) (updA (stR X86 12 nd (nI r85)) 2 K)) := mW_D hD
        refine W.widen (k := 0) (n := 0) (Nat.le_of_ble_eq_true rfl) (Nat.le_of_ble_eq_true rfl) ?_
        refine W.eq (g2 := F0 m 79 ls []) rfl ?_
        obtain ⟨n259, n258⟩ := h254 e102
        replace n259 := n259.symm
        subst n259
        replace n258 := n258.symm
        subst n258
        refine lv_iload_n hx hb dX12_block_79 rfl (lv_at hl 2 rfl) ?_
        have hz260 : at0 ≤ at79 := (by omega)
        have hz261 : at79 ≤ T := (by omega)
        have hz262 : fa80 ≤ 100 := (by omega)
        have hz263 : nd ≤ nd82 := (by omega)
        have hz264 : nd82 + 2 * at0 ≤ nd + 2 * at79 + 100000 * fa80 := (by omega)
        have hz265 : nd82 + 2 * at0 ≤ nd + 2 * at79 + (60 * (20 - ne) + 50) := (by omega)
        have hz266 : wr ≤ wr84 := (by omega)
        have hz267 : wr84 + at0 ≤ wr + at79 := (by omega)
        have hz268 : lk ≤ lk83 := (by omega)
        have hz269 : lk83 ≤ lk := (by omega)
        have hz270 : at0 + 1 ≤ at79 + fa80 := (by omega)
        have hz271 : nd ≤ nd82 := (by omega)
        have hz272 : Kp B (stR X86 12 nd (nI r85)) wr84 T := hkp241
        have hz273 : If (fa80 = 0) (Low B (stR X86 12 nd (nI r85)) nd wr ∧ Frs K T wr84 (stR X86 12 nd (nI r85)) nd nd82 20000 [(nd, (281 + 4 * (20 - ne)))] ∧ kcl 10 ((stR X86 12 nd (nI r85)) 9 nd) = true) := (fun e => absurd e (by omega))
        have hP : va_P G.1 pCl (mW G h0 a (upd (upd (upd (upd (upd (upd (upd F 15 (nI fa80)) 16 pl249) 27 (nI nd82)) 31 (nI wr84)) 64 (nI at79)) 65 (nI ne)) 66 (nI lk83)) (updA (stR X86 12 nd (nI r85)) 2 K)) _ := hP
        have hD : va_D A (mW G h0 a (upd (upd (upd (upd (upd (upd (upd F 15 (nI fa80)) 16 pl249) 27 (nI nd82)) 31 (nI wr84)) 64 (nI at79)) 65 (nI ne)) 66 (nI lk83)) (updA (stR X86 12 nd (nI r85)) 2 K)) := mW_D hD
        exact W.iret (v := (nI nd)) hx hb hr (fun t9 ht9 hW9 => ⟨⟨_, (at79, fa80, pl249, nd82, lk83, wr84, nd, (stR X86 12 nd (nI r85))), rfl, ⟨rfl, hz260, hz261, hz262, hz263, hz264, hz265, hz266, hz267, hz268, hz269, hz270, hz271, hz272, hz273⟩, by rw [ht9]; exact hP, hD⟩, hS.F ht9⟩) hS.2.2 dX12_block_80
  · have e27 := e27
    refine lv_iconst (v := (-1)) hx hb dX12_block_23 (by decide) ?_
    refine lv_istore_n (lv' := [(2, .int (-1)), (1, .int (nI nd)), (0, .ref h0)]) hx hb dX12_block_24 rfl hl (by decide) rfl (fun ls hl => ?_)
    refine lv_aload_n hx hb dX12_block_25 rfl (lv_at hl 2 rfl) ?_
    refine r_get (v := .int (nI fa17)) hx hb hown hq hE hP 15 350 tFX12_15 (by decide) pw_1594 rfl dX12_block_26 ?_
    refine lv_if_ne (tgt := 73) hx hb dX12_block_29 (by decide) (fun c274 => ?_) (fun c274 => (by have n275 : fa17 = 0 := (nI_eq (a := fa17) (b := 0) (by omega) (by omega)).mp c274; omega))
    refine lv_aload_n hx hb dX12_block_73 rfl (lv_at hl 2 rfl) ?_
    refine lv_bipush (v := 125) hx hb dX12_block_74 (by decide) ?_
    have hP : va_P G.1 pCl (mW G h0 a (upd (upd (upd (upd (upd (upd (upd (upd (upd F 15 (nI fa17)) 16 pl18) 27 (nI (nd + 1))) 31 (nI wr)) 64 (nI at16)) 65 (nI ne)) 66 (nI lk)) 15 (nI fa17)) 64 (nI at16)) (updA (updA X6 2 K) 2 K)) _ := mW_to (F := F) (l1 := [(15, (nI fa17)), (16, pl18), (27, (nI (nd + 1))), (31, (nI wr)), (64, (nI at16)), (65, (nI ne)), (66, (nI lk))]) (l2 := [(15, (nI fa17)), (16, pl18), (27, (nI (nd + 1))), (31, (nI wr)), (64, (nI at16)), (65, (nI ne)), (66, (nI lk)), (15, (nI fa17)), (64, (nI at16))]) (V := [(nI fa17), pl18, (nI (nd + 1)), (nI wr), (nI at16), (nI ne), (nI lk), (nI fa17), pl18, (nI (nd + 1)), (nI wr), (nI at16), (nI ne), (nI lk), (nI fa17), (nI at16)]) rfl rfl (show (updA X6 2 K) = (updA (updA X6 2 K) 2 K) from updsA_eq2 (F := X6) (l1 := [(2, K)]) (l2 := [(2, K), (2, K)]) (V := [K, K, K]) rfl rfl) hP
    have hD : va_D A (mW G h0 a (upd (upd (upd (upd (upd (upd (upd (upd (upd F 15 (nI fa17)) 16 pl18) 27 (nI (nd + 1))) 31 (nI wr)) 64 (nI at16)) 65 (nI ne)) 66 (nI lk)) 15 (nI fa17)) 64 (nI at16)) (updA (updA X6 2 K) 2 K)) := mW_D hD
    refine pc_V0 (G := G) (As := [.int 125]) (rest := []) hx hb hml hown hq hE hX pX0_al hP hD hS hA hl.1 (R_take l G h0 a (upd (upd (upd (upd (upd (upd (upd F 15 (nI fa17)) 16 pl18) 27 (nI (nd + 1))) 31 (nI wr)) 64 (nI at16)) 65 (nI ne)) 66 (nI lk)) (updA X6 2 K) at16 T fa17 K 125 (by omega) (by omega) hK (by omega) (by decide) (by decide)) (gV pw_1614 pw_1615 pw_1616 pw_1523 pw_1601) hV_X12_take 0 9 rfl rfl rfl rfl (Nat.le_of_ble_eq_true rfl) dX12_block_76 ⟨Nat.le_of_ble_eq_true rfl, Nat.le_of_ble_eq_true rfl⟩ ⟨(by show 4 + 1 ≤ (26 * n + 42); omega), (by show 8 + (2 + 11) + 103 ≤ (2000 * n + 4200); omega)⟩ (fun v278 u276 H locs hw277 hP hD hS => ?_)
    obtain ⟨at279, fa280, pl281⟩ := u276
    obtain ⟨hw277, h282, h283, h284, h285, h286, h287, h288, h289⟩ := hw277
    have h282 : at16 ≤ at279 := h282
    have h283 : at279 ≤ T := h283
    have h284 : fa17 ≤ fa280 := h284
    have h285 : fa280 ≤ 100 := h285
    have h286 : If (0 < fa17) (at279 = at16 ∧ fa280 = fa17) := h286
    have h287 : at279 ≤ at16 + 1 := h287
    have h288 : at16 + 1 ≤ at279 + fa280 := h288
    have h289 : If (fa280 = 0) (K at16 = 125) := h289
    obtain rfl : v278 = none := hw277
    have hP : va_P G.1 pCl (mW G h0 a (upd (upd (upd (upd (upd (upd (upd F 15 (nI fa280)) 16 pl281) 27 (nI (nd + 1))) 31 (nI wr)) 64 (nI at279)) 65 (nI ne)) 66 (nI lk)) (updA X6 2 K)) _ := mW_to (F := F) (l1 := [(15, (nI fa17)), (16, pl18), (27, (nI (nd + 1))), (31, (nI wr)), (64, (nI at16)), (65, (nI ne)), (66, (nI lk)), (15, (nI fa280)), (16, pl281), (64, (nI at279))]) (l2 := [(15, (nI fa280)), (16, pl281), (27, (nI (nd + 1))), (31, (nI wr)), (64, (nI at279)), (65, (nI ne)), (66, (nI lk))]) (V := [(nI fa280), pl281, (nI (nd + 1)), (nI wr), (nI at279), (nI ne), (nI lk), (nI fa280), pl281, (nI at279), (nI fa280), pl281, (nI (nd + 1)), (nI wr), (nI at279), (nI ne), (nI lk)]) rfl rfl (show (updA (updA X6 2 K) 2 K) = (updA X6 2 K) from updsA_eq2 (F := X6) (l1 := [(2, K), (2, K)]) (l2 := [(2, K)]) (V := [K, K, K]) rfl rfl) hP
    have hD : va_D A (mW G h0 a (upd (upd (upd (upd (upd (upd (upd F 15 (nI fa280)) 16 pl281) 27 (nI (nd + 1))) 31 (nI wr)) 64 (nI at279)) 65 (nI ne)) 66 (nI lk)) (updA X6 2 K)) := mW_D hD
    refine W.widen (k := 0) (n := 0) (Nat.le_of_ble_eq_true rfl) (Nat.le_of_ble_eq_true rfl) ?_
    refine W.eq (g2 := F0 m 79 ls []) rfl ?_
    obtain ⟨n291, n290⟩ := h286 e27
    replace n291 := n291.symm
    subst n291
    replace n290 := n290.symm
    subst n290
    refine lv_iload_n hx hb dX12_block_79 rfl (lv_at hl 1 rfl) ?_
    have hz292 : at0 ≤ at16 := (by omega)
    have hz293 : at16 ≤ T := (by omega)
    have hz294 : fa17 ≤ 100 := (by omega)
    have hz295 : nd ≤ (nd + 1) := (by omega)
    have hz296 : (nd + 1) + 2 * at0 ≤ nd + 2 * at16 + 100000 * fa17 := (by omega)
    have hz297 : (nd + 1) + 2 * at0 ≤ nd + 2 * at16 + (60 * (20 - ne) + 50) := (by omega)
    have hz298 : wr ≤ wr := (by omega)
    have hz299 : wr + at0 ≤ wr + at16 := (by omega)
    have hz300 : lk ≤ lk := (by omega)
    have hz301 : lk ≤ lk := (by omega)
    have hz302 : at0 + 1 ≤ at16 + fa17 := (by omega)
    have hz303 : nd ≤ (nd + 1) := (by omega)
    have hz304 : Kp B X6 wr T := hkp8
    have hz305 : If (fa17 = 0) (Low B X6 nd wr ∧ Frs K T wr X6 nd (nd + 1) 20000 [(nd, (281 + 4 * (20 - ne)))] ∧ kcl 10 (X6 9 nd) = true) := (fun e => absurd e (by omega))
    have hP : va_P G.1 pCl (mW G h0 a (upd (upd (upd (upd (upd (upd (upd F 15 (nI fa17)) 16 pl281) 27 (nI (nd + 1))) 31 (nI wr)) 64 (nI at16)) 65 (nI ne)) 66 (nI lk)) (updA X6 2 K)) _ := hP
    have hD : va_D A (mW G h0 a (upd (upd (upd (upd (upd (upd (upd F 15 (nI fa17)) 16 pl281) 27 (nI (nd + 1))) 31 (nI wr)) 64 (nI at16)) 65 (nI ne)) 66 (nI lk)) (updA X6 2 K)) := mW_D hD
    exact W.iret (v := (nI nd)) hx hb hr (fun t9 ht9 hW9 => ⟨⟨_, (at16, fa17, pl281, (nd + 1), lk, wr, nd, X6), rfl, ⟨rfl, hz292, hz293, hz294, hz295, hz296, hz297, hz298, hz299, hz300, hz301, hz302, hz303, hz304, hz305⟩, by rw [ht9]; exact hP, hD⟩, hS.F ht9⟩) hS.2.2 dX12_block_80

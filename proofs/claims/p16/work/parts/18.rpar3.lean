theorem dX12_operand_0 : decode cX12_operand 0 = .ok (.aload_n 0, 1) := by decide +kernel
theorem dX12_operand_1 : decode cX12_operand 1 = .ok (.getfield 350, 3) := by decide +kernel
theorem dX12_operand_4 : decode cX12_operand 4 = .ok (.ifCond .le 5, 3) := by decide +kernel
theorem dX12_operand_7 : decode cX12_operand 7 = .ok (.iconst 0, 1) := by decide +kernel
theorem dX12_operand_8 : decode cX12_operand 8 = .ok (.ireturn, 1) := by decide +kernel
set_option maxHeartbeats 2000000 in
set_option maxRecDepth 100000 in
/-- operand(), a fault known -/
theorem RF_operand (l : Launch) (G : pT) (h0 : Nat) (a : Nat → Nat) (F : Nat → Int32) (B : Nat → Nat → Int32) (at0 : Nat) (T : Nat) (fa : Nat) (K : Nat → Int32) (hat : at0 ≤ T) (hT : T ≤ 5000) (hK : K T = 0 ∨ K T = 3) (hfa : fa ≤ 100) (hfp : 0 < fa) : PM l G pX0 yX12_operand cX12_operand 5 (some .int) ({ frames := 2, cells := 0, slots := 0, locals := 60 }) [.ref h0] (mW G h0 a (upd (upd F 15 (nI fa)) 64 (nI at0)) (updA B 2 K)) (fun (v : Option Value) (u : Unit) => v = some (.int 0)) (fun u => (mW G h0 a (upd (upd F 15 (nI fa)) 64 (nI at0)) (updA B 2 K))) := by
  intro sz
  refine Met.ofW (cc := cX12_operand) (maxL := 5) (ret := (some .int)) (by decide) rfl ?_
  intro p e s m args below meth c s₁ B9 hml hv
  obtain ⟨rfl, hsz, hP, hD0, hE, hX⟩ := hv
  have hx := B9.exec
  have hb := B9.bytes
  have hr := B9.returns
  have hts := atoms_spec (ws := Cond.code yX12_operand cX12_operand 5 (some .int) :: pw) B9.pre
  have hq : ∀ w ∈ pw, w.before _ s = true := fun w h => hts w (List.mem_cons_of_mem _ h)
  have hown : s.vm.findClass RX12 = some m.cls := findClass_of_methodNamed B9.named
  have hlocks := B9.notSynchronized
  subst hsz
  have hD := hD0.self (sz := s.heap.size)
  have hA : ∀ q : Nat, s.heap.size ≤ q → va_A (mW G h0 a (upd (upd F 15 (nI fa)) 64 (nI at0)) (updA B 2 K)) s.heap.size q := fun q h => Or.inr h
  have hP : va_P G.1 pCl (mW G h0 a (upd (upd F 15 (nI fa)) 64 (nI at0)) (updA B 2 K)) s.heap := hP
  generalize va_A (mW G h0 a (upd (upd F 15 (nI fa)) 64 (nI at0)) (updA B 2 K)) s.heap.size = A at hD hE hA ⊢
  have hS : va_S A s.heap s.heap [] := va_S.rf
  have hl := lv_entry ([.ref h0]) (n := 5) (Nat.le_of_ble_eq_true rfl)
  rw [lg_entry_eq]
  generalize (lg_sl ([.ref h0]) ++ List.replicate (5 - (lg_sl ([.ref h0])).length) Slot.unset).toArray = ls at hl ⊢
  have hl : lv_has ls 5 [(0, .ref h0)] := hl
  refine lv_aload_n hx hb dX12_operand_0 rfl (lv_at hl 0 rfl) ?_
  refine r_get (v := .int (nI fa)) hx hb hown hq hE hP 15 350 tFX12_15 (by decide) pw_1594 rfl dX12_operand_1 ?_
  refine lv_if_le (tgt := 9) hx hb dX12_operand_4 (by decide) (fun c1 => (by have n2 : fa ≤ 0 := (nI_leI (a := fa) (b := 0) (by omega) (by omega)).mp c1; omega)) (fun c1 => ?_)
  refine lv_iconst (v := 0) hx hb dX12_operand_7 (by decide) ?_
  have hP : va_P G.1 pCl (mW G h0 a (upd (upd F 15 (nI fa)) 64 (nI at0)) (updA B 2 K)) _ := hP
  have hD : va_D A (mW G h0 a (upd (upd F 15 (nI fa)) 64 (nI at0)) (updA B 2 K)) := mW_D hD
  exact W.iret (v := 0) hx hb hr (fun t9 ht9 hW9 => ⟨⟨_, (), rfl, rfl, by rw [ht9]; exact hP, hD⟩, hS.F ht9⟩) hS.2.2 dX12_operand_8
theorem dX12_chain_0 : decode cX12_chain 0 = .ok (.aload_n 0, 1) := by decide +kernel
theorem dX12_chain_1 : decode cX12_chain 1 = .ok (.invokevirtual 484, 3) := by decide +kernel
theorem dX12_chain_4 : decode cX12_chain 4 = .ok (.istore_n 1, 1) := by decide +kernel
theorem dX12_chain_5 : decode cX12_chain 5 = .ok (.iconst 1, 1) := by decide +kernel
theorem dX12_chain_6 : decode cX12_chain 6 = .ok (.istore_n 2, 1) := by decide +kernel
theorem dX12_chain_7 : decode cX12_chain 7 = .ok (.iload_n 2, 1) := by decide +kernel
theorem dX12_chain_8 : decode cX12_chain 8 = .ok (.ifCond .eq 199, 3) := by decide +kernel
theorem dX12_chain_11 : decode cX12_chain 11 = .ok (.aload_n 0, 1) := by decide +kernel
theorem dX12_chain_12 : decode cX12_chain 12 = .ok (.getfield 350, 3) := by decide +kernel
theorem dX12_chain_15 : decode cX12_chain 15 = .ok (.ifCond .ne 192, 3) := by decide +kernel
theorem dX12_chain_207 : decode cX12_chain 207 = .ok (.iload_n 1, 1) := by decide +kernel
theorem dX12_chain_208 : decode cX12_chain 208 = .ok (.ireturn, 1) := by decide +kernel
theorem hV_X12_operand : yX12_operand.cls = RX12 ∧ yX12_operand.cls ≠ "java/lang/invoke/MethodHandle" ∧ yX12_operand.cls ≠ "java/lang/invoke/VarHandle" ∧ (parseMethodDescriptor yX12_operand.desc).map (fun d => d.parameters.length) = some 0 := by decide +kernel
set_option maxHeartbeats 2000000 in
set_option maxRecDepth 100000 in
/-- chain(), a fault known -/
theorem RF_chain (l : Launch) (G : pT) (h0 : Nat) (a : Nat → Nat) (F : Nat → Int32) (B : Nat → Nat → Int32) (at0 : Nat) (T : Nat) (fa : Nat) (K : Nat → Int32) (hat : at0 ≤ T) (hT : T ≤ 5000) (hK : K T = 0 ∨ K T = 3) (hfa : fa ≤ 100) (hfp : 0 < fa) : PM l G pX0 yX12_chain cX12_chain 4 (some .int) ({ frames := 3, cells := 0, slots := 0, locals := 84 }) [.ref h0] (mW G h0 a (upd (upd F 15 (nI fa)) 64 (nI at0)) (updA B 2 K)) (fun (v : Option Value) (u : Unit) => v = some (.int 0)) (fun u => (mW G h0 a (upd (upd F 15 (nI fa)) 64 (nI at0)) (updA B 2 K))) := by
  intro sz
  refine Met.ofW (cc := cX12_chain) (maxL := 4) (ret := (some .int)) (by decide) rfl ?_
  intro p e s m args below meth c s₁ B9 hml hv
  obtain ⟨rfl, hsz, hP, hD0, hE, hX⟩ := hv
  have hx := B9.exec
  have hb := B9.bytes
  have hr := B9.returns
  have hts := atoms_spec (ws := Cond.code yX12_chain cX12_chain 4 (some .int) :: pw) B9.pre
  have hq : ∀ w ∈ pw, w.before _ s = true := fun w h => hts w (List.mem_cons_of_mem _ h)
  have hown : s.vm.findClass RX12 = some m.cls := findClass_of_methodNamed B9.named
  have hlocks := B9.notSynchronized
  subst hsz
  have hD := hD0.self (sz := s.heap.size)
  have hA : ∀ q : Nat, s.heap.size ≤ q → va_A (mW G h0 a (upd (upd F 15 (nI fa)) 64 (nI at0)) (updA B 2 K)) s.heap.size q := fun q h => Or.inr h
  have hP : va_P G.1 pCl (mW G h0 a (upd (upd F 15 (nI fa)) 64 (nI at0)) (updA B 2 K)) s.heap := hP
  generalize va_A (mW G h0 a (upd (upd F 15 (nI fa)) 64 (nI at0)) (updA B 2 K)) s.heap.size = A at hD hE hA ⊢
  have hS : va_S A s.heap s.heap [] := va_S.rf
  have hl := lv_entry ([.ref h0]) (n := 4) (Nat.le_of_ble_eq_true rfl)
  rw [lg_entry_eq]
  generalize (lg_sl ([.ref h0]) ++ List.replicate (4 - (lg_sl ([.ref h0])).length) Slot.unset).toArray = ls at hl ⊢
  have hl : lv_has ls 4 [(0, .ref h0)] := hl
  refine lv_aload_n hx hb dX12_chain_0 rfl (lv_at hl 0 rfl) ?_
  have hP : va_P G.1 pCl (mW G h0 a (upd (upd (upd (upd F 15 (nI fa)) 64 (nI at0)) 15 (nI fa)) 64 (nI at0)) (updA (updA B 2 K) 2 K)) _ := mW_to (F := F) (l1 := [(15, (nI fa)), (64, (nI at0))]) (l2 := [(15, (nI fa)), (64, (nI at0)), (15, (nI fa)), (64, (nI at0))]) (V := [(nI fa), (nI at0), (nI fa), (nI at0), (nI fa), (nI at0)]) rfl rfl (show (updA B 2 K) = (updA (updA B 2 K) 2 K) from updsA_eq2 (F := B) (l1 := [(2, K)]) (l2 := [(2, K), (2, K)]) (V := [K, K, K]) rfl rfl) hP
  have hD : va_D A (mW G h0 a (upd (upd (upd (upd F 15 (nI fa)) 64 (nI at0)) 15 (nI fa)) 64 (nI at0)) (updA (updA B 2 K) 2 K)) := mW_D hD
  refine pc_V0 (G := G) (As := []) (rest := []) hx hb hml hown hq hE hX pX0_al hP hD hS hA hl.1 (RF_operand l G h0 a (upd (upd F 15 (nI fa)) 64 (nI at0)) (updA B 2 K) at0 T fa K (by omega) (by omega) hK (by omega) (by omega)) (gV pw_1644 pw_1645 pw_1646 pw_1523 pw_1674) hV_X12_operand 0 9 rfl rfl rfl rfl (Nat.le_of_ble_eq_true rfl) dX12_chain_1 ⟨Nat.le_of_ble_eq_true rfl, Nat.le_of_ble_eq_true rfl⟩ ⟨Nat.le_of_ble_eq_true rfl, Nat.le_of_ble_eq_true rfl⟩ (fun v3 u1 H locs hw2 hP hD hS => ?_)
  obtain rfl : v3 = some (.int 0) := hw2
  have hP : va_P G.1 pCl (mW G h0 a (upd (upd F 15 (nI fa)) 64 (nI at0)) (updA B 2 K)) _ := mW_to (F := F) (l1 := [(15, (nI fa)), (64, (nI at0)), (15, (nI fa)), (64, (nI at0))]) (l2 := [(15, (nI fa)), (64, (nI at0))]) (V := [(nI fa), (nI at0), (nI fa), (nI at0), (nI fa), (nI at0)]) rfl rfl (show (updA (updA B 2 K) 2 K) = (updA B 2 K) from updsA_eq2 (F := B) (l1 := [(2, K), (2, K)]) (l2 := [(2, K)]) (V := [K, K, K]) rfl rfl) hP
  have hD : va_D A (mW G h0 a (upd (upd F 15 (nI fa)) 64 (nI at0)) (updA B 2 K)) := mW_D hD
  refine W.widen (k := 0) (n := 0) (Nat.le_of_ble_eq_true rfl) (Nat.le_of_ble_eq_true rfl) ?_
  refine W.eq (g2 := F0 m 4 ls [.int 0]) rfl ?_
  refine lv_istore_n (lv' := [(1, .int 0), (0, .ref h0)]) hx hb dX12_chain_4 rfl hl (by decide) rfl (fun ls hl => ?_)
  refine lv_iconst (v := 1) hx hb dX12_chain_5 (by decide) ?_
  refine lv_istore_n (lv' := [(2, .int 1), (1, .int 0), (0, .ref h0)]) hx hb dX12_chain_6 rfl hl (by decide) rfl (fun ls hl => ?_)
  refine lv_iload_n hx hb dX12_chain_7 rfl (lv_at hl 0 rfl) ?_
  refine lv_if_eq (tgt := 207) hx hb dX12_chain_8 (by decide) (fun c4 => absurd c4 (by decide)) (fun c4 => ?_)
  refine lv_aload_n hx hb dX12_chain_11 rfl (lv_at hl 2 rfl) ?_
  refine r_get (v := .int (nI fa)) hx hb hown hq hE hP 15 350 tFX12_15 (by decide) pw_1594 rfl dX12_chain_12 ?_
  refine lv_if_ne (tgt := 207) hx hb dX12_chain_15 (by decide) (fun c5 => ?_) (fun c5 => (by have n6 : fa = 0 := (nI_eq (a := fa) (b := 0) (by omega) (by omega)).mp c5; omega))
  refine lv_iload_n hx hb dX12_chain_207 rfl (lv_at hl 1 rfl) ?_
  have hP : va_P G.1 pCl (mW G h0 a (upd (upd F 15 (nI fa)) 64 (nI at0)) (updA B 2 K)) _ := hP
  have hD : va_D A (mW G h0 a (upd (upd F 15 (nI fa)) 64 (nI at0)) (updA B 2 K)) := mW_D hD
  exact W.iret (v := 0) hx hb hr (fun t9 ht9 hW9 => ⟨⟨_, (), rfl, rfl, by rw [ht9]; exact hP, hD⟩, hS.F ht9⟩) hS.2.2 dX12_chain_208
theorem dX12_front_0 : decode cX12_front 0 = .ok (.aload_n 0, 1) := by decide +kernel
theorem dX12_front_1 : decode cX12_front 1 = .ok (.getfield 350, 3) := by decide +kernel
theorem dX12_front_4 : decode cX12_front 4 = .ok (.ifCond .le 7, 3) := by decide +kernel
theorem dX12_front_7 : decode cX12_front 7 = .ok (.iconst 0, 1) := by decide +kernel
theorem dX12_front_8 : decode cX12_front 8 = .ok (.goto 7, 3) := by decide +kernel
theorem dX12_front_15 : decode cX12_front 15 = .ok (.istore_n 1, 1) := by decide +kernel
theorem dX12_front_16 : decode cX12_front 16 = .ok (.iload_n 1, 1) := by decide +kernel
theorem dX12_front_17 : decode cX12_front 17 = .ok (.bipush 45, 2) := by decide +kernel
theorem dX12_front_19 : decode cX12_front 19 = .ok (.if_icmp .eq 20, 3) := by decide +kernel
theorem dX12_front_22 : decode cX12_front 22 = .ok (.iload_n 1, 1) := by decide +kernel
theorem dX12_front_23 : decode cX12_front 23 = .ok (.bipush 126, 2) := by decide +kernel
theorem dX12_front_25 : decode cX12_front 25 = .ok (.if_icmp .eq 14, 3) := by decide +kernel
theorem dX12_front_28 : decode cX12_front 28 = .ok (.iload_n 1, 1) := by decide +kernel
theorem dX12_front_29 : decode cX12_front 29 = .ok (.bipush 33, 2) := by decide +kernel
theorem dX12_front_31 : decode cX12_front 31 = .ok (.if_icmp .eq 8, 3) := by decide +kernel
theorem dX12_front_34 : decode cX12_front 34 = .ok (.aload_n 0, 1) := by decide +kernel
theorem dX12_front_35 : decode cX12_front 35 = .ok (.invokevirtual 469, 3) := by decide +kernel
theorem dX12_front_38 : decode cX12_front 38 = .ok (.ireturn, 1) := by decide +kernel
theorem hV_X12_chain : yX12_chain.cls = RX12 ∧ yX12_chain.cls ≠ "java/lang/invoke/MethodHandle" ∧ yX12_chain.cls ≠ "java/lang/invoke/VarHandle" ∧ (parseMethodDescriptor yX12_chain.desc).map (fun d => d.parameters.length) = some 0 := by decide +kernel
set_option maxHeartbeats 2000000 in
set_option maxRecDepth 100000 in
/-- front(), a fault known -/
theorem RF_front (l : Launch) (G : pT) (h0 : Nat) (a : Nat → Nat) (F : Nat → Int32) (B : Nat → Nat → Int32) (at0 : Nat) (T : Nat) (fa : Nat) (K : Nat → Int32) (hat : at0 ≤ T) (hT : T ≤ 5000) (hK : K T = 0 ∨ K T = 3) (hfa : fa ≤ 100) (hfp : 0 < fa) : PM l G pX0 yX12_front cX12_front 4 (some .int) ({ frames := 4, cells := 0, slots := 0, locals := 107 }) [.ref h0] (mW G h0 a (upd (upd F 15 (nI fa)) 64 (nI at0)) (updA B 2 K)) (fun (v : Option Value) (u : Unit) => v = some (.int 0)) (fun u => (mW G h0 a (upd (upd F 15 (nI fa)) 64 (nI at0)) (updA B 2 K))) := by
  intro sz
  refine Met.ofW (cc := cX12_front) (maxL := 4) (ret := (some .int)) (by decide) rfl ?_
  intro p e s m args below meth c s₁ B9 hml hv
  obtain ⟨rfl, hsz, hP, hD0, hE, hX⟩ := hv
  have hx := B9.exec
  have hb := B9.bytes
  have hr := B9.returns
  have hts := atoms_spec (ws := Cond.code yX12_front cX12_front 4 (some .int) :: pw) B9.pre
  have hq : ∀ w ∈ pw, w.before _ s = true := fun w h => hts w (List.mem_cons_of_mem _ h)
  have hown : s.vm.findClass RX12 = some m.cls := findClass_of_methodNamed B9.named
  have hlocks := B9.notSynchronized
  subst hsz
  have hD := hD0.self (sz := s.heap.size)
  have hA : ∀ q : Nat, s.heap.size ≤ q → va_A (mW G h0 a (upd (upd F 15 (nI fa)) 64 (nI at0)) (updA B 2 K)) s.heap.size q := fun q h => Or.inr h
  have hP : va_P G.1 pCl (mW G h0 a (upd (upd F 15 (nI fa)) 64 (nI at0)) (updA B 2 K)) s.heap := hP
  generalize va_A (mW G h0 a (upd (upd F 15 (nI fa)) 64 (nI at0)) (updA B 2 K)) s.heap.size = A at hD hE hA ⊢
  have hS : va_S A s.heap s.heap [] := va_S.rf
  have hl := lv_entry ([.ref h0]) (n := 4) (Nat.le_of_ble_eq_true rfl)
  rw [lg_entry_eq]
  generalize (lg_sl ([.ref h0]) ++ List.replicate (4 - (lg_sl ([.ref h0])).length) Slot.unset).toArray = ls at hl ⊢
  have hl : lv_has ls 4 [(0, .ref h0)] := hl
  refine lv_aload_n hx hb dX12_front_0 rfl (lv_at hl 0 rfl) ?_
  refine r_get (v := .int (nI fa)) hx hb hown hq hE hP 15 350 tFX12_15 (by decide) pw_1594 rfl dX12_front_1 ?_
  refine lv_if_le (tgt := 11) hx hb dX12_front_4 (by decide) (fun c1 => (by have n2 : fa ≤ 0 := (nI_leI (a := fa) (b := 0) (by omega) (by omega)).mp c1; omega)) (fun c1 => ?_)
  refine lv_iconst (v := 0) hx hb dX12_front_7 (by decide) ?_
  refine lv_goto (tgt := 15) hx hb dX12_front_8 (by decide) ?_
  refine lv_istore_n (lv' := [(1, .int 0), (0, .ref h0)]) hx hb dX12_front_15 rfl hl (by decide) rfl (fun ls hl => ?_)
  refine lv_iload_n hx hb dX12_front_16 rfl (lv_at hl 0 rfl) ?_
  refine lv_bipush (v := 45) hx hb dX12_front_17 (by decide) ?_
  refine lv_icmp_eq (tgt := 39) hx hb dX12_front_19 (by decide) (fun c3 => absurd c3 (by decide)) (fun c3 => ?_)
  refine lv_iload_n hx hb dX12_front_22 rfl (lv_at hl 0 rfl) ?_
  refine lv_bipush (v := 126) hx hb dX12_front_23 (by decide) ?_
  refine lv_icmp_eq (tgt := 39) hx hb dX12_front_25 (by decide) (fun c4 => absurd c4 (by decide)) (fun c4 => ?_)
  refine lv_iload_n hx hb dX12_front_28 rfl (lv_at hl 0 rfl) ?_
  refine lv_bipush (v := 33) hx hb dX12_front_29 (by decide) ?_
  refine lv_icmp_eq (tgt := 39) hx hb dX12_front_31 (by decide) (fun c5 => absurd c5 (by decide)) (fun c5 => ?_)
  refine lv_aload_n hx hb dX12_front_34 rfl (lv_at hl 1 rfl) ?_
  have hP : va_P G.1 pCl (mW G h0 a (upd (upd (upd (upd F 15 (nI fa)) 64 (nI at0)) 15 (nI fa)) 64 (nI at0)) (updA (updA B 2 K) 2 K)) _ := mW_to (F := F) (l1 := [(15, (nI fa)), (64, (nI at0))]) (l2 := [(15, (nI fa)), (64, (nI at0)), (15, (nI fa)), (64, (nI at0))]) (V := [(nI fa), (nI at0), (nI fa), (nI at0), (nI fa), (nI at0)]) rfl rfl (show (updA B 2 K) = (updA (updA B 2 K) 2 K) from updsA_eq2 (F := B) (l1 := [(2, K)]) (l2 := [(2, K), (2, K)]) (V := [K, K, K]) rfl rfl) hP
  have hD : va_D A (mW G h0 a (upd (upd (upd (upd F 15 (nI fa)) 64 (nI at0)) 15 (nI fa)) 64 (nI at0)) (updA (updA B 2 K) 2 K)) := mW_D hD
  refine pc_V0 (G := G) (As := []) (rest := []) hx hb hml hown hq hE hX pX0_al hP hD hS hA hl.1 (RF_chain l G h0 a (upd (upd F 15 (nI fa)) 64 (nI at0)) (updA B 2 K) at0 T fa K (by omega) (by omega) hK (by omega) (by omega)) (gV pw_1661 pw_1662 pw_1663 pw_1523 pw_1643) hV_X12_chain 0 9 rfl rfl rfl rfl (Nat.le_of_ble_eq_true rfl) dX12_front_35 ⟨Nat.le_of_ble_eq_true rfl, Nat.le_of_ble_eq_true rfl⟩ ⟨Nat.le_of_ble_eq_true rfl, Nat.le_of_ble_eq_true rfl⟩ (fun v8 u6 H locs hw7 hP hD hS => ?_)
  obtain rfl : v8 = some (.int 0) := hw7
  have hP : va_P G.1 pCl (mW G h0 a (upd (upd F 15 (nI fa)) 64 (nI at0)) (updA B 2 K)) _ := mW_to (F := F) (l1 := [(15, (nI fa)), (64, (nI at0)), (15, (nI fa)), (64, (nI at0))]) (l2 := [(15, (nI fa)), (64, (nI at0))]) (V := [(nI fa), (nI at0), (nI fa), (nI at0), (nI fa), (nI at0)]) rfl rfl (show (updA (updA B 2 K) 2 K) = (updA B 2 K) from updsA_eq2 (F := B) (l1 := [(2, K), (2, K)]) (l2 := [(2, K)]) (V := [K, K, K]) rfl rfl) hP
  have hD : va_D A (mW G h0 a (upd (upd F 15 (nI fa)) 64 (nI at0)) (updA B 2 K)) := mW_D hD
  refine W.widen (k := 0) (n := 0) (Nat.le_of_ble_eq_true rfl) (Nat.le_of_ble_eq_true rfl) ?_
  refine W.eq (g2 := F0 m 38 ls [.int 0]) rfl ?_
  have hP : va_P G.1 pCl (mW G h0 a (upd (upd F 15 (nI fa)) 64 (nI at0)) (updA B 2 K)) _ := hP
  have hD : va_D A (mW G h0 a (upd (upd F 15 (nI fa)) 64 (nI at0)) (updA B 2 K)) := mW_D hD
  exact W.iret (v := 0) hx hb hr (fun t9 ht9 hW9 => ⟨⟨_, (), rfl, rfl, by rw [ht9]; exact hP, hD⟩, hS.F ht9⟩) hS.2.2 dX12_front_38
theorem dX12_level_0 : decode cX12_level 0 = .ok (.iload_n 1, 1) := by decide +kernel
theorem dX12_level_1 : decode cX12_level 1 = .ok (.bipush 10, 2) := by decide +kernel
theorem dX12_level_3 : decode cX12_level 3 = .ok (.if_icmp .ne 8, 3) := by decide +kernel
theorem dX12_level_6 : decode cX12_level 6 = .ok (.aload_n 0, 1) := by decide +kernel
theorem dX12_level_7 : decode cX12_level 7 = .ok (.invokevirtual 475, 3) := by decide +kernel
theorem dX12_level_10 : decode cX12_level 10 = .ok (.ireturn, 1) := by decide +kernel
theorem hV_X12_front : yX12_front.cls = RX12 ∧ yX12_front.cls ≠ "java/lang/invoke/MethodHandle" ∧ yX12_front.cls ≠ "java/lang/invoke/VarHandle" ∧ (parseMethodDescriptor yX12_front.desc).map (fun d => d.parameters.length) = some 0 := by decide +kernel
set_option maxHeartbeats 2000000 in
set_option maxRecDepth 100000 in
/-- level(10), a fault known -/
theorem RF_level10 (l : Launch) (G : pT) (h0 : Nat) (a : Nat → Nat) (F : Nat → Int32) (B : Nat → Nat → Int32) (at0 : Nat) (T : Nat) (fa : Nat) (K : Nat → Int32) (hat : at0 ≤ T) (hT : T ≤ 5000) (hK : K T = 0 ∨ K T = 3) (hfa : fa ≤ 100) (hfp : 0 < fa) : PM l G pX0 yX12_level cX12_level 6 (some .int) ({ frames := 5, cells := 0, slots := 0, locals := 130 }) [.ref h0, .int 10] (mW G h0 a (upd (upd F 15 (nI fa)) 64 (nI at0)) (updA B 2 K)) (fun (v : Option Value) (u : Unit) => v = some (.int 0)) (fun u => (mW G h0 a (upd (upd F 15 (nI fa)) 64 (nI at0)) (updA B 2 K))) := by
  intro sz
  refine Met.ofW (cc := cX12_level) (maxL := 6) (ret := (some .int)) (by decide) rfl ?_
  intro p e s m args below meth c s₁ B9 hml hv
  obtain ⟨rfl, hsz, hP, hD0, hE, hX⟩ := hv
  have hx := B9.exec
  have hb := B9.bytes
  have hr := B9.returns
  have hts := atoms_spec (ws := Cond.code yX12_level cX12_level 6 (some .int) :: pw) B9.pre
  have hq : ∀ w ∈ pw, w.before _ s = true := fun w h => hts w (List.mem_cons_of_mem _ h)
  have hown : s.vm.findClass RX12 = some m.cls := findClass_of_methodNamed B9.named
  have hlocks := B9.notSynchronized
  subst hsz
  have hD := hD0.self (sz := s.heap.size)
  have hA : ∀ q : Nat, s.heap.size ≤ q → va_A (mW G h0 a (upd (upd F 15 (nI fa)) 64 (nI at0)) (updA B 2 K)) s.heap.size q := fun q h => Or.inr h
  have hP : va_P G.1 pCl (mW G h0 a (upd (upd F 15 (nI fa)) 64 (nI at0)) (updA B 2 K)) s.heap := hP
  generalize va_A (mW G h0 a (upd (upd F 15 (nI fa)) 64 (nI at0)) (updA B 2 K)) s.heap.size = A at hD hE hA ⊢
  have hS : va_S A s.heap s.heap [] := va_S.rf
  have hl := lv_entry ([.ref h0, .int 10]) (n := 6) (Nat.le_of_ble_eq_true rfl)
  rw [lg_entry_eq]
  generalize (lg_sl ([.ref h0, .int 10]) ++ List.replicate (6 - (lg_sl ([.ref h0, .int 10])).length) Slot.unset).toArray = ls at hl ⊢
  have hl : lv_has ls 6 [(0, .ref h0), (1, .int 10)] := hl
  refine lv_iload_n hx hb dX12_level_0 rfl (lv_at hl 1 rfl) ?_
  refine lv_bipush (v := 10) hx hb dX12_level_1 (by decide) ?_
  refine lv_icmp_ne (tgt := 11) hx hb dX12_level_3 (by decide) (fun c1 => absurd c1 (by decide)) (fun c1 => ?_)
  refine lv_aload_n hx hb dX12_level_6 rfl (lv_at hl 0 rfl) ?_
  have hP : va_P G.1 pCl (mW G h0 a (upd (upd (upd (upd F 15 (nI fa)) 64 (nI at0)) 15 (nI fa)) 64 (nI at0)) (updA (updA B 2 K) 2 K)) _ := mW_to (F := F) (l1 := [(15, (nI fa)), (64, (nI at0))]) (l2 := [(15, (nI fa)), (64, (nI at0)), (15, (nI fa)), (64, (nI at0))]) (V := [(nI fa), (nI at0), (nI fa), (nI at0), (nI fa), (nI at0)]) rfl rfl (show (updA B 2 K) = (updA (updA B 2 K) 2 K) from updsA_eq2 (F := B) (l1 := [(2, K)]) (l2 := [(2, K), (2, K)]) (V := [K, K, K]) rfl rfl) hP
  have hD : va_D A (mW G h0 a (upd (upd (upd (upd F 15 (nI fa)) 64 (nI at0)) 15 (nI fa)) 64 (nI at0)) (updA (updA B 2 K) 2 K)) := mW_D hD
  refine pc_V0 (G := G) (As := []) (rest := []) hx hb hml hown hq hE hX pX0_al hP hD hS hA hl.1 (RF_front l G h0 a (upd (upd F 15 (nI fa)) 64 (nI at0)) (updA B 2 K) at0 T fa K (by omega) (by omega) hK (by omega) (by omega)) (gV pw_1664 pw_1665 pw_1666 pw_1523 pw_1660) hV_X12_front 0 9 rfl rfl rfl rfl (Nat.le_of_ble_eq_true rfl) dX12_level_7 ⟨Nat.le_of_ble_eq_true rfl, Nat.le_of_ble_eq_true rfl⟩ ⟨Nat.le_of_ble_eq_true rfl, Nat.le_of_ble_eq_true rfl⟩ (fun v4 u2 H locs hw3 hP hD hS => ?_)
  obtain rfl : v4 = some (.int 0) := hw3
  have hP : va_P G.1 pCl (mW G h0 a (upd (upd F 15 (nI fa)) 64 (nI at0)) (updA B 2 K)) _ := mW_to (F := F) (l1 := [(15, (nI fa)), (64, (nI at0)), (15, (nI fa)), (64, (nI at0))]) (l2 := [(15, (nI fa)), (64, (nI at0))]) (V := [(nI fa), (nI at0), (nI fa), (nI at0), (nI fa), (nI at0)]) rfl rfl (show (updA (updA B 2 K) 2 K) = (updA B 2 K) from updsA_eq2 (F := B) (l1 := [(2, K), (2, K)]) (l2 := [(2, K)]) (V := [K, K, K]) rfl rfl) hP
  have hD : va_D A (mW G h0 a (upd (upd F 15 (nI fa)) 64 (nI at0)) (updA B 2 K)) := mW_D hD
  refine W.widen (k := 0) (n := 0) (Nat.le_of_ble_eq_true rfl) (Nat.le_of_ble_eq_true rfl) ?_
  refine W.eq (g2 := F0 m 10 ls [.int 0]) rfl ?_
  have hP : va_P G.1 pCl (mW G h0 a (upd (upd F 15 (nI fa)) 64 (nI at0)) (updA B 2 K)) _ := hP
  have hD : va_D A (mW G h0 a (upd (upd F 15 (nI fa)) 64 (nI at0)) (updA B 2 K)) := mW_D hD
  exact W.iret (v := 0) hx hb hr (fun t9 ht9 hW9 => ⟨⟨_, (), rfl, rfl, by rw [ht9]; exact hP, hD⟩, hS.F ht9⟩) hS.2.2 dX12_level_10
theorem dX12_level_11 : decode cX12_level 11 = .ok (.aload_n 0, 1) := by decide +kernel
theorem dX12_level_12 : decode cX12_level 12 = .ok (.iload_n 1, 1) := by decide +kernel
theorem dX12_level_13 : decode cX12_level 13 = .ok (.iconst 1, 1) := by decide +kernel
theorem dX12_level_14 : decode cX12_level 14 = .ok (.iadd, 1) := by decide +kernel
theorem dX12_level_15 : decode cX12_level 15 = .ok (.invokevirtual 472, 3) := by decide +kernel
theorem dX12_level_18 : decode cX12_level 18 = .ok (.istore_n 2, 1) := by decide +kernel
theorem dX12_level_19 : decode cX12_level 19 = .ok (.aload_n 0, 1) := by decide +kernel
theorem dX12_level_20 : decode cX12_level 20 = .ok (.getfield 350, 3) := by decide +kernel
theorem dX12_level_23 : decode cX12_level 23 = .ok (.ifCond .ne 146, 3) := by decide +kernel
theorem dX12_level_169 : decode cX12_level 169 = .ok (.iload_n 2, 1) := by decide +kernel
theorem dX12_level_170 : decode cX12_level 170 = .ok (.ireturn, 1) := by decide +kernel
theorem hV_X12_level : yX12_level.cls = RX12 ∧ yX12_level.cls ≠ "java/lang/invoke/MethodHandle" ∧ yX12_level.cls ≠ "java/lang/invoke/VarHandle" ∧ (parseMethodDescriptor yX12_level.desc).map (fun d => d.parameters.length) = some 1 := by decide +kernel
set_option maxHeartbeats 2000000 in
set_option maxRecDepth 100000 in
/-- level(9), a fault known -/
theorem RF_level9 (l : Launch) (G : pT) (h0 : Nat) (a : Nat → Nat) (F : Nat → Int32) (B : Nat → Nat → Int32) (at0 : Nat) (T : Nat) (fa : Nat) (K : Nat → Int32) (hat : at0 ≤ T) (hT : T ≤ 5000) (hK : K T = 0 ∨ K T = 3) (hfa : fa ≤ 100) (hfp : 0 < fa) : PM l G pX0 yX12_level cX12_level 6 (some .int) ({ frames := 6, cells := 0, slots := 0, locals := 155 }) [.ref h0, .int 9] (mW G h0 a (upd (upd F 15 (nI fa)) 64 (nI at0)) (updA B 2 K)) (fun (v : Option Value) (u : Unit) => v = some (.int 0)) (fun u => (mW G h0 a (upd (upd F 15 (nI fa)) 64 (nI at0)) (updA B 2 K))) := by
  intro sz
  refine Met.ofW (cc := cX12_level) (maxL := 6) (ret := (some .int)) (by decide) rfl ?_
  intro p e s m args below meth c s₁ B9 hml hv
  obtain ⟨rfl, hsz, hP, hD0, hE, hX⟩ := hv
  have hx := B9.exec
  have hb := B9.bytes
  have hr := B9.returns
  have hts := atoms_spec (ws := Cond.code yX12_level cX12_level 6 (some .int) :: pw) B9.pre
  have hq : ∀ w ∈ pw, w.before _ s = true := fun w h => hts w (List.mem_cons_of_mem _ h)
  have hown : s.vm.findClass RX12 = some m.cls := findClass_of_methodNamed B9.named
  have hlocks := B9.notSynchronized
  subst hsz
  have hD := hD0.self (sz := s.heap.size)
  have hA : ∀ q : Nat, s.heap.size ≤ q → va_A (mW G h0 a (upd (upd F 15 (nI fa)) 64 (nI at0)) (updA B 2 K)) s.heap.size q := fun q h => Or.inr h
  have hP : va_P G.1 pCl (mW G h0 a (upd (upd F 15 (nI fa)) 64 (nI at0)) (updA B 2 K)) s.heap := hP
  generalize va_A (mW G h0 a (upd (upd F 15 (nI fa)) 64 (nI at0)) (updA B 2 K)) s.heap.size = A at hD hE hA ⊢
  have hS : va_S A s.heap s.heap [] := va_S.rf
  have hl := lv_entry ([.ref h0, .int 9]) (n := 6) (Nat.le_of_ble_eq_true rfl)
  rw [lg_entry_eq]
  generalize (lg_sl ([.ref h0, .int 9]) ++ List.replicate (6 - (lg_sl ([.ref h0, .int 9])).length) Slot.unset).toArray = ls at hl ⊢
  have hl : lv_has ls 6 [(0, .ref h0), (1, .int 9)] := hl
  refine lv_iload_n hx hb dX12_level_0 rfl (lv_at hl 1 rfl) ?_
  refine lv_bipush (v := 10) hx hb dX12_level_1 (by decide) ?_
  refine lv_icmp_ne (tgt := 11) hx hb dX12_level_3 (by decide) (fun c1 => ?_) (fun c1 => absurd c1 (by decide))
  refine lv_aload_n hx hb dX12_level_11 rfl (lv_at hl 0 rfl) ?_
  refine lv_iload_n hx hb dX12_level_12 rfl (lv_at hl 1 rfl) ?_
  refine lv_iconst (v := 1) hx hb dX12_level_13 (by decide) ?_
  refine lv_iadd hx hb dX12_level_14 ?_
  refine lv_topi (fun x2 e3 => ?_)
  obtain rfl : x2 = 10 := e3.trans (by decide)
  have hP : va_P G.1 pCl (mW G h0 a (upd (upd (upd (upd F 15 (nI fa)) 64 (nI at0)) 15 (nI fa)) 64 (nI at0)) (updA (updA B 2 K) 2 K)) _ := mW_to (F := F) (l1 := [(15, (nI fa)), (64, (nI at0))]) (l2 := [(15, (nI fa)), (64, (nI at0)), (15, (nI fa)), (64, (nI at0))]) (V := [(nI fa), (nI at0), (nI fa), (nI at0), (nI fa), (nI at0)]) rfl rfl (show (updA B 2 K) = (updA (updA B 2 K) 2 K) from updsA_eq2 (F := B) (l1 := [(2, K)]) (l2 := [(2, K), (2, K)]) (V := [K, K, K]) rfl rfl) hP
  have hD : va_D A (mW G h0 a (upd (upd (upd (upd F 15 (nI fa)) 64 (nI at0)) 15 (nI fa)) 64 (nI at0)) (updA (updA B 2 K) 2 K)) := mW_D hD
  refine pc_V0 (G := G) (As := [.int 10]) (rest := []) hx hb hml hown hq hE hX pX0_al hP hD hS hA hl.1 (RF_level10 l G h0 a (upd (upd F 15 (nI fa)) 64 (nI at0)) (updA B 2 K) at0 T fa K (by omega) (by omega) hK (by omega) (by omega)) (gV pw_1657 pw_1658 pw_1659 pw_1523 pw_1667) hV_X12_level 0 9 rfl rfl rfl rfl (Nat.le_of_ble_eq_true rfl) dX12_level_15 ⟨Nat.le_of_ble_eq_true rfl, Nat.le_of_ble_eq_true rfl⟩ ⟨Nat.le_of_ble_eq_true rfl, Nat.le_of_ble_eq_true rfl⟩ (fun v6 u4 H locs hw5 hP hD hS => ?_)
  obtain rfl : v6 = some (.int 0) := hw5
  have hP : va_P G.1 pCl (mW G h0 a (upd (upd F 15 (nI fa)) 64 (nI at0)) (updA B 2 K)) _ := mW_to (F := F) (l1 := [(15, (nI fa)), (64, (nI at0)), (15, (nI fa)), (64, (nI at0))]) (l2 := [(15, (nI fa)), (64, (nI at0))]) (V := [(nI fa), (nI at0), (nI fa), (nI at0), (nI fa), (nI at0)]) rfl rfl (show (updA (updA B 2 K) 2 K) = (updA B 2 K) from updsA_eq2 (F := B) (l1 := [(2, K), (2, K)]) (l2 := [(2, K)]) (V := [K, K, K]) rfl rfl) hP
  have hD : va_D A (mW G h0 a (upd (upd F 15 (nI fa)) 64 (nI at0)) (updA B 2 K)) := mW_D hD
  refine W.widen (k := 0) (n := 0) (Nat.le_of_ble_eq_true rfl) (Nat.le_of_ble_eq_true rfl) ?_
  refine W.eq (g2 := F0 m 18 ls [.int 0]) rfl ?_
  refine lv_istore_n (lv' := [(2, .int 0), (0, .ref h0), (1, .int 9)]) hx hb dX12_level_18 rfl hl (by decide) rfl (fun ls hl => ?_)
  refine lv_aload_n hx hb dX12_level_19 rfl (lv_at hl 1 rfl) ?_
  refine r_get (v := .int (nI fa)) hx hb hown hq hE hP 15 350 tFX12_15 (by decide) pw_1594 rfl dX12_level_20 ?_
  refine lv_if_ne (tgt := 169) hx hb dX12_level_23 (by decide) (fun c7 => ?_) (fun c7 => (by have n8 : fa = 0 := (nI_eq (a := fa) (b := 0) (by omega) (by omega)).mp c7; omega))
  refine lv_iload_n hx hb dX12_level_169 rfl (lv_at hl 0 rfl) ?_
  have hP : va_P G.1 pCl (mW G h0 a (upd (upd F 15 (nI fa)) 64 (nI at0)) (updA B 2 K)) _ := hP
  have hD : va_D A (mW G h0 a (upd (upd F 15 (nI fa)) 64 (nI at0)) (updA B 2 K)) := mW_D hD
  exact W.iret (v := 0) hx hb hr (fun t9 ht9 hW9 => ⟨⟨_, (), rfl, rfl, by rw [ht9]; exact hP, hD⟩, hS.F ht9⟩) hS.2.2 dX12_level_170
set_option maxHeartbeats 2000000 in
set_option maxRecDepth 100000 in
/-- level(8), a fault known -/
theorem RF_level8 (l : Launch) (G : pT) (h0 : Nat) (a : Nat → Nat) (F : Nat → Int32) (B : Nat → Nat → Int32) (at0 : Nat) (T : Nat) (fa : Nat) (K : Nat → Int32) (hat : at0 ≤ T) (hT : T ≤ 5000) (hK : K T = 0 ∨ K T = 3) (hfa : fa ≤ 100) (hfp : 0 < fa) : PM l G pX0 yX12_level cX12_level 6 (some .int) ({ frames := 7, cells := 0, slots := 0, locals := 180 }) [.ref h0, .int 8] (mW G h0 a (upd (upd F 15 (nI fa)) 64 (nI at0)) (updA B 2 K)) (fun (v : Option Value) (u : Unit) => v = some (.int 0)) (fun u => (mW G h0 a (upd (upd F 15 (nI fa)) 64 (nI at0)) (updA B 2 K))) := by
  intro sz
  refine Met.ofW (cc := cX12_level) (maxL := 6) (ret := (some .int)) (by decide) rfl ?_
  intro p e s m args below meth c s₁ B9 hml hv
  obtain ⟨rfl, hsz, hP, hD0, hE, hX⟩ := hv
  have hx := B9.exec
  have hb := B9.bytes
  have hr := B9.returns
  have hts := atoms_spec (ws := Cond.code yX12_level cX12_level 6 (some .int) :: pw) B9.pre
  have hq : ∀ w ∈ pw, w.before _ s = true := fun w h => hts w (List.mem_cons_of_mem _ h)
  have hown : s.vm.findClass RX12 = some m.cls := findClass_of_methodNamed B9.named
  have hlocks := B9.notSynchronized
  subst hsz
  have hD := hD0.self (sz := s.heap.size)
  have hA : ∀ q : Nat, s.heap.size ≤ q → va_A (mW G h0 a (upd (upd F 15 (nI fa)) 64 (nI at0)) (updA B 2 K)) s.heap.size q := fun q h => Or.inr h
  have hP : va_P G.1 pCl (mW G h0 a (upd (upd F 15 (nI fa)) 64 (nI at0)) (updA B 2 K)) s.heap := hP
  generalize va_A (mW G h0 a (upd (upd F 15 (nI fa)) 64 (nI at0)) (updA B 2 K)) s.heap.size = A at hD hE hA ⊢
  have hS : va_S A s.heap s.heap [] := va_S.rf
  have hl := lv_entry ([.ref h0, .int 8]) (n := 6) (Nat.le_of_ble_eq_true rfl)
  rw [lg_entry_eq]
  generalize (lg_sl ([.ref h0, .int 8]) ++ List.replicate (6 - (lg_sl ([.ref h0, .int 8])).length) Slot.unset).toArray = ls at hl ⊢
  have hl : lv_has ls 6 [(0, .ref h0), (1, .int 8)] := hl
  refine lv_iload_n hx hb dX12_level_0 rfl (lv_at hl 1 rfl) ?_
  refine lv_bipush (v := 10) hx hb dX12_level_1 (by decide) ?_
  refine lv_icmp_ne (tgt := 11) hx hb dX12_level_3 (by decide) (fun c1 => ?_) (fun c1 => absurd c1 (by decide))
  refine lv_aload_n hx hb dX12_level_11 rfl (lv_at hl 0 rfl) ?_
  refine lv_iload_n hx hb dX12_level_12 rfl (lv_at hl 1 rfl) ?_
  refine lv_iconst (v := 1) hx hb dX12_level_13 (by decide) ?_
  refine lv_iadd hx hb dX12_level_14 ?_
  refine lv_topi (fun x2 e3 => ?_)
  obtain rfl : x2 = 9 := e3.trans (by decide)
  have hP : va_P G.1 pCl (mW G h0 a (upd (upd (upd (upd F 15 (nI fa)) 64 (nI at0)) 15 (nI fa)) 64 (nI at0)) (updA (updA B 2 K) 2 K)) _ := mW_to (F := F) (l1 := [(15, (nI fa)), (64, (nI at0))]) (l2 := [(15, (nI fa)), (64, (nI at0)), (15, (nI fa)), (64, (nI at0))]) (V := [(nI fa), (nI at0), (nI fa), (nI at0), (nI fa), (nI at0)]) rfl rfl (show (updA B 2 K) = (updA (updA B 2 K) 2 K) from updsA_eq2 (F := B) (l1 := [(2, K)]) (l2 := [(2, K), (2, K)]) (V := [K, K, K]) rfl rfl) hP
  have hD : va_D A (mW G h0 a (upd (upd (upd (upd F 15 (nI fa)) 64 (nI at0)) 15 (nI fa)) 64 (nI at0)) (updA (updA B 2 K) 2 K)) := mW_D hD
  refine pc_V0 (G := G) (As := [.int 9]) (rest := []) hx hb hml hown hq hE hX pX0_al hP hD hS hA hl.1 (RF_level9 l G h0 a (upd (upd F 15 (nI fa)) 64 (nI at0)) (updA B 2 K) at0 T fa K (by omega) (by omega) hK (by omega) (by omega)) (gV pw_1657 pw_1658 pw_1659 pw_1523 pw_1667) hV_X12_level 0 9 rfl rfl rfl rfl (Nat.le_of_ble_eq_true rfl) dX12_level_15 ⟨Nat.le_of_ble_eq_true rfl, Nat.le_of_ble_eq_true rfl⟩ ⟨Nat.le_of_ble_eq_true rfl, Nat.le_of_ble_eq_true rfl⟩ (fun v6 u4 H locs hw5 hP hD hS => ?_)
  obtain rfl : v6 = some (.int 0) := hw5
  have hP : va_P G.1 pCl (mW G h0 a (upd (upd F 15 (nI fa)) 64 (nI at0)) (updA B 2 K)) _ := mW_to (F := F) (l1 := [(15, (nI fa)), (64, (nI at0)), (15, (nI fa)), (64, (nI at0))]) (l2 := [(15, (nI fa)), (64, (nI at0))]) (V := [(nI fa), (nI at0), (nI fa), (nI at0), (nI fa), (nI at0)]) rfl rfl (show (updA (updA B 2 K) 2 K) = (updA B 2 K) from updsA_eq2 (F := B) (l1 := [(2, K), (2, K)]) (l2 := [(2, K)]) (V := [K, K, K]) rfl rfl) hP
  have hD : va_D A (mW G h0 a (upd (upd F 15 (nI fa)) 64 (nI at0)) (updA B 2 K)) := mW_D hD
  refine W.widen (k := 0) (n := 0) (Nat.le_of_ble_eq_true rfl) (Nat.le_of_ble_eq_true rfl) ?_
  refine W.eq (g2 := F0 m 18 ls [.int 0]) rfl ?_
  refine lv_istore_n (lv' := [(2, .int 0), (0, .ref h0), (1, .int 8)]) hx hb dX12_level_18 rfl hl (by decide) rfl (fun ls hl => ?_)
  refine lv_aload_n hx hb dX12_level_19 rfl (lv_at hl 1 rfl) ?_
  refine r_get (v := .int (nI fa)) hx hb hown hq hE hP 15 350 tFX12_15 (by decide) pw_1594 rfl dX12_level_20 ?_
  refine lv_if_ne (tgt := 169) hx hb dX12_level_23 (by decide) (fun c7 => ?_) (fun c7 => (by have n8 : fa = 0 := (nI_eq (a := fa) (b := 0) (by omega) (by omega)).mp c7; omega))
  refine lv_iload_n hx hb dX12_level_169 rfl (lv_at hl 0 rfl) ?_
  have hP : va_P G.1 pCl (mW G h0 a (upd (upd F 15 (nI fa)) 64 (nI at0)) (updA B 2 K)) _ := hP
  have hD : va_D A (mW G h0 a (upd (upd F 15 (nI fa)) 64 (nI at0)) (updA B 2 K)) := mW_D hD
  exact W.iret (v := 0) hx hb hr (fun t9 ht9 hW9 => ⟨⟨_, (), rfl, rfl, by rw [ht9]; exact hP, hD⟩, hS.F ht9⟩) hS.2.2 dX12_level_170
set_option maxHeartbeats 2000000 in
set_option maxRecDepth 100000 in
/-- level(7), a fault known -/
theorem RF_level7 (l : Launch) (G : pT) (h0 : Nat) (a : Nat → Nat) (F : Nat → Int32) (B : Nat → Nat → Int32) (at0 : Nat) (T : Nat) (fa : Nat) (K : Nat → Int32) (hat : at0 ≤ T) (hT : T ≤ 5000) (hK : K T = 0 ∨ K T = 3) (hfa : fa ≤ 100) (hfp : 0 < fa) : PM l G pX0 yX12_level cX12_level 6 (some .int) ({ frames := 8, cells := 0, slots := 0, locals := 205 }) [.ref h0, .int 7] (mW G h0 a (upd (upd F 15 (nI fa)) 64 (nI at0)) (updA B 2 K)) (fun (v : Option Value) (u : Unit) => v = some (.int 0)) (fun u => (mW G h0 a (upd (upd F 15 (nI fa)) 64 (nI at0)) (updA B 2 K))) := by
  intro sz
  refine Met.ofW (cc := cX12_level) (maxL := 6) (ret := (some .int)) (by decide) rfl ?_
  intro p e s m args below meth c s₁ B9 hml hv
  obtain ⟨rfl, hsz, hP, hD0, hE, hX⟩ := hv
  have hx := B9.exec
  have hb := B9.bytes
  have hr := B9.returns
  have hts := atoms_spec (ws := Cond.code yX12_level cX12_level 6 (some .int) :: pw) B9.pre
  have hq : ∀ w ∈ pw, w.before _ s = true := fun w h => hts w (List.mem_cons_of_mem _ h)
  have hown : s.vm.findClass RX12 = some m.cls := findClass_of_methodNamed B9.named
  have hlocks := B9.notSynchronized
  subst hsz
  have hD := hD0.self (sz := s.heap.size)
  have hA : ∀ q : Nat, s.heap.size ≤ q → va_A (mW G h0 a (upd (upd F 15 (nI fa)) 64 (nI at0)) (updA B 2 K)) s.heap.size q := fun q h => Or.inr h
  have hP : va_P G.1 pCl (mW G h0 a (upd (upd F 15 (nI fa)) 64 (nI at0)) (updA B 2 K)) s.heap := hP
  generalize va_A (mW G h0 a (upd (upd F 15 (nI fa)) 64 (nI at0)) (updA B 2 K)) s.heap.size = A at hD hE hA ⊢
  have hS : va_S A s.heap s.heap [] := va_S.rf
  have hl := lv_entry ([.ref h0, .int 7]) (n := 6) (Nat.le_of_ble_eq_true rfl)
  rw [lg_entry_eq]
  generalize (lg_sl ([.ref h0, .int 7]) ++ List.replicate (6 - (lg_sl ([.ref h0, .int 7])).length) Slot.unset).toArray = ls at hl ⊢
  have hl : lv_has ls 6 [(0, .ref h0), (1, .int 7)] := hl
  refine lv_iload_n hx hb dX12_level_0 rfl (lv_at hl 1 rfl) ?_
  refine lv_bipush (v := 10) hx hb dX12_level_1 (by decide) ?_
  refine lv_icmp_ne (tgt := 11) hx hb dX12_level_3 (by decide) (fun c1 => ?_) (fun c1 => absurd c1 (by decide))
  refine lv_aload_n hx hb dX12_level_11 rfl (lv_at hl 0 rfl) ?_
  refine lv_iload_n hx hb dX12_level_12 rfl (lv_at hl 1 rfl) ?_
  refine lv_iconst (v := 1) hx hb dX12_level_13 (by decide) ?_
  refine lv_iadd hx hb dX12_level_14 ?_
  refine lv_topi (fun x2 e3 => ?_)
  obtain rfl : x2 = 8 := e3.trans (by decide)
  have hP : va_P G.1 pCl (mW G h0 a (upd (upd (upd (upd F 15 (nI fa)) 64 (nI at0)) 15 (nI fa)) 64 (nI at0)) (updA (updA B 2 K) 2 K)) _ := mW_to (F := F) (l1 := [(15, (nI fa)), (64, (nI at0))]) (l2 := [(15, (nI fa)), (64, (nI at0)), (15, (nI fa)), (64, (nI at0))]) (V := [(nI fa), (nI at0), (nI fa), (nI at0), (nI fa), (nI at0)]) rfl rfl (show (updA B 2 K) = (updA (updA B 2 K) 2 K) from updsA_eq2 (F := B) (l1 := [(2, K)]) (l2 := [(2, K), (2, K)]) (V := [K, K, K]) rfl rfl) hP
  have hD : va_D A (mW G h0 a (upd (upd (upd (upd F 15 (nI fa)) 64 (nI at0)) 15 (nI fa)) 64 (nI at0)) (updA (updA B 2 K) 2 K)) := mW_D hD
  refine pc_V0 (G := G) (As := [.int 8]) (rest := []) hx hb hml hown hq hE hX pX0_al hP hD hS hA hl.1 (RF_level8 l G h0 a (upd (upd F 15 (nI fa)) 64 (nI at0)) (updA B 2 K) at0 T fa K (by omega) (by omega) hK (by omega) (by omega)) (gV pw_1657 pw_1658 pw_1659 pw_1523 pw_1667) hV_X12_level 0 9 rfl rfl rfl rfl (Nat.le_of_ble_eq_true rfl) dX12_level_15 ⟨Nat.le_of_ble_eq_true rfl, Nat.le_of_ble_eq_true rfl⟩ ⟨Nat.le_of_ble_eq_true rfl, Nat.le_of_ble_eq_true rfl⟩ (fun v6 u4 H locs hw5 hP hD hS => ?_)
  obtain rfl : v6 = some (.int 0) := hw5
  have hP : va_P G.1 pCl (mW G h0 a (upd (upd F 15 (nI fa)) 64 (nI at0)) (updA B 2 K)) _ := mW_to (F := F) (l1 := [(15, (nI fa)), (64, (nI at0)), (15, (nI fa)), (64, (nI at0))]) (l2 := [(15, (nI fa)), (64, (nI at0))]) (V := [(nI fa), (nI at0), (nI fa), (nI at0), (nI fa), (nI at0)]) rfl rfl (show (updA (updA B 2 K) 2 K) = (updA B 2 K) from updsA_eq2 (F := B) (l1 := [(2, K), (2, K)]) (l2 := [(2, K)]) (V := [K, K, K]) rfl rfl) hP
  have hD : va_D A (mW G h0 a (upd (upd F 15 (nI fa)) 64 (nI at0)) (updA B 2 K)) := mW_D hD
  refine W.widen (k := 0) (n := 0) (Nat.le_of_ble_eq_true rfl) (Nat.le_of_ble_eq_true rfl) ?_
  refine W.eq (g2 := F0 m 18 ls [.int 0]) rfl ?_
  refine lv_istore_n (lv' := [(2, .int 0), (0, .ref h0), (1, .int 7)]) hx hb dX12_level_18 rfl hl (by decide) rfl (fun ls hl => ?_)
  refine lv_aload_n hx hb dX12_level_19 rfl (lv_at hl 1 rfl) ?_
  refine r_get (v := .int (nI fa)) hx hb hown hq hE hP 15 350 tFX12_15 (by decide) pw_1594 rfl dX12_level_20 ?_
  refine lv_if_ne (tgt := 169) hx hb dX12_level_23 (by decide) (fun c7 => ?_) (fun c7 => (by have n8 : fa = 0 := (nI_eq (a := fa) (b := 0) (by omega) (by omega)).mp c7; omega))
  refine lv_iload_n hx hb dX12_level_169 rfl (lv_at hl 0 rfl) ?_
  have hP : va_P G.1 pCl (mW G h0 a (upd (upd F 15 (nI fa)) 64 (nI at0)) (updA B 2 K)) _ := hP
  have hD : va_D A (mW G h0 a (upd (upd F 15 (nI fa)) 64 (nI at0)) (updA B 2 K)) := mW_D hD
  exact W.iret (v := 0) hx hb hr (fun t9 ht9 hW9 => ⟨⟨_, (), rfl, rfl, by rw [ht9]; exact hP, hD⟩, hS.F ht9⟩) hS.2.2 dX12_level_170
set_option maxHeartbeats 2000000 in
set_option maxRecDepth 100000 in
/-- level(6), a fault known -/
theorem RF_level6 (l : Launch) (G : pT) (h0 : Nat) (a : Nat → Nat) (F : Nat → Int32) (B : Nat → Nat → Int32) (at0 : Nat) (T : Nat) (fa : Nat) (K : Nat → Int32) (hat : at0 ≤ T) (hT : T ≤ 5000) (hK : K T = 0 ∨ K T = 3) (hfa : fa ≤ 100) (hfp : 0 < fa) : PM l G pX0 yX12_level cX12_level 6 (some .int) ({ frames := 9, cells := 0, slots := 0, locals := 230 }) [.ref h0, .int 6] (mW G h0 a (upd (upd F 15 (nI fa)) 64 (nI at0)) (updA B 2 K)) (fun (v : Option Value) (u : Unit) => v = some (.int 0)) (fun u => (mW G h0 a (upd (upd F 15 (nI fa)) 64 (nI at0)) (updA B 2 K))) := by
  intro sz
  refine Met.ofW (cc := cX12_level) (maxL := 6) (ret := (some .int)) (by decide) rfl ?_
  intro p e s m args below meth c s₁ B9 hml hv
  obtain ⟨rfl, hsz, hP, hD0, hE, hX⟩ := hv
  have hx := B9.exec
  have hb := B9.bytes
  have hr := B9.returns
  have hts := atoms_spec (ws := Cond.code yX12_level cX12_level 6 (some .int) :: pw) B9.pre
  have hq : ∀ w ∈ pw, w.before _ s = true := fun w h => hts w (List.mem_cons_of_mem _ h)
  have hown : s.vm.findClass RX12 = some m.cls := findClass_of_methodNamed B9.named
  have hlocks := B9.notSynchronized
  subst hsz
  have hD := hD0.self (sz := s.heap.size)
  have hA : ∀ q : Nat, s.heap.size ≤ q → va_A (mW G h0 a (upd (upd F 15 (nI fa)) 64 (nI at0)) (updA B 2 K)) s.heap.size q := fun q h => Or.inr h
  have hP : va_P G.1 pCl (mW G h0 a (upd (upd F 15 (nI fa)) 64 (nI at0)) (updA B 2 K)) s.heap := hP
  generalize va_A (mW G h0 a (upd (upd F 15 (nI fa)) 64 (nI at0)) (updA B 2 K)) s.heap.size = A at hD hE hA ⊢
  have hS : va_S A s.heap s.heap [] := va_S.rf
  have hl := lv_entry ([.ref h0, .int 6]) (n := 6) (Nat.le_of_ble_eq_true rfl)
  rw [lg_entry_eq]
  generalize (lg_sl ([.ref h0, .int 6]) ++ List.replicate (6 - (lg_sl ([.ref h0, .int 6])).length) Slot.unset).toArray = ls at hl ⊢
  have hl : lv_has ls 6 [(0, .ref h0), (1, .int 6)] := hl
  refine lv_iload_n hx hb dX12_level_0 rfl (lv_at hl 1 rfl) ?_
  refine lv_bipush (v := 10) hx hb dX12_level_1 (by decide) ?_
  refine lv_icmp_ne (tgt := 11) hx hb dX12_level_3 (by decide) (fun c1 => ?_) (fun c1 => absurd c1 (by decide))
  refine lv_aload_n hx hb dX12_level_11 rfl (lv_at hl 0 rfl) ?_
  refine lv_iload_n hx hb dX12_level_12 rfl (lv_at hl 1 rfl) ?_
  refine lv_iconst (v := 1) hx hb dX12_level_13 (by decide) ?_
  refine lv_iadd hx hb dX12_level_14 ?_
  refine lv_topi (fun x2 e3 => ?_)
  obtain rfl : x2 = 7 := e3.trans (by decide)
  have hP : va_P G.1 pCl (mW G h0 a (upd (upd (upd (upd F 15 (nI fa)) 64 (nI at0)) 15 (nI fa)) 64 (nI at0)) (updA (updA B 2 K) 2 K)) _ := mW_to (F := F) (l1 := [(15, (nI fa)), (64, (nI at0))]) (l2 := [(15, (nI fa)), (64, (nI at0)), (15, (nI fa)), (64, (nI at0))]) (V := [(nI fa), (nI at0), (nI fa), (nI at0), (nI fa), (nI at0)]) rfl rfl (show (updA B 2 K) = (updA (updA B 2 K) 2 K) from updsA_eq2 (F := B) (l1 := [(2, K)]) (l2 := [(2, K), (2, K)]) (V := [K, K, K]) rfl rfl) hP
  have hD : va_D A (mW G h0 a (upd (upd (upd (upd F 15 (nI fa)) 64 (nI at0)) 15 (nI fa)) 64 (nI at0)) (updA (updA B 2 K) 2 K)) := mW_D hD
  refine pc_V0 (G := G) (As := [.int 7]) (rest := []) hx hb hml hown hq hE hX pX0_al hP hD hS hA hl.1 (RF_level7 l G h0 a (upd (upd F 15 (nI fa)) 64 (nI at0)) (updA B 2 K) at0 T fa K (by omega) (by omega) hK (by omega) (by omega)) (gV pw_1657 pw_1658 pw_1659 pw_1523 pw_1667) hV_X12_level 0 9 rfl rfl rfl rfl (Nat.le_of_ble_eq_true rfl) dX12_level_15 ⟨Nat.le_of_ble_eq_true rfl, Nat.le_of_ble_eq_true rfl⟩ ⟨Nat.le_of_ble_eq_true rfl, Nat.le_of_ble_eq_true rfl⟩ (fun v6 u4 H locs hw5 hP hD hS => ?_)
  obtain rfl : v6 = some (.int 0) := hw5
  have hP : va_P G.1 pCl (mW G h0 a (upd (upd F 15 (nI fa)) 64 (nI at0)) (updA B 2 K)) _ := mW_to (F := F) (l1 := [(15, (nI fa)), (64, (nI at0)), (15, (nI fa)), (64, (nI at0))]) (l2 := [(15, (nI fa)), (64, (nI at0))]) (V := [(nI fa), (nI at0), (nI fa), (nI at0), (nI fa), (nI at0)]) rfl rfl (show (updA (updA B 2 K) 2 K) = (updA B 2 K) from updsA_eq2 (F := B) (l1 := [(2, K), (2, K)]) (l2 := [(2, K)]) (V := [K, K, K]) rfl rfl) hP
  have hD : va_D A (mW G h0 a (upd (upd F 15 (nI fa)) 64 (nI at0)) (updA B 2 K)) := mW_D hD
  refine W.widen (k := 0) (n := 0) (Nat.le_of_ble_eq_true rfl) (Nat.le_of_ble_eq_true rfl) ?_
  refine W.eq (g2 := F0 m 18 ls [.int 0]) rfl ?_
  refine lv_istore_n (lv' := [(2, .int 0), (0, .ref h0), (1, .int 6)]) hx hb dX12_level_18 rfl hl (by decide) rfl (fun ls hl => ?_)
  refine lv_aload_n hx hb dX12_level_19 rfl (lv_at hl 1 rfl) ?_
  refine r_get (v := .int (nI fa)) hx hb hown hq hE hP 15 350 tFX12_15 (by decide) pw_1594 rfl dX12_level_20 ?_
  refine lv_if_ne (tgt := 169) hx hb dX12_level_23 (by decide) (fun c7 => ?_) (fun c7 => (by have n8 : fa = 0 := (nI_eq (a := fa) (b := 0) (by omega) (by omega)).mp c7; omega))
  refine lv_iload_n hx hb dX12_level_169 rfl (lv_at hl 0 rfl) ?_
  have hP : va_P G.1 pCl (mW G h0 a (upd (upd F 15 (nI fa)) 64 (nI at0)) (updA B 2 K)) _ := hP
  have hD : va_D A (mW G h0 a (upd (upd F 15 (nI fa)) 64 (nI at0)) (updA B 2 K)) := mW_D hD
  exact W.iret (v := 0) hx hb hr (fun t9 ht9 hW9 => ⟨⟨_, (), rfl, rfl, by rw [ht9]; exact hP, hD⟩, hS.F ht9⟩) hS.2.2 dX12_level_170
set_option maxHeartbeats 2000000 in
set_option maxRecDepth 100000 in
/-- level(5), a fault known -/
theorem RF_level5 (l : Launch) (G : pT) (h0 : Nat) (a : Nat → Nat) (F : Nat → Int32) (B : Nat → Nat → Int32) (at0 : Nat) (T : Nat) (fa : Nat) (K : Nat → Int32) (hat : at0 ≤ T) (hT : T ≤ 5000) (hK : K T = 0 ∨ K T = 3) (hfa : fa ≤ 100) (hfp : 0 < fa) : PM l G pX0 yX12_level cX12_level 6 (some .int) ({ frames := 10, cells := 0, slots := 0, locals := 255 }) [.ref h0, .int 5] (mW G h0 a (upd (upd F 15 (nI fa)) 64 (nI at0)) (updA B 2 K)) (fun (v : Option Value) (u : Unit) => v = some (.int 0)) (fun u => (mW G h0 a (upd (upd F 15 (nI fa)) 64 (nI at0)) (updA B 2 K))) := by
  intro sz
  refine Met.ofW (cc := cX12_level) (maxL := 6) (ret := (some .int)) (by decide) rfl ?_
  intro p e s m args below meth c s₁ B9 hml hv
  obtain ⟨rfl, hsz, hP, hD0, hE, hX⟩ := hv
  have hx := B9.exec
  have hb := B9.bytes
  have hr := B9.returns
  have hts := atoms_spec (ws := Cond.code yX12_level cX12_level 6 (some .int) :: pw) B9.pre
  have hq : ∀ w ∈ pw, w.before _ s = true := fun w h => hts w (List.mem_cons_of_mem _ h)
  have hown : s.vm.findClass RX12 = some m.cls := findClass_of_methodNamed B9.named
  have hlocks := B9.notSynchronized
  subst hsz
  have hD := hD0.self (sz := s.heap.size)
  have hA : ∀ q : Nat, s.heap.size ≤ q → va_A (mW G h0 a (upd (upd F 15 (nI fa)) 64 (nI at0)) (updA B 2 K)) s.heap.size q := fun q h => Or.inr h
  have hP : va_P G.1 pCl (mW G h0 a (upd (upd F 15 (nI fa)) 64 (nI at0)) (updA B 2 K)) s.heap := hP
  generalize va_A (mW G h0 a (upd (upd F 15 (nI fa)) 64 (nI at0)) (updA B 2 K)) s.heap.size = A at hD hE hA ⊢
  have hS : va_S A s.heap s.heap [] := va_S.rf
  have hl := lv_entry ([.ref h0, .int 5]) (n := 6) (Nat.le_of_ble_eq_true rfl)
  rw [lg_entry_eq]
  generalize (lg_sl ([.ref h0, .int 5]) ++ List.replicate (6 - (lg_sl ([.ref h0, .int 5])).length) Slot.unset).toArray = ls at hl ⊢
  have hl : lv_has ls 6 [(0, .ref h0), (1, .int 5)] := hl
  refine lv_iload_n hx hb dX12_level_0 rfl (lv_at hl 1 rfl) ?_
  refine lv_bipush (v := 10) hx hb dX12_level_1 (by decide) ?_
  refine lv_icmp_ne (tgt := 11) hx hb dX12_level_3 (by decide) (fun c1 => ?_) (fun c1 => absurd c1 (by decide))
  refine lv_aload_n hx hb dX12_level_11 rfl (lv_at hl 0 rfl) ?_
  refine lv_iload_n hx hb dX12_level_12 rfl (lv_at hl 1 rfl) ?_
  refine lv_iconst (v := 1) hx hb dX12_level_13 (by decide) ?_
  refine lv_iadd hx hb dX12_level_14 ?_
  refine lv_topi (fun x2 e3 => ?_)
  obtain rfl : x2 = 6 := e3.trans (by decide)
  have hP : va_P G.1 pCl (mW G h0 a (upd (upd (upd (upd F 15 (nI fa)) 64 (nI at0)) 15 (nI fa)) 64 (nI at0)) (updA (updA B 2 K) 2 K)) _ := mW_to (F := F) (l1 := [(15, (nI fa)), (64, (nI at0))]) (l2 := [(15, (nI fa)), (64, (nI at0)), (15, (nI fa)), (64, (nI at0))]) (V := [(nI fa), (nI at0), (nI fa), (nI at0), (nI fa), (nI at0)]) rfl rfl (show (updA B 2 K) = (updA (updA B 2 K) 2 K) from updsA_eq2 (F := B) (l1 := [(2, K)]) (l2 := [(2, K), (2, K)]) (V := [K, K, K]) rfl rfl) hP
  have hD : va_D A (mW G h0 a (upd (upd (upd (upd F 15 (nI fa)) 64 (nI at0)) 15 (nI fa)) 64 (nI at0)) (updA (updA B 2 K) 2 K)) := mW_D hD
  refine pc_V0 (G := G) (As := [.int 6]) (rest := []) hx hb hml hown hq hE hX pX0_al hP hD hS hA hl.1 (RF_level6 l G h0 a (upd (upd F 15 (nI fa)) 64 (nI at0)) (updA B 2 K) at0 T fa K (by omega) (by omega) hK (by omega) (by omega)) (gV pw_1657 pw_1658 pw_1659 pw_1523 pw_1667) hV_X12_level 0 9 rfl rfl rfl rfl (Nat.le_of_ble_eq_true rfl) dX12_level_15 ⟨Nat.le_of_ble_eq_true rfl, Nat.le_of_ble_eq_true rfl⟩ ⟨Nat.le_of_ble_eq_true rfl, Nat.le_of_ble_eq_true rfl⟩ (fun v6 u4 H locs hw5 hP hD hS => ?_)
  obtain rfl : v6 = some (.int 0) := hw5
  have hP : va_P G.1 pCl (mW G h0 a (upd (upd F 15 (nI fa)) 64 (nI at0)) (updA B 2 K)) _ := mW_to (F := F) (l1 := [(15, (nI fa)), (64, (nI at0)), (15, (nI fa)), (64, (nI at0))]) (l2 := [(15, (nI fa)), (64, (nI at0))]) (V := [(nI fa), (nI at0), (nI fa), (nI at0), (nI fa), (nI at0)]) rfl rfl (show (updA (updA B 2 K) 2 K) = (updA B 2 K) from updsA_eq2 (F := B) (l1 := [(2, K), (2, K)]) (l2 := [(2, K)]) (V := [K, K, K]) rfl rfl) hP
  have hD : va_D A (mW G h0 a (upd (upd F 15 (nI fa)) 64 (nI at0)) (updA B 2 K)) := mW_D hD
  refine W.widen (k := 0) (n := 0) (Nat.le_of_ble_eq_true rfl) (Nat.le_of_ble_eq_true rfl) ?_
  refine W.eq (g2 := F0 m 18 ls [.int 0]) rfl ?_
  refine lv_istore_n (lv' := [(2, .int 0), (0, .ref h0), (1, .int 5)]) hx hb dX12_level_18 rfl hl (by decide) rfl (fun ls hl => ?_)
  refine lv_aload_n hx hb dX12_level_19 rfl (lv_at hl 1 rfl) ?_
  refine r_get (v := .int (nI fa)) hx hb hown hq hE hP 15 350 tFX12_15 (by decide) pw_1594 rfl dX12_level_20 ?_
  refine lv_if_ne (tgt := 169) hx hb dX12_level_23 (by decide) (fun c7 => ?_) (fun c7 => (by have n8 : fa = 0 := (nI_eq (a := fa) (b := 0) (by omega) (by omega)).mp c7; omega))
  refine lv_iload_n hx hb dX12_level_169 rfl (lv_at hl 0 rfl) ?_
  have hP : va_P G.1 pCl (mW G h0 a (upd (upd F 15 (nI fa)) 64 (nI at0)) (updA B 2 K)) _ := hP
  have hD : va_D A (mW G h0 a (upd (upd F 15 (nI fa)) 64 (nI at0)) (updA B 2 K)) := mW_D hD
  exact W.iret (v := 0) hx hb hr (fun t9 ht9 hW9 => ⟨⟨_, (), rfl, rfl, by rw [ht9]; exact hP, hD⟩, hS.F ht9⟩) hS.2.2 dX12_level_170
set_option maxHeartbeats 2000000 in
set_option maxRecDepth 100000 in
/-- level(4), a fault known -/
theorem RF_level4 (l : Launch) (G : pT) (h0 : Nat) (a : Nat → Nat) (F : Nat → Int32) (B : Nat → Nat → Int32) (at0 : Nat) (T : Nat) (fa : Nat) (K : Nat → Int32) (hat : at0 ≤ T) (hT : T ≤ 5000) (hK : K T = 0 ∨ K T = 3) (hfa : fa ≤ 100) (hfp : 0 < fa) : PM l G pX0 yX12_level cX12_level 6 (some .int) ({ frames := 11, cells := 0, slots := 0, locals := 280 }) [.ref h0, .int 4] (mW G h0 a (upd (upd F 15 (nI fa)) 64 (nI at0)) (updA B 2 K)) (fun (v : Option Value) (u : Unit) => v = some (.int 0)) (fun u => (mW G h0 a (upd (upd F 15 (nI fa)) 64 (nI at0)) (updA B 2 K))) := by
  intro sz
  refine Met.ofW (cc := cX12_level) (maxL := 6) (ret := (some .int)) (by decide) rfl ?_
  intro p e s m args below meth c s₁ B9 hml hv
  obtain ⟨rfl, hsz, hP, hD0, hE, hX⟩ := hv
  have hx := B9.exec
  have hb := B9.bytes
  have hr := B9.returns
  have hts := atoms_spec (ws := Cond.code yX12_level cX12_level 6 (some .int) :: pw) B9.pre
  have hq : ∀ w ∈ pw, w.before _ s = true := fun w h => hts w (List.mem_cons_of_mem _ h)
  have hown : s.vm.findClass RX12 = some m.cls := findClass_of_methodNamed B9.named
  have hlocks := B9.notSynchronized
  subst hsz
  have hD := hD0.self (sz := s.heap.size)
  have hA : ∀ q : Nat, s.heap.size ≤ q → va_A (mW G h0 a (upd (upd F 15 (nI fa)) 64 (nI at0)) (updA B 2 K)) s.heap.size q := fun q h => Or.inr h
  have hP : va_P G.1 pCl (mW G h0 a (upd (upd F 15 (nI fa)) 64 (nI at0)) (updA B 2 K)) s.heap := hP
  generalize va_A (mW G h0 a (upd (upd F 15 (nI fa)) 64 (nI at0)) (updA B 2 K)) s.heap.size = A at hD hE hA ⊢
  have hS : va_S A s.heap s.heap [] := va_S.rf
  have hl := lv_entry ([.ref h0, .int 4]) (n := 6) (Nat.le_of_ble_eq_true rfl)
  rw [lg_entry_eq]
  generalize (lg_sl ([.ref h0, .int 4]) ++ List.replicate (6 - (lg_sl ([.ref h0, .int 4])).length) Slot.unset).toArray = ls at hl ⊢
  have hl : lv_has ls 6 [(0, .ref h0), (1, .int 4)] := hl
  refine lv_iload_n hx hb dX12_level_0 rfl (lv_at hl 1 rfl) ?_
  refine lv_bipush (v := 10) hx hb dX12_level_1 (by decide) ?_
  refine lv_icmp_ne (tgt := 11) hx hb dX12_level_3 (by decide) (fun c1 => ?_) (fun c1 => absurd c1 (by decide))
  refine lv_aload_n hx hb dX12_level_11 rfl (lv_at hl 0 rfl) ?_
  refine lv_iload_n hx hb dX12_level_12 rfl (lv_at hl 1 rfl) ?_
  refine lv_iconst (v := 1) hx hb dX12_level_13 (by decide) ?_
  refine lv_iadd hx hb dX12_level_14 ?_
  refine lv_topi (fun x2 e3 => ?_)
  obtain rfl : x2 = 5 := e3.trans (by decide)
  have hP : va_P G.1 pCl (mW G h0 a (upd (upd (upd (upd F 15 (nI fa)) 64 (nI at0)) 15 (nI fa)) 64 (nI at0)) (updA (updA B 2 K) 2 K)) _ := mW_to (F := F) (l1 := [(15, (nI fa)), (64, (nI at0))]) (l2 := [(15, (nI fa)), (64, (nI at0)), (15, (nI fa)), (64, (nI at0))]) (V := [(nI fa), (nI at0), (nI fa), (nI at0), (nI fa), (nI at0)]) rfl rfl (show (updA B 2 K) = (updA (updA B 2 K) 2 K) from updsA_eq2 (F := B) (l1 := [(2, K)]) (l2 := [(2, K), (2, K)]) (V := [K, K, K]) rfl rfl) hP
  have hD : va_D A (mW G h0 a (upd (upd (upd (upd F 15 (nI fa)) 64 (nI at0)) 15 (nI fa)) 64 (nI at0)) (updA (updA B 2 K) 2 K)) := mW_D hD
  refine pc_V0 (G := G) (As := [.int 5]) (rest := []) hx hb hml hown hq hE hX pX0_al hP hD hS hA hl.1 (RF_level5 l G h0 a (upd (upd F 15 (nI fa)) 64 (nI at0)) (updA B 2 K) at0 T fa K (by omega) (by omega) hK (by omega) (by omega)) (gV pw_1657 pw_1658 pw_1659 pw_1523 pw_1667) hV_X12_level 0 9 rfl rfl rfl rfl (Nat.le_of_ble_eq_true rfl) dX12_level_15 ⟨Nat.le_of_ble_eq_true rfl, Nat.le_of_ble_eq_true rfl⟩ ⟨Nat.le_of_ble_eq_true rfl, Nat.le_of_ble_eq_true rfl⟩ (fun v6 u4 H locs hw5 hP hD hS => ?_)
  obtain rfl : v6 = some (.int 0) := hw5
  have hP : va_P G.1 pCl (mW G h0 a (upd (upd F 15 (nI fa)) 64 (nI at0)) (updA B 2 K)) _ := mW_to (F := F) (l1 := [(15, (nI fa)), (64, (nI at0)), (15, (nI fa)), (64, (nI at0))]) (l2 := [(15, (nI fa)), (64, (nI at0))]) (V := [(nI fa), (nI at0), (nI fa), (nI at0), (nI fa), (nI at0)]) rfl rfl (show (updA (updA B 2 K) 2 K) = (updA B 2 K) from updsA_eq2 (F := B) (l1 := [(2, K), (2, K)]) (l2 := [(2, K)]) (V := [K, K, K]) rfl rfl) hP
  have hD : va_D A (mW G h0 a (upd (upd F 15 (nI fa)) 64 (nI at0)) (updA B 2 K)) := mW_D hD
  refine W.widen (k := 0) (n := 0) (Nat.le_of_ble_eq_true rfl) (Nat.le_of_ble_eq_true rfl) ?_
  refine W.eq (g2 := F0 m 18 ls [.int 0]) rfl ?_
  refine lv_istore_n (lv' := [(2, .int 0), (0, .ref h0), (1, .int 4)]) hx hb dX12_level_18 rfl hl (by decide) rfl (fun ls hl => ?_)
  refine lv_aload_n hx hb dX12_level_19 rfl (lv_at hl 1 rfl) ?_
  refine r_get (v := .int (nI fa)) hx hb hown hq hE hP 15 350 tFX12_15 (by decide) pw_1594 rfl dX12_level_20 ?_
  refine lv_if_ne (tgt := 169) hx hb dX12_level_23 (by decide) (fun c7 => ?_) (fun c7 => (by have n8 : fa = 0 := (nI_eq (a := fa) (b := 0) (by omega) (by omega)).mp c7; omega))
  refine lv_iload_n hx hb dX12_level_169 rfl (lv_at hl 0 rfl) ?_
  have hP : va_P G.1 pCl (mW G h0 a (upd (upd F 15 (nI fa)) 64 (nI at0)) (updA B 2 K)) _ := hP
  have hD : va_D A (mW G h0 a (upd (upd F 15 (nI fa)) 64 (nI at0)) (updA B 2 K)) := mW_D hD
  exact W.iret (v := 0) hx hb hr (fun t9 ht9 hW9 => ⟨⟨_, (), rfl, rfl, by rw [ht9]; exact hP, hD⟩, hS.F ht9⟩) hS.2.2 dX12_level_170
set_option maxHeartbeats 2000000 in
set_option maxRecDepth 100000 in
/-- level(3), a fault known -/
theorem RF_level3 (l : Launch) (G : pT) (h0 : Nat) (a : Nat → Nat) (F : Nat → Int32) (B : Nat → Nat → Int32) (at0 : Nat) (T : Nat) (fa : Nat) (K : Nat → Int32) (hat : at0 ≤ T) (hT : T ≤ 5000) (hK : K T = 0 ∨ K T = 3) (hfa : fa ≤ 100) (hfp : 0 < fa) : PM l G pX0 yX12_level cX12_level 6 (some .int) ({ frames := 12, cells := 0, slots := 0, locals := 305 }) [.ref h0, .int 3] (mW G h0 a (upd (upd F 15 (nI fa)) 64 (nI at0)) (updA B 2 K)) (fun (v : Option Value) (u : Unit) => v = some (.int 0)) (fun u => (mW G h0 a (upd (upd F 15 (nI fa)) 64 (nI at0)) (updA B 2 K))) := by
  intro sz
  refine Met.ofW (cc := cX12_level) (maxL := 6) (ret := (some .int)) (by decide) rfl ?_
  intro p e s m args below meth c s₁ B9 hml hv
  obtain ⟨rfl, hsz, hP, hD0, hE, hX⟩ := hv
  have hx := B9.exec
  have hb := B9.bytes
  have hr := B9.returns
  have hts := atoms_spec (ws := Cond.code yX12_level cX12_level 6 (some .int) :: pw) B9.pre
  have hq : ∀ w ∈ pw, w.before _ s = true := fun w h => hts w (List.mem_cons_of_mem _ h)
  have hown : s.vm.findClass RX12 = some m.cls := findClass_of_methodNamed B9.named
  have hlocks := B9.notSynchronized
  subst hsz
  have hD := hD0.self (sz := s.heap.size)
  have hA : ∀ q : Nat, s.heap.size ≤ q → va_A (mW G h0 a (upd (upd F 15 (nI fa)) 64 (nI at0)) (updA B 2 K)) s.heap.size q := fun q h => Or.inr h
  have hP : va_P G.1 pCl (mW G h0 a (upd (upd F 15 (nI fa)) 64 (nI at0)) (updA B 2 K)) s.heap := hP
  generalize va_A (mW G h0 a (upd (upd F 15 (nI fa)) 64 (nI at0)) (updA B 2 K)) s.heap.size = A at hD hE hA ⊢
  have hS : va_S A s.heap s.heap [] := va_S.rf
  have hl := lv_entry ([.ref h0, .int 3]) (n := 6) (Nat.le_of_ble_eq_true rfl)
  rw [lg_entry_eq]
  generalize (lg_sl ([.ref h0, .int 3]) ++ List.replicate (6 - (lg_sl ([.ref h0, .int 3])).length) Slot.unset).toArray = ls at hl ⊢
  have hl : lv_has ls 6 [(0, .ref h0), (1, .int 3)] := hl
  refine lv_iload_n hx hb dX12_level_0 rfl (lv_at hl 1 rfl) ?_
  refine lv_bipush (v := 10) hx hb dX12_level_1 (by decide) ?_
  refine lv_icmp_ne (tgt := 11) hx hb dX12_level_3 (by decide) (fun c1 => ?_) (fun c1 => absurd c1 (by decide))
  refine lv_aload_n hx hb dX12_level_11 rfl (lv_at hl 0 rfl) ?_
  refine lv_iload_n hx hb dX12_level_12 rfl (lv_at hl 1 rfl) ?_
  refine lv_iconst (v := 1) hx hb dX12_level_13 (by decide) ?_
  refine lv_iadd hx hb dX12_level_14 ?_
  refine lv_topi (fun x2 e3 => ?_)
  obtain rfl : x2 = 4 := e3.trans (by decide)
  have hP : va_P G.1 pCl (mW G h0 a (upd (upd (upd (upd F 15 (nI fa)) 64 (nI at0)) 15 (nI fa)) 64 (nI at0)) (updA (updA B 2 K) 2 K)) _ := mW_to (F := F) (l1 := [(15, (nI fa)), (64, (nI at0))]) (l2 := [(15, (nI fa)), (64, (nI at0)), (15, (nI fa)), (64, (nI at0))]) (V := [(nI fa), (nI at0), (nI fa), (nI at0), (nI fa), (nI at0)]) rfl rfl (show (updA B 2 K) = (updA (updA B 2 K) 2 K) from updsA_eq2 (F := B) (l1 := [(2, K)]) (l2 := [(2, K), (2, K)]) (V := [K, K, K]) rfl rfl) hP
  have hD : va_D A (mW G h0 a (upd (upd (upd (upd F 15 (nI fa)) 64 (nI at0)) 15 (nI fa)) 64 (nI at0)) (updA (updA B 2 K) 2 K)) := mW_D hD
  refine pc_V0 (G := G) (As := [.int 4]) (rest := []) hx hb hml hown hq hE hX pX0_al hP hD hS hA hl.1 (RF_level4 l G h0 a (upd (upd F 15 (nI fa)) 64 (nI at0)) (updA B 2 K) at0 T fa K (by omega) (by omega) hK (by omega) (by omega)) (gV pw_1657 pw_1658 pw_1659 pw_1523 pw_1667) hV_X12_level 0 9 rfl rfl rfl rfl (Nat.le_of_ble_eq_true rfl) dX12_level_15 ⟨Nat.le_of_ble_eq_true rfl, Nat.le_of_ble_eq_true rfl⟩ ⟨Nat.le_of_ble_eq_true rfl, Nat.le_of_ble_eq_true rfl⟩ (fun v6 u4 H locs hw5 hP hD hS => ?_)
  obtain rfl : v6 = some (.int 0) := hw5
  have hP : va_P G.1 pCl (mW G h0 a (upd (upd F 15 (nI fa)) 64 (nI at0)) (updA B 2 K)) _ := mW_to (F := F) (l1 := [(15, (nI fa)), (64, (nI at0)), (15, (nI fa)), (64, (nI at0))]) (l2 := [(15, (nI fa)), (64, (nI at0))]) (V := [(nI fa), (nI at0), (nI fa), (nI at0), (nI fa), (nI at0)]) rfl rfl (show (updA (updA B 2 K) 2 K) = (updA B 2 K) from updsA_eq2 (F := B) (l1 := [(2, K), (2, K)]) (l2 := [(2, K)]) (V := [K, K, K]) rfl rfl) hP
  have hD : va_D A (mW G h0 a (upd (upd F 15 (nI fa)) 64 (nI at0)) (updA B 2 K)) := mW_D hD
  refine W.widen (k := 0) (n := 0) (Nat.le_of_ble_eq_true rfl) (Nat.le_of_ble_eq_true rfl) ?_
  refine W.eq (g2 := F0 m 18 ls [.int 0]) rfl ?_
  refine lv_istore_n (lv' := [(2, .int 0), (0, .ref h0), (1, .int 3)]) hx hb dX12_level_18 rfl hl (by decide) rfl (fun ls hl => ?_)
  refine lv_aload_n hx hb dX12_level_19 rfl (lv_at hl 1 rfl) ?_
  refine r_get (v := .int (nI fa)) hx hb hown hq hE hP 15 350 tFX12_15 (by decide) pw_1594 rfl dX12_level_20 ?_
  refine lv_if_ne (tgt := 169) hx hb dX12_level_23 (by decide) (fun c7 => ?_) (fun c7 => (by have n8 : fa = 0 := (nI_eq (a := fa) (b := 0) (by omega) (by omega)).mp c7; omega))
  refine lv_iload_n hx hb dX12_level_169 rfl (lv_at hl 0 rfl) ?_
  have hP : va_P G.1 pCl (mW G h0 a (upd (upd F 15 (nI fa)) 64 (nI at0)) (updA B 2 K)) _ := hP
  have hD : va_D A (mW G h0 a (upd (upd F 15 (nI fa)) 64 (nI at0)) (updA B 2 K)) := mW_D hD
  exact W.iret (v := 0) hx hb hr (fun t9 ht9 hW9 => ⟨⟨_, (), rfl, rfl, by rw [ht9]; exact hP, hD⟩, hS.F ht9⟩) hS.2.2 dX12_level_170
set_option maxHeartbeats 2000000 in
set_option maxRecDepth 100000 in
/-- level(2), a fault known -/
theorem RF_level2 (l : Launch) (G : pT) (h0 : Nat) (a : Nat → Nat) (F : Nat → Int32) (B : Nat → Nat → Int32) (at0 : Nat) (T : Nat) (fa : Nat) (K : Nat → Int32) (hat : at0 ≤ T) (hT : T ≤ 5000) (hK : K T = 0 ∨ K T = 3) (hfa : fa ≤ 100) (hfp : 0 < fa) : PM l G pX0 yX12_level cX12_level 6 (some .int) ({ frames := 13, cells := 0, slots := 0, locals := 330 }) [.ref h0, .int 2] (mW G h0 a (upd (upd F 15 (nI fa)) 64 (nI at0)) (updA B 2 K)) (fun (v : Option Value) (u : Unit) => v = some (.int 0)) (fun u => (mW G h0 a (upd (upd F 15 (nI fa)) 64 (nI at0)) (updA B 2 K))) := by
  intro sz
  refine Met.ofW (cc := cX12_level) (maxL := 6) (ret := (some .int)) (by decide) rfl ?_
  intro p e s m args below meth c s₁ B9 hml hv
  obtain ⟨rfl, hsz, hP, hD0, hE, hX⟩ := hv
  have hx := B9.exec
  have hb := B9.bytes
  have hr := B9.returns
  have hts := atoms_spec (ws := Cond.code yX12_level cX12_level 6 (some .int) :: pw) B9.pre
  have hq : ∀ w ∈ pw, w.before _ s = true := fun w h => hts w (List.mem_cons_of_mem _ h)
  have hown : s.vm.findClass RX12 = some m.cls := findClass_of_methodNamed B9.named
  have hlocks := B9.notSynchronized
  subst hsz
  have hD := hD0.self (sz := s.heap.size)
  have hA : ∀ q : Nat, s.heap.size ≤ q → va_A (mW G h0 a (upd (upd F 15 (nI fa)) 64 (nI at0)) (updA B 2 K)) s.heap.size q := fun q h => Or.inr h
  have hP : va_P G.1 pCl (mW G h0 a (upd (upd F 15 (nI fa)) 64 (nI at0)) (updA B 2 K)) s.heap := hP
  generalize va_A (mW G h0 a (upd (upd F 15 (nI fa)) 64 (nI at0)) (updA B 2 K)) s.heap.size = A at hD hE hA ⊢
  have hS : va_S A s.heap s.heap [] := va_S.rf
  have hl := lv_entry ([.ref h0, .int 2]) (n := 6) (Nat.le_of_ble_eq_true rfl)
  rw [lg_entry_eq]
  generalize (lg_sl ([.ref h0, .int 2]) ++ List.replicate (6 - (lg_sl ([.ref h0, .int 2])).length) Slot.unset).toArray = ls at hl ⊢
  have hl : lv_has ls 6 [(0, .ref h0), (1, .int 2)] := hl
  refine lv_iload_n hx hb dX12_level_0 rfl (lv_at hl 1 rfl) ?_
  refine lv_bipush (v := 10) hx hb dX12_level_1 (by decide) ?_
  refine lv_icmp_ne (tgt := 11) hx hb dX12_level_3 (by decide) (fun c1 => ?_) (fun c1 => absurd c1 (by decide))
  refine lv_aload_n hx hb dX12_level_11 rfl (lv_at hl 0 rfl) ?_
  refine lv_iload_n hx hb dX12_level_12 rfl (lv_at hl 1 rfl) ?_
  refine lv_iconst (v := 1) hx hb dX12_level_13 (by decide) ?_
  refine lv_iadd hx hb dX12_level_14 ?_
  refine lv_topi (fun x2 e3 => ?_)
  obtain rfl : x2 = 3 := e3.trans (by decide)
  have hP : va_P G.1 pCl (mW G h0 a (upd (upd (upd (upd F 15 (nI fa)) 64 (nI at0)) 15 (nI fa)) 64 (nI at0)) (updA (updA B 2 K) 2 K)) _ := mW_to (F := F) (l1 := [(15, (nI fa)), (64, (nI at0))]) (l2 := [(15, (nI fa)), (64, (nI at0)), (15, (nI fa)), (64, (nI at0))]) (V := [(nI fa), (nI at0), (nI fa), (nI at0), (nI fa), (nI at0)]) rfl rfl (show (updA B 2 K) = (updA (updA B 2 K) 2 K) from updsA_eq2 (F := B) (l1 := [(2, K)]) (l2 := [(2, K), (2, K)]) (V := [K, K, K]) rfl rfl) hP
  have hD : va_D A (mW G h0 a (upd (upd (upd (upd F 15 (nI fa)) 64 (nI at0)) 15 (nI fa)) 64 (nI at0)) (updA (updA B 2 K) 2 K)) := mW_D hD
  refine pc_V0 (G := G) (As := [.int 3]) (rest := []) hx hb hml hown hq hE hX pX0_al hP hD hS hA hl.1 (RF_level3 l G h0 a (upd (upd F 15 (nI fa)) 64 (nI at0)) (updA B 2 K) at0 T fa K (by omega) (by omega) hK (by omega) (by omega)) (gV pw_1657 pw_1658 pw_1659 pw_1523 pw_1667) hV_X12_level 0 9 rfl rfl rfl rfl (Nat.le_of_ble_eq_true rfl) dX12_level_15 ⟨Nat.le_of_ble_eq_true rfl, Nat.le_of_ble_eq_true rfl⟩ ⟨Nat.le_of_ble_eq_true rfl, Nat.le_of_ble_eq_true rfl⟩ (fun v6 u4 H locs hw5 hP hD hS => ?_)
  obtain rfl : v6 = some (.int 0) := hw5
  have hP : va_P G.1 pCl (mW G h0 a (upd (upd F 15 (nI fa)) 64 (nI at0)) (updA B 2 K)) _ := mW_to (F := F) (l1 := [(15, (nI fa)), (64, (nI at0)), (15, (nI fa)), (64, (nI at0))]) (l2 := [(15, (nI fa)), (64, (nI at0))]) (V := [(nI fa), (nI at0), (nI fa), (nI at0), (nI fa), (nI at0)]) rfl rfl (show (updA (updA B 2 K) 2 K) = (updA B 2 K) from updsA_eq2 (F := B) (l1 := [(2, K), (2, K)]) (l2 := [(2, K)]) (V := [K, K, K]) rfl rfl) hP
  have hD : va_D A (mW G h0 a (upd (upd F 15 (nI fa)) 64 (nI at0)) (updA B 2 K)) := mW_D hD
  refine W.widen (k := 0) (n := 0) (Nat.le_of_ble_eq_true rfl) (Nat.le_of_ble_eq_true rfl) ?_
  refine W.eq (g2 := F0 m 18 ls [.int 0]) rfl ?_
  refine lv_istore_n (lv' := [(2, .int 0), (0, .ref h0), (1, .int 2)]) hx hb dX12_level_18 rfl hl (by decide) rfl (fun ls hl => ?_)
  refine lv_aload_n hx hb dX12_level_19 rfl (lv_at hl 1 rfl) ?_
  refine r_get (v := .int (nI fa)) hx hb hown hq hE hP 15 350 tFX12_15 (by decide) pw_1594 rfl dX12_level_20 ?_
  refine lv_if_ne (tgt := 169) hx hb dX12_level_23 (by decide) (fun c7 => ?_) (fun c7 => (by have n8 : fa = 0 := (nI_eq (a := fa) (b := 0) (by omega) (by omega)).mp c7; omega))
  refine lv_iload_n hx hb dX12_level_169 rfl (lv_at hl 0 rfl) ?_
  have hP : va_P G.1 pCl (mW G h0 a (upd (upd F 15 (nI fa)) 64 (nI at0)) (updA B 2 K)) _ := hP
  have hD : va_D A (mW G h0 a (upd (upd F 15 (nI fa)) 64 (nI at0)) (updA B 2 K)) := mW_D hD
  exact W.iret (v := 0) hx hb hr (fun t9 ht9 hW9 => ⟨⟨_, (), rfl, rfl, by rw [ht9]; exact hP, hD⟩, hS.F ht9⟩) hS.2.2 dX12_level_170
set_option maxHeartbeats 2000000 in
set_option maxRecDepth 100000 in
/-- level(1), a fault known -/
theorem RF_level1 (l : Launch) (G : pT) (h0 : Nat) (a : Nat → Nat) (F : Nat → Int32) (B : Nat → Nat → Int32) (at0 : Nat) (T : Nat) (fa : Nat) (K : Nat → Int32) (hat : at0 ≤ T) (hT : T ≤ 5000) (hK : K T = 0 ∨ K T = 3) (hfa : fa ≤ 100) (hfp : 0 < fa) : PM l G pX0 yX12_level cX12_level 6 (some .int) ({ frames := 14, cells := 0, slots := 0, locals := 355 }) [.ref h0, .int 1] (mW G h0 a (upd (upd F 15 (nI fa)) 64 (nI at0)) (updA B 2 K)) (fun (v : Option Value) (u : Unit) => v = some (.int 0)) (fun u => (mW G h0 a (upd (upd F 15 (nI fa)) 64 (nI at0)) (updA B 2 K))) := by
  intro sz
  refine Met.ofW (cc := cX12_level) (maxL := 6) (ret := (some .int)) (by decide) rfl ?_
  intro p e s m args below meth c s₁ B9 hml hv
  obtain ⟨rfl, hsz, hP, hD0, hE, hX⟩ := hv
  have hx := B9.exec
  have hb := B9.bytes
  have hr := B9.returns
  have hts := atoms_spec (ws := Cond.code yX12_level cX12_level 6 (some .int) :: pw) B9.pre
  have hq : ∀ w ∈ pw, w.before _ s = true := fun w h => hts w (List.mem_cons_of_mem _ h)
  have hown : s.vm.findClass RX12 = some m.cls := findClass_of_methodNamed B9.named
  have hlocks := B9.notSynchronized
  subst hsz
  have hD := hD0.self (sz := s.heap.size)
  have hA : ∀ q : Nat, s.heap.size ≤ q → va_A (mW G h0 a (upd (upd F 15 (nI fa)) 64 (nI at0)) (updA B 2 K)) s.heap.size q := fun q h => Or.inr h
  have hP : va_P G.1 pCl (mW G h0 a (upd (upd F 15 (nI fa)) 64 (nI at0)) (updA B 2 K)) s.heap := hP
  generalize va_A (mW G h0 a (upd (upd F 15 (nI fa)) 64 (nI at0)) (updA B 2 K)) s.heap.size = A at hD hE hA ⊢
  have hS : va_S A s.heap s.heap [] := va_S.rf
  have hl := lv_entry ([.ref h0, .int 1]) (n := 6) (Nat.le_of_ble_eq_true rfl)
  rw [lg_entry_eq]
  generalize (lg_sl ([.ref h0, .int 1]) ++ List.replicate (6 - (lg_sl ([.ref h0, .int 1])).length) Slot.unset).toArray = ls at hl ⊢
  have hl : lv_has ls 6 [(0, .ref h0), (1, .int 1)] := hl
  refine lv_iload_n hx hb dX12_level_0 rfl (lv_at hl 1 rfl) ?_
  refine lv_bipush (v := 10) hx hb dX12_level_1 (by decide) ?_
  refine lv_icmp_ne (tgt := 11) hx hb dX12_level_3 (by decide) (fun c1 => ?_) (fun c1 => absurd c1 (by decide))
  refine lv_aload_n hx hb dX12_level_11 rfl (lv_at hl 0 rfl) ?_
  refine lv_iload_n hx hb dX12_level_12 rfl (lv_at hl 1 rfl) ?_
  refine lv_iconst (v := 1) hx hb dX12_level_13 (by decide) ?_
  refine lv_iadd hx hb dX12_level_14 ?_
  refine lv_topi (fun x2 e3 => ?_)
  obtain rfl : x2 = 2 := e3.trans (by decide)
  have hP : va_P G.1 pCl (mW G h0 a (upd (upd (upd (upd F 15 (nI fa)) 64 (nI at0)) 15 (nI fa)) 64 (nI at0)) (updA (updA B 2 K) 2 K)) _ := hP
  have hD : va_D A (mW G h0 a (upd (upd (upd (upd F 15 (nI fa)) 64 (nI at0)) 15 (nI fa)) 64 (nI at0)) (updA (updA B 2 K) 2 K)) := mW_D hD
  refine pc_V0 (G := G) (As := [.int 2]) (rest := []) hx hb hml hown hq hE hX pX0_al hP hD hS hA hl.1 (RF_level2 l G h0 a (upd (upd F 15 (nI fa)) 64 (nI at0)) (updA B 2 K) at0 T fa K (by omega) (by omega) hK (by omega) (by omega)) (gV pw_1657 pw_1658 pw_1659 pw_1523 pw_1667) hV_X12_level 0 9 rfl rfl rfl rfl (Nat.le_of_ble_eq_true rfl) dX12_level_15 ⟨Nat.le_of_ble_eq_true rfl, Nat.le_of_ble_eq_true rfl⟩ ⟨Nat.le_of_ble_eq_true rfl, Nat.le_of_ble_eq_true rfl⟩ (fun v6 u4 H locs hw5 hP hD hS => ?_)
  obtain rfl : v6 = some (.int 0) := hw5
  have hP : va_P G.1 pCl (mW G h0 a (upd (upd F 15 (nI fa)) 64 (nI at0)) (updA B 2 K)) _ := mW_to (F := F) (l1 := [(15, (nI fa)), (64, (nI at0)), (15, (nI fa)), (64, (nI at0))]) (l2 := [(15, (nI fa)), (64, (nI at0))]) (V := [(nI fa), (nI at0), (nI fa), (nI at0), (nI fa), (nI at0)]) rfl rfl (show (updA (updA B 2 K) 2 K) = (updA B 2 K) from updsA_eq2 (F := B) (l1 := [(2, K), (2, K)]) (l2 := [(2, K)]) (V := [K, K, K]) rfl rfl) hP
  have hD : va_D A (mW G h0 a (upd (upd F 15 (nI fa)) 64 (nI at0)) (updA B 2 K)) := mW_D hD
  refine W.widen (k := 0) (n := 0) (Nat.le_of_ble_eq_true rfl) (Nat.le_of_ble_eq_true rfl) ?_
  refine W.eq (g2 := F0 m 18 ls [.int 0]) rfl ?_
  refine lv_istore_n (lv' := [(2, .int 0), (0, .ref h0), (1, .int 1)]) hx hb dX12_level_18 rfl hl (by decide) rfl (fun ls hl => ?_)
  refine lv_aload_n hx hb dX12_level_19 rfl (lv_at hl 1 rfl) ?_
  refine r_get (v := .int (nI fa)) hx hb hown hq hE hP 15 350 tFX12_15 (by decide) pw_1594 rfl dX12_level_20 ?_
  refine lv_if_ne (tgt := 169) hx hb dX12_level_23 (by decide) (fun c7 => ?_) (fun c7 => (by have n8 : fa = 0 := (nI_eq (a := fa) (b := 0) (by omega) (by omega)).mp c7; omega))
  refine lv_iload_n hx hb dX12_level_169 rfl (lv_at hl 0 rfl) ?_
  have hP : va_P G.1 pCl (mW G h0 a (upd (upd F 15 (nI fa)) 64 (nI at0)) (updA B 2 K)) _ := hP
  have hD : va_D A (mW G h0 a (upd (upd F 15 (nI fa)) 64 (nI at0)) (updA B 2 K)) := mW_D hD
  exact W.iret (v := 0) hx hb hr (fun t9 ht9 hW9 => ⟨⟨_, (), rfl, rfl, by rw [ht9]; exact hP, hD⟩, hS.F ht9⟩) hS.2.2 dX12_level_170
set_option maxHeartbeats 2000000 in
set_option maxRecDepth 100000 in
/-- level(0), a fault known -/
theorem RF_level0 (l : Launch) (G : pT) (h0 : Nat) (a : Nat → Nat) (F : Nat → Int32) (B : Nat → Nat → Int32) (at0 : Nat) (T : Nat) (fa : Nat) (K : Nat → Int32) (hat : at0 ≤ T) (hT : T ≤ 5000) (hK : K T = 0 ∨ K T = 3) (hfa : fa ≤ 100) (hfp : 0 < fa) : PM l G pX0 yX12_level cX12_level 6 (some .int) ({ frames := 15, cells := 0, slots := 0, locals := 380 }) [.ref h0, .int 0] (mW G h0 a (upd (upd F 15 (nI fa)) 64 (nI at0)) (updA B 2 K)) (fun (v : Option Value) (u : Unit) => v = some (.int 0)) (fun u => (mW G h0 a (upd (upd F 15 (nI fa)) 64 (nI at0)) (updA B 2 K))) := by
  intro sz
  refine Met.ofW (cc := cX12_level) (maxL := 6) (ret := (some .int)) (by decide) rfl ?_
  intro p e s m args below meth c s₁ B9 hml hv
  obtain ⟨rfl, hsz, hP, hD0, hE, hX⟩ := hv
  have hx := B9.exec
  have hb := B9.bytes
  have hr := B9.returns
  have hts := atoms_spec (ws := Cond.code yX12_level cX12_level 6 (some .int) :: pw) B9.pre
  have hq : ∀ w ∈ pw, w.before _ s = true := fun w h => hts w (List.mem_cons_of_mem _ h)
  have hown : s.vm.findClass RX12 = some m.cls := findClass_of_methodNamed B9.named
  have hlocks := B9.notSynchronized
  subst hsz
  have hD := hD0.self (sz := s.heap.size)
  have hA : ∀ q : Nat, s.heap.size ≤ q → va_A (mW G h0 a (upd (upd F 15 (nI fa)) 64 (nI at0)) (updA B 2 K)) s.heap.size q := fun q h => Or.inr h
  have hP : va_P G.1 pCl (mW G h0 a (upd (upd F 15 (nI fa)) 64 (nI at0)) (updA B 2 K)) s.heap := hP
  generalize va_A (mW G h0 a (upd (upd F 15 (nI fa)) 64 (nI at0)) (updA B 2 K)) s.heap.size = A at hD hE hA ⊢
  have hS : va_S A s.heap s.heap [] := va_S.rf
  have hl := lv_entry ([.ref h0, .int 0]) (n := 6) (Nat.le_of_ble_eq_true rfl)
  rw [lg_entry_eq]
  generalize (lg_sl ([.ref h0, .int 0]) ++ List.replicate (6 - (lg_sl ([.ref h0, .int 0])).length) Slot.unset).toArray = ls at hl ⊢
  have hl : lv_has ls 6 [(0, .ref h0), (1, .int 0)] := hl
  refine lv_iload_n hx hb dX12_level_0 rfl (lv_at hl 1 rfl) ?_
  refine lv_bipush (v := 10) hx hb dX12_level_1 (by decide) ?_
  refine lv_icmp_ne (tgt := 11) hx hb dX12_level_3 (by decide) (fun c1 => ?_) (fun c1 => absurd c1 (by decide))
  refine lv_aload_n hx hb dX12_level_11 rfl (lv_at hl 0 rfl) ?_
  refine lv_iload_n hx hb dX12_level_12 rfl (lv_at hl 1 rfl) ?_
  refine lv_iconst (v := 1) hx hb dX12_level_13 (by decide) ?_
  refine lv_iadd hx hb dX12_level_14 ?_
  refine lv_topi (fun x2 e3 => ?_)
  obtain rfl : x2 = 1 := e3.trans (by decide)
  have hP : va_P G.1 pCl (mW G h0 a (upd (upd (upd (upd F 15 (nI fa)) 64 (nI at0)) 15 (nI fa)) 64 (nI at0)) (updA (updA B 2 K) 2 K)) _ := mW_to (F := F) (l1 := [(15, (nI fa)), (64, (nI at0))]) (l2 := [(15, (nI fa)), (64, (nI at0)), (15, (nI fa)), (64, (nI at0))]) (V := [(nI fa), (nI at0), (nI fa), (nI at0), (nI fa), (nI at0)]) rfl rfl (show (updA B 2 K) = (updA (updA B 2 K) 2 K) from updsA_eq2 (F := B) (l1 := [(2, K)]) (l2 := [(2, K), (2, K)]) (V := [K, K, K]) rfl rfl) hP
  have hD : va_D A (mW G h0 a (upd (upd (upd (upd F 15 (nI fa)) 64 (nI at0)) 15 (nI fa)) 64 (nI at0)) (updA (updA B 2 K) 2 K)) := mW_D hD
  refine pc_V0 (G := G) (As := [.int 1]) (rest := []) hx hb hml hown hq hE hX pX0_al hP hD hS hA hl.1 (RF_level1 l G h0 a (upd (upd F 15 (nI fa)) 64 (nI at0)) (updA B 2 K) at0 T fa K (by omega) (by omega) hK (by omega) (by omega)) (gV pw_1657 pw_1658 pw_1659 pw_1523 pw_1667) hV_X12_level 0 9 rfl rfl rfl rfl (Nat.le_of_ble_eq_true rfl) dX12_level_15 ⟨Nat.le_of_ble_eq_true rfl, Nat.le_of_ble_eq_true rfl⟩ ⟨Nat.le_of_ble_eq_true rfl, Nat.le_of_ble_eq_true rfl⟩ (fun v6 u4 H locs hw5 hP hD hS => ?_)
  obtain rfl : v6 = some (.int 0) := hw5
  have hP : va_P G.1 pCl (mW G h0 a (upd (upd F 15 (nI fa)) 64 (nI at0)) (updA B 2 K)) _ := mW_to (F := F) (l1 := [(15, (nI fa)), (64, (nI at0)), (15, (nI fa)), (64, (nI at0))]) (l2 := [(15, (nI fa)), (64, (nI at0))]) (V := [(nI fa), (nI at0), (nI fa), (nI at0), (nI fa), (nI at0)]) rfl rfl (show (updA (updA B 2 K) 2 K) = (updA B 2 K) from updsA_eq2 (F := B) (l1 := [(2, K), (2, K)]) (l2 := [(2, K)]) (V := [K, K, K]) rfl rfl) hP
  have hD : va_D A (mW G h0 a (upd (upd F 15 (nI fa)) 64 (nI at0)) (updA B 2 K)) := mW_D hD
  refine W.widen (k := 0) (n := 0) (Nat.le_of_ble_eq_true rfl) (Nat.le_of_ble_eq_true rfl) ?_
  refine W.eq (g2 := F0 m 18 ls [.int 0]) rfl ?_
  refine lv_istore_n (lv' := [(2, .int 0), (0, .ref h0), (1, .int 0)]) hx hb dX12_level_18 rfl hl (by decide) rfl (fun ls hl => ?_)
  refine lv_aload_n hx hb dX12_level_19 rfl (lv_at hl 1 rfl) ?_
  refine r_get (v := .int (nI fa)) hx hb hown hq hE hP 15 350 tFX12_15 (by decide) pw_1594 rfl dX12_level_20 ?_
  refine lv_if_ne (tgt := 169) hx hb dX12_level_23 (by decide) (fun c7 => ?_) (fun c7 => (by have n8 : fa = 0 := (nI_eq (a := fa) (b := 0) (by omega) (by omega)).mp c7; omega))
  refine lv_iload_n hx hb dX12_level_169 rfl (lv_at hl 0 rfl) ?_
  have hP : va_P G.1 pCl (mW G h0 a (upd (upd F 15 (nI fa)) 64 (nI at0)) (updA B 2 K)) _ := hP
  have hD : va_D A (mW G h0 a (upd (upd F 15 (nI fa)) 64 (nI at0)) (updA B 2 K)) := mW_D hD
  exact W.iret (v := 0) hx hb hr (fun t9 ht9 hW9 => ⟨⟨_, (), rfl, rfl, by rw [ht9]; exact hP, hD⟩, hS.F ht9⟩) hS.2.2 dX12_level_170
theorem dX12_choice_0 : decode cX12_choice 0 = .ok (.aload_n 0, 1) := by decide +kernel
theorem dX12_choice_1 : decode cX12_choice 1 = .ok (.iconst 0, 1) := by decide +kernel
theorem dX12_choice_2 : decode cX12_choice 2 = .ok (.invokevirtual 472, 3) := by decide +kernel
theorem dX12_choice_5 : decode cX12_choice 5 = .ok (.istore_n 1, 1) := by decide +kernel
theorem dX12_choice_6 : decode cX12_choice 6 = .ok (.aload_n 0, 1) := by decide +kernel
theorem dX12_choice_7 : decode cX12_choice 7 = .ok (.bipush 63, 2) := by decide +kernel
theorem dX12_choice_9 : decode cX12_choice 9 = .ok (.invokevirtual 360, 3) := by decide +kernel
theorem dX12_choice_12 : decode cX12_choice 12 = .ok (.ifCond .ne 5, 3) := by decide +kernel
theorem dX12_choice_15 : decode cX12_choice 15 = .ok (.iload_n 1, 1) := by decide +kernel
theorem dX12_choice_16 : decode cX12_choice 16 = .ok (.ireturn, 1) := by decide +kernel
set_option maxHeartbeats 2000000 in
set_option maxRecDepth 100000 in
/-- choice(), a fault known -/
theorem RF_choice (l : Launch) (G : pT) (h0 : Nat) (a : Nat → Nat) (F : Nat → Int32) (B : Nat → Nat → Int32) (at0 : Nat) (T : Nat) (fa : Nat) (K : Nat → Int32) (hat : at0 ≤ T) (hT : T ≤ 5000) (hK : K T = 0 ∨ K T = 3) (hfa : fa ≤ 100) (hfp : 0 < fa) : PM l G pX0 yX12_choice cX12_choice 4 (some .int) ({ frames := 16, cells := 0, slots := 0, locals := 405 }) [.ref h0] (mW G h0 a (upd (upd F 15 (nI fa)) 64 (nI at0)) (updA B 2 K)) (fun (v : Option Value) (u : Unit) => v = some (.int 0)) (fun u => (mW G h0 a (upd (upd F 15 (nI fa)) 64 (nI at0)) (updA B 2 K))) := by
  intro sz
  refine Met.ofW (cc := cX12_choice) (maxL := 4) (ret := (some .int)) (by decide) rfl ?_
  intro p e s m args below meth c s₁ B9 hml hv
  obtain ⟨rfl, hsz, hP, hD0, hE, hX⟩ := hv
  have hx := B9.exec
  have hb := B9.bytes
  have hr := B9.returns
  have hts := atoms_spec (ws := Cond.code yX12_choice cX12_choice 4 (some .int) :: pw) B9.pre
  have hq : ∀ w ∈ pw, w.before _ s = true := fun w h => hts w (List.mem_cons_of_mem _ h)
  have hown : s.vm.findClass RX12 = some m.cls := findClass_of_methodNamed B9.named
  have hlocks := B9.notSynchronized
  subst hsz
  have hD := hD0.self (sz := s.heap.size)
  have hA : ∀ q : Nat, s.heap.size ≤ q → va_A (mW G h0 a (upd (upd F 15 (nI fa)) 64 (nI at0)) (updA B 2 K)) s.heap.size q := fun q h => Or.inr h
  have hP : va_P G.1 pCl (mW G h0 a (upd (upd F 15 (nI fa)) 64 (nI at0)) (updA B 2 K)) s.heap := hP
  generalize va_A (mW G h0 a (upd (upd F 15 (nI fa)) 64 (nI at0)) (updA B 2 K)) s.heap.size = A at hD hE hA ⊢
  have hS : va_S A s.heap s.heap [] := va_S.rf
  have hl := lv_entry ([.ref h0]) (n := 4) (Nat.le_of_ble_eq_true rfl)
  rw [lg_entry_eq]
  generalize (lg_sl ([.ref h0]) ++ List.replicate (4 - (lg_sl ([.ref h0])).length) Slot.unset).toArray = ls at hl ⊢
  have hl : lv_has ls 4 [(0, .ref h0)] := hl
  refine lv_aload_n hx hb dX12_choice_0 rfl (lv_at hl 0 rfl) ?_
  refine lv_iconst (v := 0) hx hb dX12_choice_1 (by decide) ?_
  have hP : va_P G.1 pCl (mW G h0 a (upd (upd (upd (upd F 15 (nI fa)) 64 (nI at0)) 15 (nI fa)) 64 (nI at0)) (updA (updA B 2 K) 2 K)) _ := mW_to (F := F) (l1 := [(15, (nI fa)), (64, (nI at0))]) (l2 := [(15, (nI fa)), (64, (nI at0)), (15, (nI fa)), (64, (nI at0))]) (V := [(nI fa), (nI at0), (nI fa), (nI at0), (nI fa), (nI at0)]) rfl rfl (show (updA B 2 K) = (updA (updA B 2 K) 2 K) from updsA_eq2 (F := B) (l1 := [(2, K)]) (l2 := [(2, K), (2, K)]) (V := [K, K, K]) rfl rfl) hP
  have hD : va_D A (mW G h0 a (upd (upd (upd (upd F 15 (nI fa)) 64 (nI at0)) 15 (nI fa)) 64 (nI at0)) (updA (updA B 2 K) 2 K)) := mW_D hD
  refine pc_V0 (G := G) (As := [.int 0]) (rest := []) hx hb hml hown hq hE hX pX0_al hP hD hS hA hl.1 (RF_level0 l G h0 a (upd (upd F 15 (nI fa)) 64 (nI at0)) (updA B 2 K) at0 T fa K (by omega) (by omega) hK (by omega) (by omega)) (gV pw_1657 pw_1658 pw_1659 pw_1523 pw_1667) hV_X12_level 0 9 rfl rfl rfl rfl (Nat.le_of_ble_eq_true rfl) dX12_choice_2 ⟨Nat.le_of_ble_eq_true rfl, Nat.le_of_ble_eq_true rfl⟩ ⟨Nat.le_of_ble_eq_true rfl, Nat.le_of_ble_eq_true rfl⟩ (fun v3 u1 H locs hw2 hP hD hS => ?_)
  obtain rfl : v3 = some (.int 0) := hw2
  have hP : va_P G.1 pCl (mW G h0 a (upd (upd F 15 (nI fa)) 64 (nI at0)) (updA B 2 K)) _ := mW_to (F := F) (l1 := [(15, (nI fa)), (64, (nI at0)), (15, (nI fa)), (64, (nI at0))]) (l2 := [(15, (nI fa)), (64, (nI at0))]) (V := [(nI fa), (nI at0), (nI fa), (nI at0), (nI fa), (nI at0)]) rfl rfl (show (updA (updA B 2 K) 2 K) = (updA B 2 K) from updsA_eq2 (F := B) (l1 := [(2, K), (2, K)]) (l2 := [(2, K)]) (V := [K, K, K]) rfl rfl) hP
  have hD : va_D A (mW G h0 a (upd (upd F 15 (nI fa)) 64 (nI at0)) (updA B 2 K)) := mW_D hD
  refine W.widen (k := 0) (n := 0) (Nat.le_of_ble_eq_true rfl) (Nat.le_of_ble_eq_true rfl) ?_
  refine W.eq (g2 := F0 m 5 ls [.int 0]) rfl ?_
  refine lv_istore_n (lv' := [(1, .int 0), (0, .ref h0)]) hx hb dX12_choice_5 rfl hl (by decide) rfl (fun ls hl => ?_)
  refine lv_aload_n hx hb dX12_choice_6 rfl (lv_at hl 1 rfl) ?_
  refine lv_bipush (v := 63) hx hb dX12_choice_7 (by decide) ?_
  have hP : va_P G.1 pCl (mW G h0 a (upd (upd (upd (upd F 15 (nI fa)) 64 (nI at0)) 15 (nI fa)) 64 (nI at0)) (updA (updA B 2 K) 2 K)) _ := mW_to (F := F) (l1 := [(15, (nI fa)), (64, (nI at0))]) (l2 := [(15, (nI fa)), (64, (nI at0)), (15, (nI fa)), (64, (nI at0))]) (V := [(nI fa), (nI at0), (nI fa), (nI at0), (nI fa), (nI at0)]) rfl rfl (show (updA B 2 K) = (updA (updA B 2 K) 2 K) from updsA_eq2 (F := B) (l1 := [(2, K)]) (l2 := [(2, K), (2, K)]) (V := [K, K, K]) rfl rfl) hP
  have hD : va_D A (mW G h0 a (upd (upd (upd (upd F 15 (nI fa)) 64 (nI at0)) 15 (nI fa)) 64 (nI at0)) (updA (updA B 2 K) 2 K)) := mW_D hD
  refine pc_V0 (G := G) (As := [.int 63]) (rest := []) hx hb hml hown hq hE hX pX0_al hP hD hS hA hl.1 (R_is l G h0 a (upd (upd F 15 (nI fa)) 64 (nI at0)) (updA B 2 K) at0 T fa K 63 (by omega) (by omega) hK (by omega)) (gV pw_1606 pw_1607 pw_1608 pw_1523 pw_1600) hV_X12_is 0 9 rfl rfl rfl rfl (Nat.le_of_ble_eq_true rfl) dX12_choice_9 ⟨Nat.le_of_ble_eq_true rfl, Nat.le_of_ble_eq_true rfl⟩ ⟨Nat.le_of_ble_eq_true rfl, Nat.le_of_ble_eq_true rfl⟩ (fun v6 u4 H locs hw5 hP hD hS => ?_)
  obtain ⟨r7, rfl⟩ : ∃ z, z = u4 := ⟨_, rfl⟩
  obtain ⟨hw5, h8, h9, h10, h11⟩ := hw5
  have h8 : r7 ≤ 1 := h8
  have h9 : fa + 100 * r7 ≤ 100 := h9
  have h10 : If (r7 = 1) (K at0 = 63) := h10
  have h11 : If (r7 = 0) (fa = 0 → ¬ K at0 = 63) := h11
  obtain rfl : v6 = some (.int (nI r7)) := hw5
  have hP : va_P G.1 pCl (mW G h0 a (upd (upd F 15 (nI fa)) 64 (nI at0)) (updA B 2 K)) _ := mW_to (F := F) (l1 := [(15, (nI fa)), (64, (nI at0)), (15, (nI fa)), (64, (nI at0))]) (l2 := [(15, (nI fa)), (64, (nI at0))]) (V := [(nI fa), (nI at0), (nI fa), (nI at0), (nI fa), (nI at0)]) rfl rfl (show (updA (updA B 2 K) 2 K) = (updA B 2 K) from updsA_eq2 (F := B) (l1 := [(2, K), (2, K)]) (l2 := [(2, K)]) (V := [K, K, K]) rfl rfl) hP
  have hD : va_D A (mW G h0 a (upd (upd F 15 (nI fa)) 64 (nI at0)) (updA B 2 K)) := mW_D hD
  refine W.widen (k := 0) (n := 0) (Nat.le_of_ble_eq_true rfl) (Nat.le_of_ble_eq_true rfl) ?_
  refine W.eq (g2 := F0 m 12 ls [.int (nI r7)]) rfl ?_
  refine lv_if_ne (tgt := 17) hx hb dX12_choice_12 (by decide) (fun c12 => (by have n13 : ¬ (r7 = 0) := fun h9 => c12 ((nI_eq (a := r7) (b := 0) (by omega) (by omega)).mpr h9); omega)) (fun c12 => ?_)
  refine lv_iload_n hx hb dX12_choice_15 rfl (lv_at hl 0 rfl) ?_
  have hP : va_P G.1 pCl (mW G h0 a (upd (upd F 15 (nI fa)) 64 (nI at0)) (updA B 2 K)) _ := hP
  have hD : va_D A (mW G h0 a (upd (upd F 15 (nI fa)) 64 (nI at0)) (updA B 2 K)) := mW_D hD
  exact W.iret (v := 0) hx hb hr (fun t9 ht9 hW9 => ⟨⟨_, (), rfl, rfl, by rw [ht9]; exact hP, hD⟩, hS.F ht9⟩) hS.2.2 dX12_choice_16
theorem dX12_arguments_0 : decode cX12_arguments 0 = .ok (.aload_n 0, 1) := by decide +kernel
theorem dX12_arguments_1 : decode cX12_arguments 1 = .ok (.invokevirtual 441, 3) := by decide +kernel
theorem dX12_arguments_4 : decode cX12_arguments 4 = .ok (.aload_n 0, 1) := by decide +kernel
theorem dX12_arguments_5 : decode cX12_arguments 5 = .ok (.bipush 40, 2) := by decide +kernel
theorem dX12_arguments_7 : decode cX12_arguments 7 = .ok (.invokevirtual 369, 3) := by decide +kernel
theorem dX12_arguments_10 : decode cX12_arguments 10 = .ok (.iconst (-1), 1) := by decide +kernel
theorem dX12_arguments_11 : decode cX12_arguments 11 = .ok (.istore_n 2, 1) := by decide +kernel
theorem dX12_arguments_12 : decode cX12_arguments 12 = .ok (.aload_n 0, 1) := by decide +kernel
theorem dX12_arguments_13 : decode cX12_arguments 13 = .ok (.getfield 350, 3) := by decide +kernel
theorem dX12_arguments_16 : decode cX12_arguments 16 = .ok (.ifCond .ne 16, 3) := by decide +kernel
theorem dX12_arguments_32 : decode cX12_arguments 32 = .ok (.iconst 0, 1) := by decide +kernel
theorem dX12_arguments_33 : decode cX12_arguments 33 = .ok (.istore_n 3, 1) := by decide +kernel
theorem dX12_arguments_34 : decode cX12_arguments 34 = .ok (.iload_n 3, 1) := by decide +kernel
theorem dX12_arguments_35 : decode cX12_arguments 35 = .ok (.ifCond .eq 53, 3) := by decide +kernel
theorem dX12_arguments_88 : decode cX12_arguments 88 = .ok (.aload_n 0, 1) := by decide +kernel
theorem dX12_arguments_89 : decode cX12_arguments 89 = .ok (.getfield 56, 3) := by decide +kernel
theorem dX12_arguments_92 : decode cX12_arguments 92 = .ok (.iload_n 1, 1) := by decide +kernel
theorem dX12_arguments_93 : decode cX12_arguments 93 = .ok (.aload_n 0, 1) := by decide +kernel
theorem dX12_arguments_94 : decode cX12_arguments 94 = .ok (.getfield 343, 3) := by decide +kernel
theorem dX12_arguments_97 : decode cX12_arguments 97 = .ok (.iastore, 1) := by decide +kernel
theorem dX12_arguments_98 : decode cX12_arguments 98 = .ok (.aload_n 0, 1) := by decide +kernel
theorem dX12_arguments_99 : decode cX12_arguments 99 = .ok (.bipush 41, 2) := by decide +kernel
theorem dX12_arguments_101 : decode cX12_arguments 101 = .ok (.invokevirtual 369, 3) := by decide +kernel
theorem dX12_arguments_104 : decode cX12_arguments 104 = .ok (.aload_n 0, 1) := by decide +kernel
theorem dX12_arguments_105 : decode cX12_arguments 105 = .ok (.dup, 1) := by decide +kernel
theorem dX12_arguments_106 : decode cX12_arguments 106 = .ok (.getfield 366, 3) := by decide +kernel
theorem dX12_arguments_109 : decode cX12_arguments 109 = .ok (.iconst 1, 1) := by decide +kernel
theorem dX12_arguments_110 : decode cX12_arguments 110 = .ok (.isub, 1) := by decide +kernel
theorem dX12_arguments_111 : decode cX12_arguments 111 = .ok (.putfield 366, 3) := by decide +kernel
theorem dX12_arguments_114 : decode cX12_arguments 114 = .ok (.return_, 1) := by decide +kernel
theorem hV_X12_deeper : yX12_deeper.cls = RX12 ∧ yX12_deeper.cls ≠ "java/lang/invoke/MethodHandle" ∧ yX12_deeper.cls ≠ "java/lang/invoke/VarHandle" ∧ (parseMethodDescriptor yX12_deeper.desc).map (fun d => d.parameters.length) = some 0 := by decide +kernel
set_option maxHeartbeats 2000000 in
set_option maxRecDepth 100000 in
/-- arguments(node), a fault known -/
theorem RF_arguments (l : Launch) (G : pT) (h0 : Nat) (a : Nat → Nat) (F : Nat → Int32) (B : Nat → Nat → Int32) (at0 : Nat) (T : Nat) (fa : Nat) (K : Nat → Int32) (x : Nat) (ne : Nat) (hat : at0 ≤ T) (hT : T ≤ 5000) (hK : K T = 0 ∨ K T = 3) (hfa : fa ≤ 100) (hfp : 0 < fa) (hx : x < 12000) (hne : ne ≤ 1000) : PM l G pX0 yX12_arguments cX12_arguments 5 none ({ frames := 5, cells := 0, slots := 0, locals := 124 }) [.ref h0, .int (nI x)] (mW G h0 a (upd (upd (upd F 15 (nI fa)) 64 (nI at0)) 65 (nI ne)) (updA B 2 K)) (fun (v : Option Value) (u : Int32 × (Nat → Int32)) => v = none) (fun u => (mW G h0 a (upd (upd (upd (upd F 15 (nI fa)) 16 u.1) 64 (nI at0)) 65 (nI ne)) (updA (updA B 2 K) 15 u.2))) := by
  intro sz
  refine Met.ofW (cc := cX12_arguments) (maxL := 5) (ret := none) (by decide) rfl ?_
  intro p e s m args below meth c s₁ B9 hml hv
  obtain ⟨rfl, hsz, hP, hD0, hE, hX⟩ := hv
  have hx := B9.exec
  have hb := B9.bytes
  have hr := B9.returns
  have hts := atoms_spec (ws := Cond.code yX12_arguments cX12_arguments 5 none :: pw) B9.pre
  have hq : ∀ w ∈ pw, w.before _ s = true := fun w h => hts w (List.mem_cons_of_mem _ h)
  have hown : s.vm.findClass RX12 = some m.cls := findClass_of_methodNamed B9.named
  have hlocks := B9.notSynchronized
  subst hsz
  have hD := hD0.self (sz := s.heap.size)
  have hA : ∀ q : Nat, s.heap.size ≤ q → va_A (mW G h0 a (upd (upd (upd F 15 (nI fa)) 64 (nI at0)) 65 (nI ne)) (updA B 2 K)) s.heap.size q := fun q h => Or.inr h
  have hP : va_P G.1 pCl (mW G h0 a (upd (upd (upd F 15 (nI fa)) 64 (nI at0)) 65 (nI ne)) (updA B 2 K)) s.heap := hP
  generalize va_A (mW G h0 a (upd (upd (upd F 15 (nI fa)) 64 (nI at0)) 65 (nI ne)) (updA B 2 K)) s.heap.size = A at hD hE hA ⊢
  have hS : va_S A s.heap s.heap [] := va_S.rf
  have hl := lv_entry ([.ref h0, .int (nI x)]) (n := 5) (Nat.le_of_ble_eq_true rfl)
  rw [lg_entry_eq]
  generalize (lg_sl ([.ref h0, .int (nI x)]) ++ List.replicate (5 - (lg_sl ([.ref h0, .int (nI x)])).length) Slot.unset).toArray = ls at hl ⊢
  have hl : lv_has ls 5 [(0, .ref h0), (1, .int (nI x))] := hl
  refine lv_aload_n hx hb dX12_arguments_0 rfl (lv_at hl 0 rfl) ?_
  have hP : va_P G.1 pCl (mW G h0 a (upd (upd (upd (upd (upd (upd F 15 (nI fa)) 64 (nI at0)) 65 (nI ne)) 15 (nI fa)) 64 (nI at0)) 65 (nI ne)) (updA (updA B 2 K) 2 K)) _ := mW_to (F := F) (l1 := [(15, (nI fa)), (64, (nI at0)), (65, (nI ne))]) (l2 := [(15, (nI fa)), (64, (nI at0)), (65, (nI ne)), (15, (nI fa)), (64, (nI at0)), (65, (nI ne))]) (V := [(nI fa), (nI at0), (nI ne), (nI fa), (nI at0), (nI ne), (nI fa), (nI at0), (nI ne)]) rfl rfl (show (updA B 2 K) = (updA (updA B 2 K) 2 K) from updsA_eq2 (F := B) (l1 := [(2, K)]) (l2 := [(2, K), (2, K)]) (V := [K, K, K]) rfl rfl) hP
  have hD : va_D A (mW G h0 a (upd (upd (upd (upd (upd (upd F 15 (nI fa)) 64 (nI at0)) 65 (nI ne)) 15 (nI fa)) 64 (nI at0)) 65 (nI ne)) (updA (updA B 2 K) 2 K)) := mW_D hD
  refine pc_V0 (G := G) (As := []) (rest := []) hx hb hml hown hq hE hX pX0_al hP hD hS hA hl.1 (R_deeper l G h0 a (upd (upd (upd F 15 (nI fa)) 64 (nI at0)) 65 (nI ne)) (updA B 2 K) at0 T fa K ne (by omega) (by omega) hK (by omega) (by omega)) (gV pw_1637 pw_1638 pw_1639 pw_1523 pw_1611) hV_X12_deeper 0 9 rfl rfl rfl rfl (Nat.le_of_ble_eq_true rfl) dX12_arguments_1 ⟨Nat.le_of_ble_eq_true rfl, Nat.le_of_ble_eq_true rfl⟩ ⟨Nat.le_of_ble_eq_true rfl, Nat.le_of_ble_eq_true rfl⟩ (fun v3 u1 H locs hw2 hP hD hS => ?_)
  obtain ⟨fa4, pl5⟩ := u1
  obtain ⟨hw2, h6, h7, h8, h9⟩ := hw2
  have h6 : fa ≤ fa4 := h6
  have h7 : fa4 ≤ 100 := h7
  have h8 : If (0 < fa) (fa4 = fa) := h8
  have h9 : If (ne ≤ 20) (ne + 1 ≤ 20 + fa4) := h9
  obtain rfl : v3 = none := hw2
  have hP : va_P G.1 pCl (mW G h0 a (upd (upd (upd (upd F 15 (nI fa4)) 16 pl5) 64 (nI at0)) 65 (nI (ne + 1))) (updA B 2 K)) _ := mW_to (F := F) (l1 := [(15, (nI fa)), (64, (nI at0)), (65, (nI ne)), (15, (nI fa4)), (16, pl5), (64, (nI at0)), (65, (nI (ne + 1)))]) (l2 := [(15, (nI fa4)), (16, pl5), (64, (nI at0)), (65, (nI (ne + 1)))]) (V := [(nI fa4), (nI at0), (nI (ne + 1)), (nI fa4), pl5, (nI at0), (nI (ne + 1)), (nI fa4), pl5, (nI at0), (nI (ne + 1))]) rfl rfl (show (updA (updA B 2 K) 2 K) = (updA B 2 K) from updsA_eq2 (F := B) (l1 := [(2, K), (2, K)]) (l2 := [(2, K)]) (V := [K, K, K]) rfl rfl) hP
  have hD : va_D A (mW G h0 a (upd (upd (upd (upd F 15 (nI fa4)) 16 pl5) 64 (nI at0)) 65 (nI (ne + 1))) (updA B 2 K)) := mW_D hD
  refine W.widen (k := 0) (n := 0) (Nat.le_of_ble_eq_true rfl) (Nat.le_of_ble_eq_true rfl) ?_
  refine W.eq (g2 := F0 m 4 ls []) rfl ?_
  have n10 : fa = fa4 := (h8 hfp).symm
  subst n10
  refine lv_aload_n hx hb dX12_arguments_4 rfl (lv_at hl 0 rfl) ?_
  refine lv_bipush (v := 40) hx hb dX12_arguments_5 (by decide) ?_
  have hP : va_P G.1 pCl (mW G h0 a (upd (upd (upd (upd (upd (upd F 15 (nI fa)) 16 pl5) 64 (nI at0)) 65 (nI (ne + 1))) 15 (nI fa)) 64 (nI at0)) (updA (updA B 2 K) 2 K)) _ := hP
  have hD : va_D A (mW G h0 a (upd (upd (upd (upd (upd (upd F 15 (nI fa)) 16 pl5) 64 (nI at0)) 65 (nI (ne + 1))) 15 (nI fa)) 64 (nI at0)) (updA (updA B 2 K) 2 K)) := mW_D hD
  refine pc_V0 (G := G) (As := [.int 40]) (rest := []) hx hb hml hown hq hE hX pX0_al hP hD hS hA hl.1 (R_take l G h0 a (upd (upd (upd (upd F 15 (nI fa)) 16 pl5) 64 (nI at0)) 65 (nI (ne + 1))) (updA B 2 K) at0 T fa K 40 (by omega) (by omega) hK (by omega) (by decide) (by decide)) (gV pw_1614 pw_1615 pw_1616 pw_1523 pw_1601) hV_X12_take 0 9 rfl rfl rfl rfl (Nat.le_of_ble_eq_true rfl) dX12_arguments_7 ⟨Nat.le_of_ble_eq_true rfl, Nat.le_of_ble_eq_true rfl⟩ ⟨Nat.le_of_ble_eq_true rfl, Nat.le_of_ble_eq_true rfl⟩ (fun v13 u11 H locs hw12 hP hD hS => ?_)
  obtain ⟨at14, fa15, pl16⟩ := u11
  obtain ⟨hw12, h17, h18, h19, h20, h21, h22, h23, h24⟩ := hw12
  have h17 : at0 ≤ at14 := h17
  have h18 : at14 ≤ T := h18
  have h19 : fa ≤ fa15 := h19
  have h20 : fa15 ≤ 100 := h20
  have h21 : If (0 < fa) (at14 = at0 ∧ fa15 = fa) := h21
  have h22 : at14 ≤ at0 + 1 := h22
  have h23 : at0 + 1 ≤ at14 + fa15 := h23
  have h24 : If (fa15 = 0) (K at0 = 40) := h24
  obtain rfl : v13 = none := hw12
  have hP : va_P G.1 pCl (mW G h0 a (upd (upd (upd (upd F 15 (nI fa15)) 16 pl16) 64 (nI at14)) 65 (nI (ne + 1))) (updA B 2 K)) _ := mW_to (F := F) (l1 := [(15, (nI fa)), (16, pl5), (64, (nI at0)), (65, (nI (ne + 1))), (15, (nI fa15)), (16, pl16), (64, (nI at14))]) (l2 := [(15, (nI fa15)), (16, pl16), (64, (nI at14)), (65, (nI (ne + 1)))]) (V := [(nI fa15), pl16, (nI at14), (nI (ne + 1)), (nI fa15), pl16, (nI at14), (nI fa15), pl16, (nI at14), (nI (ne + 1))]) rfl rfl (show (updA (updA B 2 K) 2 K) = (updA B 2 K) from updsA_eq2 (F := B) (l1 := [(2, K), (2, K)]) (l2 := [(2, K)]) (V := [K, K, K]) rfl rfl) hP
  have hD : va_D A (mW G h0 a (upd (upd (upd (upd F 15 (nI fa15)) 16 pl16) 64 (nI at14)) 65 (nI (ne + 1))) (updA B 2 K)) := mW_D hD
  refine W.widen (k := 0) (n := 0) (Nat.le_of_ble_eq_true rfl) (Nat.le_of_ble_eq_true rfl) ?_
  refine W.eq (g2 := F0 m 10 ls []) rfl ?_
  obtain ⟨n25, n26⟩ := h21 hfp
  replace n25 := n25.symm
  replace n26 := n26.symm
  subst n25
  subst n26
  refine lv_iconst (v := (-1)) hx hb dX12_arguments_10 (by decide) ?_
  refine lv_istore_n (lv' := [(2, .int (-1)), (0, .ref h0), (1, .int (nI x))]) hx hb dX12_arguments_11 rfl hl (by decide) rfl (fun ls hl => ?_)
  refine lv_aload_n hx hb dX12_arguments_12 rfl (lv_at hl 1 rfl) ?_
  refine r_get (v := .int (nI fa)) hx hb hown hq hE hP 15 350 tFX12_15 (by decide) pw_1594 rfl dX12_arguments_13 ?_
  refine lv_if_ne (tgt := 32) hx hb dX12_arguments_16 (by decide) (fun c27 => ?_) (fun c27 => (by have n28 : fa = 0 := (nI_eq (a := fa) (b := 0) (by omega) (by omega)).mp c27; omega))
  refine lv_iconst (v := 0) hx hb dX12_arguments_32 (by decide) ?_
  refine lv_istore_n (lv' := [(3, .int 0), (2, .int (-1)), (0, .ref h0), (1, .int (nI x))]) hx hb dX12_arguments_33 rfl hl (by decide) rfl (fun ls hl => ?_)
  refine lv_iload_n hx hb dX12_arguments_34 rfl (lv_at hl 0 rfl) ?_
  refine lv_if_eq (tgt := 88) hx hb dX12_arguments_35 (by decide) (fun c29 => ?_) (fun c29 => absurd c29 (by decide))
  refine lv_aload_n hx hb dX12_arguments_88 rfl (lv_at hl 2 rfl) ?_
  refine r_get (v := .ref (a 15)) hx hb hown hq hE hP 23 56 tFX12_23 (by decide) pw_1445 rfl dX12_arguments_89 ?_
  refine lv_iload_n hx hb dX12_arguments_92 rfl (lv_at hl 3 rfl) ?_
  refine lv_aload_n hx hb dX12_arguments_93 rfl (lv_at hl 2 rfl) ?_
  refine r_get (v := .int (nI at0)) hx hb hown hq hE hP 64 343 tFX12_64 (by decide) pw_1592 rfl dX12_arguments_94 ?_
  refine r_sti (f := (B 15)) (j := x) hx hb hE hP hD hS 15 (ma_15 G a _) rfl (mas_15 G a _) (by omega) (by decide) dX12_arguments_97 (fun H locs hP hD hS => ?_)
  refine lv_aload_n hx hb dX12_arguments_98 rfl (lv_at hl 2 rfl) ?_
  refine lv_bipush (v := 41) hx hb dX12_arguments_99 (by decide) ?_
  have hP : va_P G.1 pCl (mW G h0 a (upd (upd (upd (upd (upd (upd F 15 (nI fa)) 16 pl16) 64 (nI at0)) 65 (nI (ne + 1))) 15 (nI fa)) 64 (nI at0)) (updA (updA (updA B 2 K) 15 (upd (B 15) x (nI at0))) 2 K)) _ := hP
  have hD : va_D A (mW G h0 a (upd (upd (upd (upd (upd (upd F 15 (nI fa)) 16 pl16) 64 (nI at0)) 65 (nI (ne + 1))) 15 (nI fa)) 64 (nI at0)) (updA (updA (updA B 2 K) 15 (upd (B 15) x (nI at0))) 2 K)) := mW_D hD
  refine pc_V0 (G := G) (As := [.int 41]) (rest := []) hx hb hml hown hq hE hX pX0_al hP hD hS hA hl.1 (R_take l G h0 a (upd (upd (upd (upd F 15 (nI fa)) 16 pl16) 64 (nI at0)) 65 (nI (ne + 1))) (updA (updA B 2 K) 15 (upd (B 15) x (nI at0))) at0 T fa K 41 (by omega) (by omega) hK (by omega) (by decide) (by decide)) (gV pw_1614 pw_1615 pw_1616 pw_1523 pw_1601) hV_X12_take 0 9 rfl rfl rfl rfl (Nat.le_of_ble_eq_true rfl) dX12_arguments_101 ⟨Nat.le_of_ble_eq_true rfl, Nat.le_of_ble_eq_true rfl⟩ ⟨Nat.le_of_ble_eq_true rfl, Nat.le_of_ble_eq_true rfl⟩ (fun v32 u30 H locs hw31 hP hD hS => ?_)
  obtain ⟨at33, fa34, pl35⟩ := u30
  obtain ⟨hw31, h36, h37, h38, h39, h40, h41, h42, h43⟩ := hw31
  have h36 : at0 ≤ at33 := h36
  have h37 : at33 ≤ T := h37
  have h38 : fa ≤ fa34 := h38
  have h39 : fa34 ≤ 100 := h39
  have h40 : If (0 < fa) (at33 = at0 ∧ fa34 = fa) := h40
  have h41 : at33 ≤ at0 + 1 := h41
  have h42 : at0 + 1 ≤ at33 + fa34 := h42
  have h43 : If (fa34 = 0) (K at0 = 41) := h43
  obtain rfl : v32 = none := hw31
  have hP : va_P G.1 pCl (mW G h0 a (upd (upd (upd (upd F 15 (nI fa34)) 16 pl35) 64 (nI at33)) 65 (nI (ne + 1))) (updA (updA B 2 K) 15 (upd (B 15) x (nI at0)))) _ := mW_to (F := F) (l1 := [(15, (nI fa)), (16, pl16), (64, (nI at0)), (65, (nI (ne + 1))), (15, (nI fa34)), (16, pl35), (64, (nI at33))]) (l2 := [(15, (nI fa34)), (16, pl35), (64, (nI at33)), (65, (nI (ne + 1)))]) (V := [(nI fa34), pl35, (nI at33), (nI (ne + 1)), (nI fa34), pl35, (nI at33), (nI fa34), pl35, (nI at33), (nI (ne + 1))]) rfl rfl (show (updA (updA (updA B 2 K) 15 (upd (B 15) x (nI at0))) 2 K) = (updA (updA B 2 K) 15 (upd (B 15) x (nI at0))) from updsA_eq2 (F := B) (l1 := [(2, K), (15, (upd (B 15) x (nI at0))), (2, K)]) (l2 := [(2, K), (15, (upd (B 15) x (nI at0)))]) (V := [K, (upd (B 15) x (nI at0)), K, K, (upd (B 15) x (nI at0))]) rfl rfl) hP
  have hD : va_D A (mW G h0 a (upd (upd (upd (upd F 15 (nI fa34)) 16 pl35) 64 (nI at33)) 65 (nI (ne + 1))) (updA (updA B 2 K) 15 (upd (B 15) x (nI at0)))) := mW_D hD
  refine W.widen (k := 0) (n := 0) (Nat.le_of_ble_eq_true rfl) (Nat.le_of_ble_eq_true rfl) ?_
  refine W.eq (g2 := F0 m 104 ls []) rfl ?_
  obtain ⟨n44, n45⟩ := h40 hfp
  replace n44 := n44.symm
  replace n45 := n45.symm
  subst n44
  subst n45
  refine lv_aload_n hx hb dX12_arguments_104 rfl (lv_at hl 2 rfl) ?_
  refine lv_dup hx hb dX12_arguments_105 rfl ?_
  refine r_get (v := .int (nI (ne + 1))) hx hb hown hq hE hP 65 366 tFX12_65 (by decide) pw_1612 rfl dX12_arguments_106 ?_
  refine lv_iconst (v := 1) hx hb dX12_arguments_109 (by decide) ?_
  refine lv_isub hx hb dX12_arguments_110 ?_
  refine lv_topi (fun x46 e47 => ?_)
  obtain rfl : x46 = nI ((ne + 1) - 1) := e47.trans (nI_subN (a := 1) (b := (ne + 1)) (by omega))
  refine r_put (v := (nI ((ne + 1) - 1))) (ty := .int) hx hb hown hq hE hP hD hS 65 366 tFX12_65 (by decide) pw_1612 (by decide) rfl rfl (ms_65 a _ _) dX12_arguments_111 (fun H locs hP hD hS => ?_)
  have hP : va_P G.1 pCl (mW G h0 a (upd (upd (upd (upd F 15 (nI fa)) 16 pl35) 64 (nI at0)) 65 (nI ne)) (updA (updA B 2 K) 15 (upd (B 15) x (nI at0)))) _ := hP
  have hD : va_D A (mW G h0 a (upd (upd (upd (upd F 15 (nI fa)) 16 pl35) 64 (nI at0)) 65 (nI ne)) (updA (updA B 2 K) 15 (upd (B 15) x (nI at0)))) := mW_D hD
  exact W.vret hx hb hr (fun t9 ht9 hW9 => ⟨⟨_, (pl35, (upd (B 15) x (nI at0))), rfl, rfl, by rw [ht9]; exact hP, hD⟩, hS.F ht9⟩) hS.2.2 dX12_arguments_114

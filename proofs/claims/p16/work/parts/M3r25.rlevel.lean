theorem dX12_level_26 : decode cX12_level 26 = .ok (.aload_n 0, 1) := by decide +kernel
theorem dX12_level_27 : decode cX12_level 27 = .ok (.invokevirtual 381, 3) := by decide +kernel
theorem dX12_level_30 : decode cX12_level 30 = .ok (.invokestatic 478, 3) := by decide +kernel
theorem dX12_level_33 : decode cX12_level 33 = .ok (.iload_n 1, 1) := by decide +kernel
theorem dX12_level_34 : decode cX12_level 34 = .ok (.if_icmp .ne 135, 3) := by decide +kernel
theorem dX12_level_37 : decode cX12_level 37 = .ok (.aload_n 0, 1) := by decide +kernel
theorem dX12_level_38 : decode cX12_level 38 = .ok (.invokevirtual 381, 3) := by decide +kernel
theorem dX12_level_41 : decode cX12_level 41 = .ok (.istore_n 3, 1) := by decide +kernel
theorem dX12_level_42 : decode cX12_level 42 = .ok (.aload_n 0, 1) := by decide +kernel
theorem dX12_level_43 : decode cX12_level 43 = .ok (.getfield 343, 3) := by decide +kernel
theorem dX12_level_46 : decode cX12_level 46 = .ok (.istore 4, 2) := by decide +kernel
theorem dX12_level_48 : decode cX12_level 48 = .ok (.aload_n 0, 1) := by decide +kernel
theorem dX12_level_49 : decode cX12_level 49 = .ok (.invokevirtual 481, 3) := by decide +kernel
theorem dX12_level_52 : decode cX12_level 52 = .ok (.aload_n 0, 1) := by decide +kernel
theorem dX12_level_53 : decode cX12_level 53 = .ok (.dup, 1) := by decide +kernel
theorem dX12_level_54 : decode cX12_level 54 = .ok (.getfield 343, 3) := by decide +kernel
theorem dX12_level_57 : decode cX12_level 57 = .ok (.iconst 1, 1) := by decide +kernel
theorem dX12_level_58 : decode cX12_level 58 = .ok (.iadd, 1) := by decide +kernel
theorem dX12_level_59 : decode cX12_level 59 = .ok (.putfield 343, 3) := by decide +kernel
theorem dX12_level_62 : decode cX12_level 62 = .ok (.iload_n 3, 1) := by decide +kernel
theorem dX12_level_63 : decode cX12_level 63 = .ok (.sipush 325, 3) := by decide +kernel
theorem dX12_level_66 : decode cX12_level 66 = .ok (.if_icmp .eq 10, 3) := by decide +kernel
theorem dX12_level_76 : decode cX12_level 76 = .ok (.aload_n 0, 1) := by decide +kernel
theorem dX12_level_77 : decode cX12_level 77 = .ok (.invokevirtual 406, 3) := by decide +kernel
theorem dX12_level_80 : decode cX12_level 80 = .ok (.istore 5, 2) := by decide +kernel
theorem dX12_level_82 : decode cX12_level 82 = .ok (.aload_n 0, 1) := by decide +kernel
theorem dX12_level_83 : decode cX12_level 83 = .ok (.iload_n 3, 1) := by decide +kernel
theorem dX12_level_84 : decode cX12_level 84 = .ok (.sipush 325, 3) := by decide +kernel
theorem dX12_level_87 : decode cX12_level 87 = .ok (.if_icmp .ne 8, 3) := by decide +kernel
theorem dX12_level_95 : decode cX12_level 95 = .ok (.bipush 22, 2) := by decide +kernel
theorem dX12_level_97 : decode cX12_level 97 = .ok (.aload_n 0, 1) := by decide +kernel
theorem dX12_level_98 : decode cX12_level 98 = .ok (.getfield 41, 3) := by decide +kernel
theorem dX12_level_101 : decode cX12_level 101 = .ok (.iload_n 2, 1) := by decide +kernel
theorem dX12_level_102 : decode cX12_level 102 = .ok (.iaload, 1) := by decide +kernel
theorem dX12_level_103 : decode cX12_level 103 = .ok (.iload 4, 2) := by decide +kernel
theorem dX12_level_105 : decode cX12_level 105 = .ok (.iload_n 2, 1) := by decide +kernel
theorem dX12_level_106 : decode cX12_level 106 = .ok (.iload 5, 2) := by decide +kernel
theorem dX12_level_108 : decode cX12_level 108 = .ok (.invokevirtual 428, 3) := by decide +kernel
theorem dX12_level_111 : decode cX12_level 111 = .ok (.istore_n 2, 1) := by decide +kernel
theorem dX12_level_112 : decode cX12_level 112 = .ok (.goto 54, 3) := by decide +kernel
theorem dX12_level_166 : decode cX12_level 166 = .ok (.goto (-147), 3) := by decide +kernel
theorem dX12_level_90 : decode cX12_level 90 = .ok (.bipush 21, 2) := by decide +kernel
theorem dX12_level_92 : decode cX12_level 92 = .ok (.goto 5, 3) := by decide +kernel
theorem dX12_level_69 : decode cX12_level 69 = .ok (.iload_n 3, 1) := by decide +kernel
theorem dX12_level_70 : decode cX12_level 70 = .ok (.sipush 310, 3) := by decide +kernel
theorem dX12_level_73 : decode cX12_level 73 = .ok (.if_icmp .ne 42, 3) := by decide +kernel
theorem dX12_level_115 : decode cX12_level 115 = .ok (.aload_n 0, 1) := by decide +kernel
theorem dX12_level_116 : decode cX12_level 116 = .ok (.iload_n 1, 1) := by decide +kernel
theorem dX12_level_117 : decode cX12_level 117 = .ok (.iconst 1, 1) := by decide +kernel
theorem dX12_level_118 : decode cX12_level 118 = .ok (.iadd, 1) := by decide +kernel
theorem dX12_level_119 : decode cX12_level 119 = .ok (.invokevirtual 472, 3) := by decide +kernel
theorem dX12_level_122 : decode cX12_level 122 = .ok (.istore 5, 2) := by decide +kernel
theorem dX12_level_124 : decode cX12_level 124 = .ok (.aload_n 0, 1) := by decide +kernel
theorem dX12_level_125 : decode cX12_level 125 = .ok (.iload_n 3, 1) := by decide +kernel
theorem dX12_level_126 : decode cX12_level 126 = .ok (.sipush 261, 3) := by decide +kernel
theorem dX12_level_129 : decode cX12_level 129 = .ok (.if_icmp .ne 8, 3) := by decide +kernel
theorem dX12_level_137 : decode cX12_level 137 = .ok (.iload_n 3, 1) := by decide +kernel
theorem dX12_level_138 : decode cX12_level 138 = .ok (.sipush 260, 3) := by decide +kernel
theorem dX12_level_141 : decode cX12_level 141 = .ok (.if_icmp .ne 8, 3) := by decide +kernel
theorem dX12_level_149 : decode cX12_level 149 = .ok (.bipush 18, 2) := by decide +kernel
theorem dX12_level_151 : decode cX12_level 151 = .ok (.aload_n 0, 1) := by decide +kernel
theorem dX12_level_152 : decode cX12_level 152 = .ok (.getfield 41, 3) := by decide +kernel
theorem dX12_level_155 : decode cX12_level 155 = .ok (.iload_n 2, 1) := by decide +kernel
theorem dX12_level_156 : decode cX12_level 156 = .ok (.iaload, 1) := by decide +kernel
theorem dX12_level_157 : decode cX12_level 157 = .ok (.iload 4, 2) := by decide +kernel
theorem dX12_level_159 : decode cX12_level 159 = .ok (.iload_n 2, 1) := by decide +kernel
theorem dX12_level_160 : decode cX12_level 160 = .ok (.iload 5, 2) := by decide +kernel
theorem dX12_level_162 : decode cX12_level 162 = .ok (.invokevirtual 428, 3) := by decide +kernel
theorem dX12_level_165 : decode cX12_level 165 = .ok (.istore_n 2, 1) := by decide +kernel
theorem dX12_level_144 : decode cX12_level 144 = .ok (.bipush 19, 2) := by decide +kernel
theorem dX12_level_146 : decode cX12_level 146 = .ok (.goto 5, 3) := by decide +kernel
theorem dX12_level_132 : decode cX12_level 132 = .ok (.bipush 20, 2) := by decide +kernel
theorem dX12_level_134 : decode cX12_level 134 = .ok (.goto 17, 3) := by decide +kernel
theorem hS_X12_strength : yX12_strength.cls ≠ "java/lang/invoke/MethodHandle" ∧ yX12_strength.cls ≠ "java/lang/invoke/VarHandle" ∧ (parseMethodDescriptor yX12_strength.desc).map (fun d => d.parameters.length) = some 1 := by decide +kernel
theorem hV_X12_typeHere : yX12_typeHere.cls = RX12 ∧ yX12_typeHere.cls ≠ "java/lang/invoke/MethodHandle" ∧ yX12_typeHere.cls ≠ "java/lang/invoke/VarHandle" ∧ (parseMethodDescriptor yX12_typeHere.desc).map (fun d => d.parameters.length) = some 0 := by decide +kernel
set_option maxHeartbeats 2000000 in
set_option maxRecDepth 100000 in
/-- level(l), no fault ahead -/
theorem RT_level (l : Launch) (G : pT) (h0 : Nat) (a : Nat → Nat) (F : Nat → Int32) (B : Nat → Nat → Int32) (at0 : Nat) (T : Nat) (n : Nat) (ne : Nat) (nd : Nat) (wr : Nat) (lk : Nat) (K : Nat → Int32) (lv : Nat) (hat : at0 ≤ T) (hT : T ≤ 5000) (hK : K T = 0 ∨ K T = 3) (hne : ne ≤ 20) (hnd : nd ≤ 2 * at0) (hwr : wr ≤ at0) (hlk : lk ≤ 60) (hy : tkRow (B 19) wr T) (hn : 21 ≤ n + ne) (hlv : lv ≤ 10) (hf : Pfront l G n) (hL : If (lv < 10) (Plevel l G n (lv + 1))) : PM l G pX0 yX12_level cX12_level 6 (some .int) ({ frames := (20 * n + (26 - lv)), cells := 0, slots := 0, locals := (1000 * n + 40 * (26 - lv)) }) [.ref h0, .int (nI lv)] (mW G h0 a (upd (upd (upd (upd (upd (upd F 15 0) 27 (nI nd)) 31 (nI wr)) 64 (nI at0)) 65 (nI ne)) 66 (nI lk)) (updA B 2 K)) (fun (v : Option Value) (u : Nat × Nat × Int32 × Nat × Nat × Nat × Nat × (Nat → Nat → Int32)) => v = some (.int (nI u.2.2.2.2.2.2.1)) ∧ (at0 ≤ u.1) ∧ (u.1 ≤ T) ∧ (u.2.1 ≤ 100) ∧ (nd ≤ u.2.2.2.1) ∧ (u.2.2.2.1 + 2 * at0 ≤ nd + 2 * u.1 + 100000 * u.2.1) ∧ (u.2.2.2.1 + 2 * at0 ≤ nd + 2 * u.1 + 40 * (21 - ne)) ∧ (wr ≤ u.2.2.2.2.2.1) ∧ (u.2.2.2.2.2.1 + at0 ≤ wr + u.1) ∧ (lk ≤ u.2.2.2.2.1) ∧ (u.2.2.2.2.1 ≤ 60 + 100 * u.2.1) ∧ (at0 + 1 ≤ u.1 + u.2.1) ∧ (u.2.2.2.2.2.2.1 ≤ u.2.2.2.1) ∧ (Kp B u.2.2.2.2.2.2.2 u.2.2.2.2.2.1 T) ∧ (If (u.2.1 = 0) (Low B u.2.2.2.2.2.2.2 nd wr ∧ Frs K T u.2.2.2.2.2.1 u.2.2.2.2.2.2.2 nd u.2.2.2.1 20000 [(u.2.2.2.2.2.2.1, (210 + u.2.2.2.2.1 - (10 * ne + lk)))] ∧ kcl 1 (u.2.2.2.2.2.2.2 9 u.2.2.2.2.2.2.1) = true))) (fun u => (mW G h0 a (upd (upd (upd (upd (upd (upd (upd F 15 (nI u.2.1)) 16 u.2.2.1) 27 (nI u.2.2.2.1)) 31 (nI u.2.2.2.2.2.1)) 64 (nI u.1)) 65 (nI ne)) 66 (nI u.2.2.2.2.1)) (updA u.2.2.2.2.2.2.2 2 K))) := by
  intro sz
  refine Met.ofW (cc := cX12_level) (maxL := 6) (ret := (some .int)) (by decide) rfl ?_
  intro p e s m args below meth c s₁ B9 hml hv
  obtain ⟨rfl, hsz, hP, hD0, hE, hX⟩ := hv
  have hx := B9.exec
  have hb := B9.bytes
  have hr := B9.returns
  have hts := atoms_spec (ws := Cond.code yX12_level cX12_level 6 (some .int) :: pw) B9.pre
  have hq : ∀ w ∈ pw, w.before _ s = true := fun w h => hts w (List.mem_cons_of_mem _ h)
  have hown : s.vm.findClass RX12 = some m.cls := findClass_of_methodNamed B9.named
  have hlocks := B9.notSynchronized
  subst hsz
  have hD := hD0.self (sz := s.heap.size)
  have hA : ∀ q : Nat, s.heap.size ≤ q → va_A (mW G h0 a (upd (upd (upd (upd (upd (upd F 15 0) 27 (nI nd)) 31 (nI wr)) 64 (nI at0)) 65 (nI ne)) 66 (nI lk)) (updA B 2 K)) s.heap.size q := fun q h => Or.inr h
  have hP : va_P G.1 pCl (mW G h0 a (upd (upd (upd (upd (upd (upd F 15 0) 27 (nI nd)) 31 (nI wr)) 64 (nI at0)) 65 (nI ne)) 66 (nI lk)) (updA B 2 K)) s.heap := hP
  generalize va_A (mW G h0 a (upd (upd (upd (upd (upd (upd F 15 0) 27 (nI nd)) 31 (nI wr)) 64 (nI at0)) 65 (nI ne)) 66 (nI lk)) (updA B 2 K)) s.heap.size = A at hD hE hA ⊢
  have hS : va_S A s.heap s.heap [] := va_S.rf
  have hl := lv_entry ([.ref h0, .int (nI lv)]) (n := 6) (Nat.le_of_ble_eq_true rfl)
  rw [lg_entry_eq]
  generalize (lg_sl ([.ref h0, .int (nI lv)]) ++ List.replicate (6 - (lg_sl ([.ref h0, .int (nI lv)])).length) Slot.unset).toArray = ls at hl ⊢
  have hl : lv_has ls 6 [(0, .ref h0), (1, .int (nI lv))] := hl
  have hkp1 : Kp B B wr T := Kp.rfl hy
  have hlo2 : Low B B nd wr := Low.rfl
  refine lv_iload_n hx hb dX12_level_0 rfl (lv_at hl 1 rfl) ?_
  refine lv_bipush (v := 10) hx hb dX12_level_1 (by decide) ?_
  refine lv_icmp_ne (tgt := 11) hx hb dX12_level_3 (by decide) (fun c3 => ?_) (fun c3 => ?_)
  · have n4 : ¬ (lv = 10) := fun h9 => c3 ((nI_eq (a := lv) (b := 10) (by omega) (by omega)).mpr h9)
    refine lv_aload_n hx hb dX12_level_11 rfl (lv_at hl 0 rfl) ?_
    refine lv_iload_n hx hb dX12_level_12 rfl (lv_at hl 1 rfl) ?_
    refine lv_iconst (v := 1) hx hb dX12_level_13 (by decide) ?_
    refine lv_iadd hx hb dX12_level_14 ?_
    refine lv_topi (fun x5 e6 => ?_)
    obtain rfl : x5 = nI (lv + 1) := e6.trans (nI_add (lv) (1))
    have hP : va_P G.1 pCl (mW G h0 a (upd (upd (upd (upd (upd (upd (upd (upd (upd (upd (upd (upd F 15 0) 27 (nI nd)) 31 (nI wr)) 64 (nI at0)) 65 (nI ne)) 66 (nI lk)) 15 0) 27 (nI nd)) 31 (nI wr)) 64 (nI at0)) 65 (nI ne)) 66 (nI lk)) (updA B 2 K)) _ := mW_to (F := F) (l1 := [(15, 0), (27, (nI nd)), (31, (nI wr)), (64, (nI at0)), (65, (nI ne)), (66, (nI lk))]) (l2 := [(15, 0), (27, (nI nd)), (31, (nI wr)), (64, (nI at0)), (65, (nI ne)), (66, (nI lk)), (15, 0), (27, (nI nd)), (31, (nI wr)), (64, (nI at0)), (65, (nI ne)), (66, (nI lk))]) (V := [0, (nI nd), (nI wr), (nI at0), (nI ne), (nI lk), 0, (nI nd), (nI wr), (nI at0), (nI ne), (nI lk), 0, (nI nd), (nI wr), (nI at0), (nI ne), (nI lk)]) rfl rfl rfl hP
    have hD : va_D A (mW G h0 a (upd (upd (upd (upd (upd (upd (upd (upd (upd (upd (upd (upd F 15 0) 27 (nI nd)) 31 (nI wr)) 64 (nI at0)) 65 (nI ne)) 66 (nI lk)) 15 0) 27 (nI nd)) 31 (nI wr)) 64 (nI at0)) 65 (nI ne)) 66 (nI lk)) (updA B 2 K)) := mW_D hD
    refine pc_V0 (G := G) (As := [.int (nI (lv + 1))]) (rest := []) hx hb hml hown hq hE hX pX0_al hP hD hS hA hl.1 ((hL (by omega)) h0 a (upd (upd (upd (upd (upd (upd F 15 0) 27 (nI nd)) 31 (nI wr)) 64 (nI at0)) 65 (nI ne)) 66 (nI lk)) B at0 T ne nd wr lk K (by omega) (by omega) hK (by omega) (by omega) (by omega) (by omega) (hkp1).2 (by omega) (by omega)) (gV pw_1657 pw_1658 pw_1659 pw_1523 pw_1667) hV_X12_level 0 9 rfl rfl rfl rfl (Nat.le_of_ble_eq_true rfl) dX12_level_15 ⟨Nat.le_of_ble_eq_true rfl, Nat.le_of_ble_eq_true rfl⟩ ⟨(by show (20 * n + (26 - (lv + 1))) + 1 ≤ (20 * n + (26 - lv)); omega), (by show 8 + (6 + 11) + (1000 * n + 40 * (26 - (lv + 1))) ≤ (1000 * n + 40 * (26 - lv)); omega)⟩ (fun v9 u7 H locs hw8 hP hD hS => ?_)
    obtain ⟨at10, fa11, pl12, nd13, lk14, wr15, r16, X17⟩ := u7
    obtain ⟨hw8, h18, h19, h20, h21, h22, h23, h24, h25, h26, h27, h28, h29, h30, h31⟩ := hw8
    have h18 : at0 ≤ at10 := h18
    have h19 : at10 ≤ T := h19
    have h20 : fa11 ≤ 100 := h20
    have h21 : nd ≤ nd13 := h21
    have h22 : nd13 + 2 * at0 ≤ nd + 2 * at10 + 100000 * fa11 := h22
    have h23 : nd13 + 2 * at0 ≤ nd + 2 * at10 + 40 * (21 - ne) := h23
    have h24 : wr ≤ wr15 := h24
    have h25 : wr15 + at0 ≤ wr + at10 := h25
    have h26 : lk ≤ lk14 := h26
    have h27 : lk14 ≤ 60 + 100 * fa11 := h27
    have h28 : at0 + 1 ≤ at10 + fa11 := h28
    have h29 : r16 ≤ nd13 := h29
    have h30 : Kp B X17 wr15 T := h30
    have h31 : If (fa11 = 0) (Low B X17 nd wr ∧ Frs K T wr15 X17 nd nd13 20000 [(r16, (210 + lk14 - (10 * ne + lk)))] ∧ kcl 1 (X17 9 r16) = true) := h31
    obtain rfl : v9 = some (.int (nI r16)) := hw8
    have hP : va_P G.1 pCl (mW G h0 a (upd (upd (upd (upd (upd (upd (upd F 15 (nI fa11)) 16 pl12) 27 (nI nd13)) 31 (nI wr15)) 64 (nI at10)) 65 (nI ne)) 66 (nI lk14)) (updA X17 2 K)) _ := mW_to (F := F) (l1 := [(15, 0), (27, (nI nd)), (31, (nI wr)), (64, (nI at0)), (65, (nI ne)), (66, (nI lk)), (15, (nI fa11)), (16, pl12), (27, (nI nd13)), (31, (nI wr15)), (64, (nI at10)), (65, (nI ne)), (66, (nI lk14))]) (l2 := [(15, (nI fa11)), (16, pl12), (27, (nI nd13)), (31, (nI wr15)), (64, (nI at10)), (65, (nI ne)), (66, (nI lk14))]) (V := [(nI fa11), (nI nd13), (nI wr15), (nI at10), (nI ne), (nI lk14), (nI fa11), pl12, (nI nd13), (nI wr15), (nI at10), (nI ne), (nI lk14), (nI fa11), pl12, (nI nd13), (nI wr15), (nI at10), (nI ne), (nI lk14)]) rfl rfl rfl hP
    have hD : va_D A (mW G h0 a (upd (upd (upd (upd (upd (upd (upd F 15 (nI fa11)) 16 pl12) 27 (nI nd13)) 31 (nI wr15)) 64 (nI at10)) 65 (nI ne)) 66 (nI lk14)) (updA X17 2 K)) := mW_D hD
    refine W.widen (k := 0) (n := 0) (Nat.le_of_ble_eq_true rfl) (Nat.le_of_ble_eq_true rfl) ?_
    refine W.eq (g2 := F0 m 18 ls [.int (nI r16)]) rfl ?_
    have hkp32 : Kp B X17 wr15 T := (Kp.trans hkp1 h30)
    rcases Nat.eq_zero_or_pos fa11 with e33 | e33
    · subst e33
      have hP : va_P G.1 pCl (mW G h0 a (upd (upd (upd (upd (upd (upd (upd F 15 0) 16 pl12) 27 (nI nd13)) 31 (nI wr15)) 64 (nI at10)) 65 (nI ne)) 66 (nI lk14)) (updA X17 2 K)) _ := hP
      have hD : va_D A (mW G h0 a (upd (upd (upd (upd (upd (upd (upd F 15 0) 16 pl12) 27 (nI nd13)) 31 (nI wr15)) 64 (nI at10)) 65 (nI ne)) 66 (nI lk14)) (updA X17 2 K)) := mW_D hD
      obtain ⟨hlw34, hf35, hc36⟩ := h31 rfl
      have hlo37 : Low B X17 nd wr := (Low.trans hlo2 hlw34 (by omega) (by omega))
      have hm38 := Frs.mem hf35
      refine lv_istore_n (lv' := [(2, .int (nI r16)), (0, .ref h0), (1, .int (nI lv))]) hx hb dX12_level_18 rfl hl (by decide) rfl (fun ls hl => ?_)
      have loop_o : ∀ (n_o : Nat) (at2 : Nat) (nd2 : Nat) (wr2 : Nat) (lk2 : Nat) (pl2 : Int32) (X2 : Nat → Nat → Int32) (r2 : Nat) (H : Heap) (locs : List Loc) (ls : Array Slot), at2 ≤ T → T + 1 ≤ at2 + n_o → (at0 + 1 ≤ at2) → (nd ≤ nd2) → (nd2 + 2 * at0 ≤ nd + 2 * at2) → (wr ≤ wr2) → (wr2 + at0 ≤ wr + at2) → (lk ≤ lk2) → (lk2 ≤ 60) → (lv < 10) → (Kp B X2 wr2 T) → (Low B X2 nd wr) → (nd ≤ r2 ∧ r2 < nd2) → (Frs K T wr2 X2 nd nd2 20000 [(r2, (210 + lk2 - (10 * ne + lk)))]) → (kcl 1 (X2 9 r2) = true) → va_P G.1 pCl (mW G h0 a (upd (upd (upd (upd (upd (upd (upd F 15 0) 16 pl2) 27 (nI nd2)) 31 (nI wr2)) 64 (nI at2)) 65 (nI ne)) 66 (nI lk2)) (updA X2 2 K)) H → va_D A (mW G h0 a (upd (upd (upd (upd (upd (upd (upd F 15 0) 16 pl2) 27 (nI nd2)) 31 (nI wr2)) 64 (nI at2)) 65 (nI ne)) 66 (nI lk2)) (updA X2 2 K)) → va_S A s.heap H locs → lv_has ls 6 [(2, .int (nI r2)), (1, .int (nI lv)), (0, .ref h0)] → W p l e (headSpec (Cond.code yX12_level cX12_level 6 (some .int) :: pw) ({ frames := (20 * n + (26 - lv)), cells := 0, slots := 0, locals := (1000 * n + 40 * (26 - lv)) } : Room)).room s m ([.ref h0, .int (nI lv)] : List Value).toArray below meth c H locs 0 0 (MQ below (pQ G A (fun (v : Option Value) (u : Nat × Nat × Int32 × Nat × Nat × Nat × Nat × (Nat → Nat → Int32)) => v = some (.int (nI u.2.2.2.2.2.2.1)) ∧ (at0 ≤ u.1) ∧ (u.1 ≤ T) ∧ (u.2.1 ≤ 100) ∧ (nd ≤ u.2.2.2.1) ∧ (u.2.2.2.1 + 2 * at0 ≤ nd + 2 * u.1 + 100000 * u.2.1) ∧ (u.2.2.2.1 + 2 * at0 ≤ nd + 2 * u.1 + 40 * (21 - ne)) ∧ (wr ≤ u.2.2.2.2.2.1) ∧ (u.2.2.2.2.2.1 + at0 ≤ wr + u.1) ∧ (lk ≤ u.2.2.2.2.1) ∧ (u.2.2.2.2.1 ≤ 60 + 100 * u.2.1) ∧ (at0 + 1 ≤ u.1 + u.2.1) ∧ (u.2.2.2.2.2.2.1 ≤ u.2.2.2.1) ∧ (Kp B u.2.2.2.2.2.2.2 u.2.2.2.2.2.1 T) ∧ (If (u.2.1 = 0) (Low B u.2.2.2.2.2.2.2 nd wr ∧ Frs K T u.2.2.2.2.2.1 u.2.2.2.2.2.2.2 nd u.2.2.2.1 20000 [(u.2.2.2.2.2.2.1, (210 + u.2.2.2.2.1 - (10 * ne + lk)))] ∧ kcl 1 (u.2.2.2.2.2.2.2 9 u.2.2.2.2.2.2.1) = true))) (fun u => (mW G h0 a (upd (upd (upd (upd (upd (upd (upd F 15 (nI u.2.1)) 16 u.2.2.1) 27 (nI u.2.2.2.1)) 31 (nI u.2.2.2.2.2.1)) 64 (nI u.1)) 65 (nI ne)) 66 (nI u.2.2.2.2.1)) (updA u.2.2.2.2.2.2.2 2 K)))) ([.ref h0, .int (nI lv)] : List Value).toArray s ({ frames := (20 * n + (26 - lv)), cells := 0, slots := 0, locals := (1000 * n + 40 * (26 - lv)) } : Room).cells ({ frames := (20 * n + (26 - lv)), cells := 0, slots := 0, locals := (1000 * n + 40 * (26 - lv)) } : Room).slots A) (F0 m 19 ls []) := by
        intro n_o
        induction n_o with
        | zero => intro at2 nd2 wr2 lk2 pl2 X2 r2 H locs ls hk_o hn_o; omega
        | succ n_o ih_o =>
          intro at2 nd2 wr2 lk2 pl2 X2 r2 H locs ls hk_o hn_o hl1 hl3 hl4 hl5 hl6 hl7 hl8 hl9 hkp2 hlo2 hm2 hf2 hc2 hP hD hS hl
          refine lv_aload_n hx hb dX12_level_19 rfl (lv_at hl 2 rfl) ?_
          refine r_get (v := .int 0) hx hb hown hq hE hP 15 350 tFX12_15 (by decide) pw_1594 rfl dX12_level_20 ?_
          refine lv_if_ne (tgt := 169) hx hb dX12_level_23 (by decide) (fun c39 => absurd c39 (by decide)) (fun c39 => ?_)
          refine lv_aload_n hx hb dX12_level_26 rfl (lv_at hl 2 rfl) ?_
          have hP : va_P G.1 pCl (mW G h0 a (upd (upd (upd (upd (upd (upd (upd (upd (upd F 15 0) 16 pl2) 27 (nI nd2)) 31 (nI wr2)) 64 (nI at2)) 65 (nI ne)) 66 (nI lk2)) 15 (nI 0)) 64 (nI at2)) (updA (updA X2 2 K) 2 K)) _ := mW_to (F := F) (l1 := [(15, 0), (16, pl2), (27, (nI nd2)), (31, (nI wr2)), (64, (nI at2)), (65, (nI ne)), (66, (nI lk2))]) (l2 := [(15, 0), (16, pl2), (27, (nI nd2)), (31, (nI wr2)), (64, (nI at2)), (65, (nI ne)), (66, (nI lk2)), (15, (nI 0)), (64, (nI at2))]) (V := [(nI 0), pl2, (nI nd2), (nI wr2), (nI at2), (nI ne), (nI lk2), (nI 0), pl2, (nI nd2), (nI wr2), (nI at2), (nI ne), (nI lk2), (nI 0), (nI at2)]) rfl rfl (show (updA X2 2 K) = (updA (updA X2 2 K) 2 K) from updsA_eq2 (F := X2) (l1 := [(2, K)]) (l2 := [(2, K), (2, K)]) (V := [K, K, K]) rfl rfl) hP
          have hD : va_D A (mW G h0 a (upd (upd (upd (upd (upd (upd (upd (upd (upd F 15 0) 16 pl2) 27 (nI nd2)) 31 (nI wr2)) 64 (nI at2)) 65 (nI ne)) 66 (nI lk2)) 15 (nI 0)) 64 (nI at2)) (updA (updA X2 2 K) 2 K)) := mW_D hD
          refine pc_V0 (G := G) (As := []) (rest := []) hx hb hml hown hq hE hX pX0_al hP hD hS hA hl.1 (R_kind l G h0 a (upd (upd (upd (upd (upd (upd (upd F 15 0) 16 pl2) 27 (nI nd2)) 31 (nI wr2)) 64 (nI at2)) 65 (nI ne)) 66 (nI lk2)) (updA X2 2 K) at2 T 0 K (by omega) (by omega) hK (by omega)) (gV pw_1626 pw_1627 pw_1628 pw_1523 pw_1591) hV_X12_kind 0 9 rfl rfl rfl rfl (Nat.le_of_ble_eq_true rfl) dX12_level_27 ⟨Nat.le_of_ble_eq_true rfl, Nat.le_of_ble_eq_true rfl⟩ ⟨(by show 2 + 1 ≤ (20 * n + (26 - lv)); omega), (by show 8 + (1 + 11) + 60 ≤ (1000 * n + 40 * (26 - lv)); omega)⟩ (fun v42 u40 H locs hw41 hP hD hS => ?_)
          obtain rfl : v42 = some (.int (K at2)) := hw41
          have hP : va_P G.1 pCl (mW G h0 a (upd (upd (upd (upd (upd (upd (upd F 15 0) 16 pl2) 27 (nI nd2)) 31 (nI wr2)) 64 (nI at2)) 65 (nI ne)) 66 (nI lk2)) (updA X2 2 K)) _ := mW_to (F := F) (l1 := [(15, 0), (16, pl2), (27, (nI nd2)), (31, (nI wr2)), (64, (nI at2)), (65, (nI ne)), (66, (nI lk2)), (15, (nI 0)), (64, (nI at2))]) (l2 := [(15, 0), (16, pl2), (27, (nI nd2)), (31, (nI wr2)), (64, (nI at2)), (65, (nI ne)), (66, (nI lk2))]) (V := [0, pl2, (nI nd2), (nI wr2), (nI at2), (nI ne), (nI lk2), 0, (nI at2), 0, pl2, (nI nd2), (nI wr2), (nI at2), (nI ne), (nI lk2)]) rfl rfl (show (updA (updA X2 2 K) 2 K) = (updA X2 2 K) from updsA_eq2 (F := X2) (l1 := [(2, K), (2, K)]) (l2 := [(2, K)]) (V := [K, K, K]) rfl rfl) hP
          have hD : va_D A (mW G h0 a (upd (upd (upd (upd (upd (upd (upd F 15 0) 16 pl2) 27 (nI nd2)) 31 (nI wr2)) 64 (nI at2)) 65 (nI ne)) 66 (nI lk2)) (updA X2 2 K)) := mW_D hD
          refine W.widen (k := 0) (n := 0) (Nat.le_of_ble_eq_true rfl) (Nat.le_of_ble_eq_true rfl) ?_
          refine W.eq (g2 := F0 m 30 ls [.int (K at2)]) rfl ?_
          refine pc_SN (G := G) (As := [.int (K at2)]) (rest := []) hx hb hml hown hq hE hX pX0_al hP hS hA hl.1 (s_strengthN l G (K at2)) (gS pw_1668 pw_1669 pw_1523 pw_1635) hS_X12_strength rfl (Nat.le_of_ble_eq_true rfl) dX12_level_30 ⟨Nat.le_of_ble_eq_true rfl, Nat.le_of_ble_eq_true rfl⟩ ⟨(by show 2 + 1 ≤ (20 * n + (26 - lv)); omega), (by show 8 + (1 + 11) + 60 ≤ (1000 * n + 40 * (26 - lv)); omega)⟩ (fun v45 u43 H locs hw44 hP hS => ?_)
          obtain ⟨x46, rfl, hr47⟩ := hw44
          refine W.widen (k := 0) (n := 0) (Nat.le_of_ble_eq_true rfl) (Nat.le_of_ble_eq_true rfl) ?_
          refine W.eq (g2 := F0 m 33 ls [.int x46]) rfl ?_
          refine lv_iload_n hx hb dX12_level_33 rfl (lv_at hl 1 rfl) ?_
          refine lv_icmp_ne (tgt := 169) hx hb dX12_level_34 (by decide) (fun c48 => ?_) (fun c48 => ?_)
          · refine lv_iload_n hx hb dX12_level_169 rfl (lv_at hl 0 rfl) ?_
            have hz49 : at0 ≤ at2 := (by omega)
            have hz50 : at2 ≤ T := (by omega)
            have hz51 : 0 ≤ 100 := (by omega)
            have hz52 : nd ≤ nd2 := (by omega)
            have hz53 : nd2 + 2 * at0 ≤ nd + 2 * at2 + 100000 * 0 := (by omega)
            have hz54 : nd2 + 2 * at0 ≤ nd + 2 * at2 + 40 * (21 - ne) := (by omega)
            have hz55 : wr ≤ wr2 := (by omega)
            have hz56 : wr2 + at0 ≤ wr + at2 := (by omega)
            have hz57 : lk ≤ lk2 := (by omega)
            have hz58 : lk2 ≤ 60 + 100 * 0 := (by omega)
            have hz59 : at0 + 1 ≤ at2 + 0 := (by omega)
            have hz60 : r2 ≤ nd2 := (by omega)
            have hz61 : Kp B X2 wr2 T := hkp2
            have hz62 : If (0 = 0) (Low B X2 nd wr ∧ Frs K T wr2 X2 nd nd2 20000 [(r2, (210 + lk2 - (10 * ne + lk)))] ∧ kcl 1 (X2 9 r2) = true) := (fun _ => ⟨hlo2, Frs.up hf2 (by omega), hc2⟩)
            have hP : va_P G.1 pCl (mW G h0 a (upd (upd (upd (upd (upd (upd (upd F 15 (nI 0)) 16 pl2) 27 (nI nd2)) 31 (nI wr2)) 64 (nI at2)) 65 (nI ne)) 66 (nI lk2)) (updA X2 2 K)) _ := hP
            have hD : va_D A (mW G h0 a (upd (upd (upd (upd (upd (upd (upd F 15 (nI 0)) 16 pl2) 27 (nI nd2)) 31 (nI wr2)) 64 (nI at2)) 65 (nI ne)) 66 (nI lk2)) (updA X2 2 K)) := mW_D hD
            exact W.iret (v := (nI r2)) hx hb hr (fun t9 ht9 hW9 => ⟨⟨_, (at2, 0, pl2, nd2, lk2, wr2, r2, X2), rfl, ⟨rfl, hz49, hz50, hz51, hz52, hz53, hz54, hz55, hz56, hz57, hz58, hz59, hz60, hz61, hz62⟩, by rw [ht9]; exact hP, hD⟩, hS.F ht9⟩) hS.2.2 dX12_level_170
          · have hs63 : stOK (K at2) := (hr47.resolve_left (fun e => nI_m1 (n := lv) (by omega) (c48.symm.trans e)))
            have n64 : at2 < T := tk_lt (by omega) hK rfl hs63.1.1 hs63.1.2
            refine lv_aload_n hx hb dX12_level_37 rfl (lv_at hl 2 rfl) ?_
            have hP : va_P G.1 pCl (mW G h0 a (upd (upd (upd (upd (upd (upd (upd (upd (upd F 15 0) 16 pl2) 27 (nI nd2)) 31 (nI wr2)) 64 (nI at2)) 65 (nI ne)) 66 (nI lk2)) 15 (nI 0)) 64 (nI at2)) (updA (updA X2 2 K) 2 K)) _ := hP
            have hD : va_D A (mW G h0 a (upd (upd (upd (upd (upd (upd (upd (upd (upd F 15 0) 16 pl2) 27 (nI nd2)) 31 (nI wr2)) 64 (nI at2)) 65 (nI ne)) 66 (nI lk2)) 15 (nI 0)) 64 (nI at2)) (updA (updA X2 2 K) 2 K)) := mW_D hD
            refine pc_V0 (G := G) (As := []) (rest := []) hx hb hml hown hq hE hX pX0_al hP hD hS hA hl.1 (R_kind l G h0 a (upd (upd (upd (upd (upd (upd (upd F 15 0) 16 pl2) 27 (nI nd2)) 31 (nI wr2)) 64 (nI at2)) 65 (nI ne)) 66 (nI lk2)) (updA X2 2 K) at2 T 0 K (by omega) (by omega) hK (by omega)) (gV pw_1626 pw_1627 pw_1628 pw_1523 pw_1591) hV_X12_kind 0 9 rfl rfl rfl rfl (Nat.le_of_ble_eq_true rfl) dX12_level_38 ⟨Nat.le_of_ble_eq_true rfl, Nat.le_of_ble_eq_true rfl⟩ ⟨(by show 2 + 1 ≤ (20 * n + (26 - lv)); omega), (by show 8 + (1 + 11) + 60 ≤ (1000 * n + 40 * (26 - lv)); omega)⟩ (fun v67 u65 H locs hw66 hP hD hS => ?_)
            obtain rfl : v67 = some (.int (K at2)) := hw66
            have hP : va_P G.1 pCl (mW G h0 a (upd (upd (upd (upd (upd (upd (upd F 15 0) 16 pl2) 27 (nI nd2)) 31 (nI wr2)) 64 (nI at2)) 65 (nI ne)) 66 (nI lk2)) (updA X2 2 K)) _ := mW_to (F := F) (l1 := [(15, 0), (16, pl2), (27, (nI nd2)), (31, (nI wr2)), (64, (nI at2)), (65, (nI ne)), (66, (nI lk2)), (15, (nI 0)), (64, (nI at2))]) (l2 := [(15, 0), (16, pl2), (27, (nI nd2)), (31, (nI wr2)), (64, (nI at2)), (65, (nI ne)), (66, (nI lk2))]) (V := [0, pl2, (nI nd2), (nI wr2), (nI at2), (nI ne), (nI lk2), 0, (nI at2), 0, pl2, (nI nd2), (nI wr2), (nI at2), (nI ne), (nI lk2)]) rfl rfl (show (updA (updA X2 2 K) 2 K) = (updA X2 2 K) from updsA_eq2 (F := X2) (l1 := [(2, K), (2, K)]) (l2 := [(2, K)]) (V := [K, K, K]) rfl rfl) hP
            have hD : va_D A (mW G h0 a (upd (upd (upd (upd (upd (upd (upd F 15 0) 16 pl2) 27 (nI nd2)) 31 (nI wr2)) 64 (nI at2)) 65 (nI ne)) 66 (nI lk2)) (updA X2 2 K)) := mW_D hD
            refine W.widen (k := 0) (n := 0) (Nat.le_of_ble_eq_true rfl) (Nat.le_of_ble_eq_true rfl) ?_
            refine W.eq (g2 := F0 m 41 ls [.int (K at2)]) rfl ?_
            refine lv_istore_n (lv' := [(3, .int (K at2)), (2, .int (nI r2)), (1, .int (nI lv)), (0, .ref h0)]) hx hb dX12_level_41 rfl hl (by decide) rfl (fun ls hl => ?_)
            refine lv_aload_n hx hb dX12_level_42 rfl (lv_at hl 3 rfl) ?_
            refine r_get (v := .int (nI at2)) hx hb hown hq hE hP 64 343 tFX12_64 (by decide) pw_1592 rfl dX12_level_43 ?_
            refine lv_istore (lv' := [(4, .int (nI at2)), (3, .int (K at2)), (2, .int (nI r2)), (1, .int (nI lv)), (0, .ref h0)]) hx hb dX12_level_46 hl (by decide) rfl (fun ls hl => ?_)
            refine lv_aload_n hx hb dX12_level_48 rfl (lv_at hl 4 rfl) ?_
            have hP : va_P G.1 pCl (mW G h0 a (upd (upd (upd (upd (upd (upd (upd (upd (upd (upd F 15 0) 16 pl2) 27 (nI nd2)) 31 (nI wr2)) 64 (nI at2)) 65 (nI ne)) 66 (nI lk2)) 15 (nI 0)) 64 (nI at2)) 66 (nI lk2)) (updA (updA X2 2 K) 2 K)) _ := mW_to (F := F) (l1 := [(15, 0), (16, pl2), (27, (nI nd2)), (31, (nI wr2)), (64, (nI at2)), (65, (nI ne)), (66, (nI lk2))]) (l2 := [(15, 0), (16, pl2), (27, (nI nd2)), (31, (nI wr2)), (64, (nI at2)), (65, (nI ne)), (66, (nI lk2)), (15, (nI 0)), (64, (nI at2)), (66, (nI lk2))]) (V := [(nI 0), pl2, (nI nd2), (nI wr2), (nI at2), (nI ne), (nI lk2), (nI 0), pl2, (nI nd2), (nI wr2), (nI at2), (nI ne), (nI lk2), (nI 0), (nI at2), (nI lk2)]) rfl rfl (show (updA X2 2 K) = (updA (updA X2 2 K) 2 K) from updsA_eq2 (F := X2) (l1 := [(2, K)]) (l2 := [(2, K), (2, K)]) (V := [K, K, K]) rfl rfl) hP
            have hD : va_D A (mW G h0 a (upd (upd (upd (upd (upd (upd (upd (upd (upd (upd F 15 0) 16 pl2) 27 (nI nd2)) 31 (nI wr2)) 64 (nI at2)) 65 (nI ne)) 66 (nI lk2)) 15 (nI 0)) 64 (nI at2)) 66 (nI lk2)) (updA (updA X2 2 K) 2 K)) := mW_D hD
            refine pc_V0 (G := G) (As := []) (rest := []) hx hb hml hown hq hE hX pX0_al hP hD hS hA hl.1 (R_linkedN l G h0 a (upd (upd (upd (upd (upd (upd (upd F 15 0) 16 pl2) 27 (nI nd2)) 31 (nI wr2)) 64 (nI at2)) 65 (nI ne)) 66 (nI lk2)) (updA X2 2 K) at2 T 0 K lk2 (by omega) (by omega) hK (by omega) (by omega)) (gV pw_1647 pw_1648 pw_1649 pw_1523 pw_1609) hV_X12_linked 0 9 rfl rfl rfl rfl (Nat.le_of_ble_eq_true rfl) dX12_level_49 ⟨Nat.le_of_ble_eq_true rfl, Nat.le_of_ble_eq_true rfl⟩ ⟨(by show 4 + 1 ≤ (20 * n + (26 - lv)); omega), (by show 8 + (1 + 11) + 103 ≤ (1000 * n + 40 * (26 - lv)); omega)⟩ (fun v70 u68 H locs hw69 hP hD hS => ?_)
            obtain ⟨fa71, pl72⟩ := u68
            obtain ⟨hw69, h73, h74, h75, h76⟩ := hw69
            have h73 : 0 ≤ fa71 := h73
            have h74 : fa71 ≤ 100 := h74
            have h75 : If (0 < 0) (fa71 = 0) := h75
            have h76 : If (lk2 ≤ 60) (lk2 + 1 ≤ 60 + 100 * fa71) := h76
            obtain rfl : v70 = none := hw69
            have hP : va_P G.1 pCl (mW G h0 a (upd (upd (upd (upd (upd (upd (upd F 15 (nI fa71)) 16 pl72) 27 (nI nd2)) 31 (nI wr2)) 64 (nI at2)) 65 (nI ne)) 66 (nI (lk2 + 1))) (updA X2 2 K)) _ := mW_to (F := F) (l1 := [(15, 0), (16, pl2), (27, (nI nd2)), (31, (nI wr2)), (64, (nI at2)), (65, (nI ne)), (66, (nI lk2)), (15, (nI fa71)), (16, pl72), (64, (nI at2)), (66, (nI (lk2 + 1)))]) (l2 := [(15, (nI fa71)), (16, pl72), (27, (nI nd2)), (31, (nI wr2)), (64, (nI at2)), (65, (nI ne)), (66, (nI (lk2 + 1)))]) (V := [(nI fa71), pl72, (nI nd2), (nI wr2), (nI at2), (nI ne), (nI (lk2 + 1)), (nI fa71), pl72, (nI at2), (nI (lk2 + 1)), (nI fa71), pl72, (nI nd2), (nI wr2), (nI at2), (nI ne), (nI (lk2 + 1))]) rfl rfl (show (updA (updA X2 2 K) 2 K) = (updA X2 2 K) from updsA_eq2 (F := X2) (l1 := [(2, K), (2, K)]) (l2 := [(2, K)]) (V := [K, K, K]) rfl rfl) hP
            have hD : va_D A (mW G h0 a (upd (upd (upd (upd (upd (upd (upd F 15 (nI fa71)) 16 pl72) 27 (nI nd2)) 31 (nI wr2)) 64 (nI at2)) 65 (nI ne)) 66 (nI (lk2 + 1))) (updA X2 2 K)) := mW_D hD
            refine W.widen (k := 0) (n := 0) (Nat.le_of_ble_eq_true rfl) (Nat.le_of_ble_eq_true rfl) ?_
            refine W.eq (g2 := F0 m 52 ls []) rfl ?_
            rcases Nat.eq_zero_or_pos fa71 with e77 | e77
            · subst e77
              have hP : va_P G.1 pCl (mW G h0 a (upd (upd (upd (upd (upd (upd (upd F 15 0) 16 pl72) 27 (nI nd2)) 31 (nI wr2)) 64 (nI at2)) 65 (nI ne)) 66 (nI (lk2 + 1))) (updA X2 2 K)) _ := hP
              have hD : va_D A (mW G h0 a (upd (upd (upd (upd (upd (upd (upd F 15 0) 16 pl72) 27 (nI nd2)) 31 (nI wr2)) 64 (nI at2)) 65 (nI ne)) 66 (nI (lk2 + 1))) (updA X2 2 K)) := mW_D hD
              have n78 : (lk2 + 1) ≤ 60 := (by have := h76 (by omega); omega)
              refine lv_aload_n hx hb dX12_level_52 rfl (lv_at hl 4 rfl) ?_
              refine lv_dup hx hb dX12_level_53 rfl ?_
              refine r_get (v := .int (nI at2)) hx hb hown hq hE hP 64 343 tFX12_64 (by decide) pw_1592 rfl dX12_level_54 ?_
              refine lv_iconst (v := 1) hx hb dX12_level_57 (by decide) ?_
              refine lv_iadd hx hb dX12_level_58 ?_
              refine lv_topi (fun x79 e80 => ?_)
              obtain rfl : x79 = nI (at2 + 1) := e80.trans (nI_add (at2) (1))
              refine r_put (v := (nI (at2 + 1))) (ty := .int) hx hb hown hq hE hP hD hS 64 343 tFX12_64 (by decide) pw_1592 (by decide) rfl rfl (ms_64 a _ _) dX12_level_59 (fun H locs hP hD hS => ?_)
              refine lv_iload_n hx hb dX12_level_62 rfl (lv_at hl 1 rfl) ?_
              refine lv_sipush (v := 325) hx hb dX12_level_63 (by decide) ?_
              refine lv_icmp_eq (tgt := 76) hx hb dX12_level_66 (by decide) (fun c81 => ?_) (fun c81 => ?_)
              · refine lv_aload_n hx hb dX12_level_76 rfl (lv_at hl 4 rfl) ?_
                have hP : va_P G.1 pCl (mW G h0 a (upd (upd (upd (upd (upd (upd (upd (upd (upd (upd F 15 0) 16 pl72) 27 (nI nd2)) 31 (nI wr2)) 64 (nI (at2 + 1))) 65 (nI ne)) 66 (nI (lk2 + 1))) 15 (nI 0)) 31 (nI wr2)) 64 (nI (at2 + 1))) (updA (updA (updA X2 2 K) 2 K) 19 (X2 19))) _ := mW_to (F := F) (l1 := [(15, 0), (16, pl72), (27, (nI nd2)), (31, (nI wr2)), (64, (nI at2)), (65, (nI ne)), (66, (nI (lk2 + 1))), (64, (nI (at2 + 1)))]) (l2 := [(15, 0), (16, pl72), (27, (nI nd2)), (31, (nI wr2)), (64, (nI (at2 + 1))), (65, (nI ne)), (66, (nI (lk2 + 1))), (15, (nI 0)), (31, (nI wr2)), (64, (nI (at2 + 1)))]) (V := [(nI 0), pl72, (nI nd2), (nI wr2), (nI (at2 + 1)), (nI ne), (nI (lk2 + 1)), (nI (at2 + 1)), (nI 0), pl72, (nI nd2), (nI wr2), (nI (at2 + 1)), (nI ne), (nI (lk2 + 1)), (nI 0), (nI wr2), (nI (at2 + 1))]) rfl rfl (show (updA X2 2 K) = (updA (updA (updA X2 2 K) 2 K) 19 (X2 19)) from updsA_eq2 (F := X2) (l1 := [(2, K)]) (l2 := [(2, K), (2, K), (19, (X2 19))]) (V := [K, K, K, (X2 19)]) rfl rfl) hP
                have hD : va_D A (mW G h0 a (upd (upd (upd (upd (upd (upd (upd (upd (upd (upd F 15 0) 16 pl72) 27 (nI nd2)) 31 (nI wr2)) 64 (nI (at2 + 1))) 65 (nI ne)) 66 (nI (lk2 + 1))) 15 (nI 0)) 31 (nI wr2)) 64 (nI (at2 + 1))) (updA (updA (updA X2 2 K) 2 K) 19 (X2 19))) := mW_D hD
                refine pc_V0 (G := G) (As := []) (rest := []) hx hb hml hown hq hE hX pX0_al hP hD hS hA hl.1 (R_typeHere l G h0 a (upd (upd (upd (upd (upd (upd (upd F 15 0) 16 pl72) 27 (nI nd2)) 31 (nI wr2)) 64 (nI (at2 + 1))) 65 (nI ne)) 66 (nI (lk2 + 1))) (updA X2 2 K) (at2 + 1) T 0 K wr2 (X2 19) (by omega) (by omega) hK (by omega) (by omega) (hkp2).2) (gV pw_1670 pw_1671 pw_1672 pw_1523 pw_1633) hV_X12_typeHere 0 9 rfl rfl rfl rfl (Nat.le_of_ble_eq_true rfl) dX12_level_77 ⟨Nat.le_of_ble_eq_true rfl, Nat.le_of_ble_eq_true rfl⟩ ⟨(by show 5 + 1 ≤ (20 * n + (26 - lv)); omega), (by show 8 + (2 + 11) + 124 ≤ (1000 * n + 40 * (26 - lv)); omega)⟩ (fun v84 u82 H locs hw83 hP hD hS => ?_)
                obtain ⟨at85, fa86, pl87, wr88, r89, yt90, yr91⟩ := u82
                obtain ⟨hw83, h92, h93, h94, h95, h96, h97, h98, h99, h100, h101, h102, h103, h104, h105⟩ := hw83
                have h92 : (at2 + 1) ≤ at85 := h92
                have h93 : at85 ≤ T := h93
                have h94 : 0 ≤ fa86 := h94
                have h95 : fa86 ≤ 100 := h95
                have h96 : If (0 < 0) (at85 = (at2 + 1) ∧ fa86 = 0) := h96
                have h97 : wr2 ≤ wr88 := h97
                have h98 : wr88 + (at2 + 1) ≤ wr2 + at85 := h98
                have h99 : If (0 < 0) (wr88 = wr2) := h99
                have h100 : r89 + 1 ≤ wr88 + 6000 * fa86 := h100
                have h101 : (at2 + 1) + 1 ≤ at85 + fa86 := h101
                have h102 : tkRow yt90 wr88 T := h102
                have h103 : ∀ i : Nat, i < wr2 → yt90 i = (X2 19) i := h103
                have h104 : ∀ i : Nat, i < wr2 → yr91 i = (X2 20) i := h104
                have h105 : r89 ≤ wr2 := h105
                obtain rfl : v84 = some (.int (nI r89)) := hw83
                have hP : va_P G.1 pCl (mW G h0 a (upd (upd (upd (upd (upd (upd (upd F 15 (nI fa86)) 16 pl87) 27 (nI nd2)) 31 (nI wr88)) 64 (nI at85)) 65 (nI ne)) 66 (nI (lk2 + 1))) (updA (updA (updA X2 2 K) 19 yt90) 20 yr91)) _ := mW_to (F := F) (l1 := [(15, 0), (16, pl72), (27, (nI nd2)), (31, (nI wr2)), (64, (nI (at2 + 1))), (65, (nI ne)), (66, (nI (lk2 + 1))), (15, (nI fa86)), (16, pl87), (31, (nI wr88)), (64, (nI at85))]) (l2 := [(15, (nI fa86)), (16, pl87), (27, (nI nd2)), (31, (nI wr88)), (64, (nI at85)), (65, (nI ne)), (66, (nI (lk2 + 1)))]) (V := [(nI fa86), pl87, (nI nd2), (nI wr88), (nI at85), (nI ne), (nI (lk2 + 1)), (nI fa86), pl87, (nI wr88), (nI at85), (nI fa86), pl87, (nI nd2), (nI wr88), (nI at85), (nI ne), (nI (lk2 + 1))]) rfl rfl (show (updA (updA (updA (updA X2 2 K) 2 K) 19 yt90) 20 yr91) = (updA (updA (updA X2 2 K) 19 yt90) 20 yr91) from updsA_eq2 (F := X2) (l1 := [(2, K), (2, K), (19, yt90), (20, yr91)]) (l2 := [(2, K), (19, yt90), (20, yr91)]) (V := [K, K, yt90, yr91, K, yt90, yr91]) rfl rfl) hP
                have hD : va_D A (mW G h0 a (upd (upd (upd (upd (upd (upd (upd F 15 (nI fa86)) 16 pl87) 27 (nI nd2)) 31 (nI wr88)) 64 (nI at85)) 65 (nI ne)) 66 (nI (lk2 + 1))) (updA (updA (updA X2 2 K) 19 yt90) 20 yr91)) := mW_D hD
                refine W.widen (k := 0) (n := 0) (Nat.le_of_ble_eq_true rfl) (Nat.le_of_ble_eq_true rfl) ?_
                refine W.eq (g2 := F0 m 80 ls [.int (nI r89)]) rfl ?_
                have hP : va_P G.1 pCl (mW G h0 a (upd (upd (upd (upd (upd (upd (upd F 15 (nI fa86)) 16 pl87) 27 (nI nd2)) 31 (nI wr88)) 64 (nI at85)) 65 (nI ne)) 66 (nI (lk2 + 1))) (updA (updA (updA X2 19 yt90) 20 yr91) 2 K)) _ := mW_to (F := F) (l1 := [(15, (nI fa86)), (16, pl87), (27, (nI nd2)), (31, (nI wr88)), (64, (nI at85)), (65, (nI ne)), (66, (nI (lk2 + 1)))]) (l2 := [(15, (nI fa86)), (16, pl87), (27, (nI nd2)), (31, (nI wr88)), (64, (nI at85)), (65, (nI ne)), (66, (nI (lk2 + 1)))]) (V := [(nI fa86), pl87, (nI nd2), (nI wr88), (nI at85), (nI ne), (nI (lk2 + 1)), (nI fa86), pl87, (nI nd2), (nI wr88), (nI at85), (nI ne), (nI (lk2 + 1))]) rfl rfl (show (updA (updA (updA X2 2 K) 19 yt90) 20 yr91) = (updA (updA (updA X2 19 yt90) 20 yr91) 2 K) from updsA_eq2 (F := X2) (l1 := [(2, K), (19, yt90), (20, yr91)]) (l2 := [(19, yt90), (20, yr91), (2, K)]) (V := [K, yt90, yr91, yt90, yr91, K]) rfl rfl) hP
                have hD : va_D A (mW G h0 a (upd (upd (upd (upd (upd (upd (upd F 15 (nI fa86)) 16 pl87) 27 (nI nd2)) 31 (nI wr88)) 64 (nI at85)) 65 (nI ne)) 66 (nI (lk2 + 1))) (updA (updA (updA X2 19 yt90) 20 yr91) 2 K)) := mW_D hD
                have hkp106 : Kp B (updA (updA X2 19 yt90) 20 yr91) wr88 T := (Kp.y hkp2 h102)
                rcases Nat.eq_zero_or_pos fa86 with e107 | e107
                · subst e107
                  have hP : va_P G.1 pCl (mW G h0 a (upd (upd (upd (upd (upd (upd (upd F 15 0) 16 pl87) 27 (nI nd2)) 31 (nI wr88)) 64 (nI at85)) 65 (nI ne)) 66 (nI (lk2 + 1))) (updA (updA (updA X2 19 yt90) 20 yr91) 2 K)) _ := hP
                  have hD : va_D A (mW G h0 a (upd (upd (upd (upd (upd (upd (upd F 15 0) 16 pl87) 27 (nI nd2)) 31 (nI wr88)) 64 (nI at85)) 65 (nI ne)) 66 (nI (lk2 + 1))) (updA (updA (updA X2 19 yt90) 20 yr91) 2 K)) := mW_D hD
                  have hlo108 : Low B (updA (updA X2 19 yt90) 20 yr91) nd wr := (Low.y hlo2 (fun i z => h103 i (by omega)) (fun i z => h104 i (by omega)))
                  have hf109 : Frs K T wr88 (updA (updA X2 19 yt90) 20 yr91) nd nd2 20000 [(r2, (210 + lk2 - (10 * ne + lk)))] := (hf2.y (by omega))
                  have hc110 : kcl 1 ((updA (updA X2 19 yt90) 20 yr91) 9 r2) = true := hc2
                  refine lv_istore (lv' := [(5, .int (nI r89)), (4, .int (nI at2)), (3, .int (K at2)), (2, .int (nI r2)), (1, .int (nI lv)), (0, .ref h0)]) hx hb dX12_level_80 hl (by decide) rfl (fun ls hl => ?_)
                  refine lv_aload_n hx hb dX12_level_82 rfl (lv_at hl 5 rfl) ?_
                  refine lv_iload_n hx hb dX12_level_83 rfl (lv_at hl 2 rfl) ?_
                  refine lv_sipush (v := 325) hx hb dX12_level_84 (by decide) ?_
                  refine lv_icmp_ne (tgt := 95) hx hb dX12_level_87 (by decide) (fun c111 => ?_) (fun c111 => ?_)
                  · refine lv_bipush (v := 22) hx hb dX12_level_95 (by decide) ?_
                    refine lv_aload_n hx hb dX12_level_97 rfl (lv_at hl 5 rfl) ?_
                    refine r_get (v := .ref (a 10)) hx hb hown hq hE hP 18 41 tFX12_18 (by decide) pw_1440 rfl dX12_level_98 ?_
                    refine lv_iload_n hx hb dX12_level_101 rfl (lv_at hl 3 rfl) ?_
                    refine r_ldi (f := ((updA (updA X2 19 yt90) 20 yr91) 10)) (j := r2) hx hb hE hP 10 (ma_10 G a _) rfl (by omega) (by decide) dX12_level_102 ?_
                    obtain ⟨t112, h113, e114⟩ := Frs.first (n := r2) hf109 (by omega) (by omega)
                    refine lv_topi (fun x115 e116 => ?_)
                    obtain rfl : x115 = nI t112 := e116.trans e114
                    refine lv_iload hx hb dX12_level_103 (lv_at hl 1 rfl) ?_
                    refine lv_iload_n hx hb dX12_level_105 rfl (lv_at hl 3 rfl) ?_
                    refine lv_iload hx hb dX12_level_106 (lv_at hl 0 rfl) ?_
                    have hP : va_P G.1 pCl (mW G h0 a (upd (upd (upd (upd (upd (upd (upd (upd F 15 0) 16 pl87) 27 (nI nd2)) 31 (nI wr88)) 64 (nI at85)) 65 (nI ne)) 66 (nI (lk2 + 1))) 27 (nI nd2)) (updA (updA (updA X2 19 yt90) 20 yr91) 2 K)) _ := mW_to (F := F) (l1 := [(15, 0), (16, pl87), (27, (nI nd2)), (31, (nI wr88)), (64, (nI at85)), (65, (nI ne)), (66, (nI (lk2 + 1)))]) (l2 := [(15, 0), (16, pl87), (27, (nI nd2)), (31, (nI wr88)), (64, (nI at85)), (65, (nI ne)), (66, (nI (lk2 + 1))), (27, (nI nd2))]) (V := [0, pl87, (nI nd2), (nI wr88), (nI at85), (nI ne), (nI (lk2 + 1)), 0, pl87, (nI nd2), (nI wr88), (nI at85), (nI ne), (nI (lk2 + 1)), (nI nd2)]) rfl rfl rfl hP
                    have hD : va_D A (mW G h0 a (upd (upd (upd (upd (upd (upd (upd (upd F 15 0) 16 pl87) 27 (nI nd2)) 31 (nI wr88)) 64 (nI at85)) 65 (nI ne)) 66 (nI (lk2 + 1))) 27 (nI nd2)) (updA (updA (updA X2 19 yt90) 20 yr91) 2 K)) := mW_D hD
                    refine pc_V0 (G := G) (As := [.int 22, .int (nI t112), .int (nI at2), .int (nI r2), .int (nI r89)]) (rest := []) hx hb hml hown hq hE hX pX0_al hP hD hS hA hl.1 (R_nodeB l G h0 a (upd (upd (upd (upd (upd (upd (upd F 15 0) 16 pl87) 27 (nI nd2)) 31 (nI wr88)) 64 (nI at85)) 65 (nI ne)) 66 (nI (lk2 + 1))) (updA (updA X2 19 yt90) 20 yr91) 22 (nI t112) (nI at2) (nI r2) (nI r89) nd2 K (by omega)) (gV pw_1650 pw_1651 pw_1652 pw_1523 pw_1589) hV_X12_node 0 9 rfl rfl rfl rfl (Nat.le_of_ble_eq_true rfl) dX12_level_108 ⟨Nat.le_of_ble_eq_true rfl, Nat.le_of_ble_eq_true rfl⟩ ⟨(by show 2 + 1 ≤ (20 * n + (26 - lv)); omega), (by show 8 + (7 + 11) + 60 ≤ (1000 * n + 40 * (26 - lv)); omega)⟩ (fun v119 u117 H locs hw118 hP hD hS => ?_)
                    obtain ⟨X120, rfl⟩ : ∃ z, z = u117 := ⟨_, rfl⟩
                    obtain ⟨hw118, h121⟩ := hw118
                    have h121 : NewN (updA (updA X2 19 yt90) 20 yr91) X120 nd2 22 (nI t112) (nI at2) (nI r2) (nI r89) := h121
                    obtain rfl : v119 = some (.int (nI nd2)) := hw118
                    have hP : va_P G.1 pCl (mW G h0 a (upd (upd (upd (upd (upd (upd (upd F 15 0) 16 pl87) 27 (nI (nd2 + 1))) 31 (nI wr88)) 64 (nI at85)) 65 (nI ne)) 66 (nI (lk2 + 1))) (updA X120 2 K)) _ := mW_to (F := F) (l1 := [(15, 0), (16, pl87), (27, (nI nd2)), (31, (nI wr88)), (64, (nI at85)), (65, (nI ne)), (66, (nI (lk2 + 1))), (27, (nI (nd2 + 1)))]) (l2 := [(15, 0), (16, pl87), (27, (nI (nd2 + 1))), (31, (nI wr88)), (64, (nI at85)), (65, (nI ne)), (66, (nI (lk2 + 1)))]) (V := [0, pl87, (nI (nd2 + 1)), (nI wr88), (nI at85), (nI ne), (nI (lk2 + 1)), (nI (nd2 + 1)), 0, pl87, (nI (nd2 + 1)), (nI wr88), (nI at85), (nI ne), (nI (lk2 + 1))]) rfl rfl rfl hP
                    have hD : va_D A (mW G h0 a (upd (upd (upd (upd (upd (upd (upd F 15 0) 16 pl87) 27 (nI (nd2 + 1))) 31 (nI wr88)) 64 (nI at85)) 65 (nI ne)) 66 (nI (lk2 + 1))) (updA X120 2 K)) := mW_D hD
                    refine W.widen (k := 0) (n := 0) (Nat.le_of_ble_eq_true rfl) (Nat.le_of_ble_eq_true rfl) ?_
                    refine W.eq (g2 := F0 m 111 ls [.int (nI nd2)]) rfl ?_
                    have hkp122 : Kp B X120 wr88 T := (Kp.new hkp106 h121)
                    have hlo123 : Low B X120 nd wr := (Low.new hlo108 h121 (by omega))
                    have hc124 : kcl 1 (X120 9 r2) = true := by rw [h121.2.1 9 r2 (by omega)]; exact hc110
                    have hf125 : Frs K T wr88 X120 nd (nd2 + 1) nd2 [(nd2, (210 + (lk2 + 1) - (10 * ne + lk)))] := (Frs.new1 (k := 22) hf109 (by omega) (by omega) (by omega) h121 rfl rfl (by decide) (by decide) (by omega) (by omega) (by decide) (by simp) ⟨by decide, by decide, by decide, by decide⟩ hc110 ⟨fun _ => ⟨r89, rfl, by omega⟩, fun e => absurd e (by decide), fun e => absurd (by decide) e⟩ (newOK.m1 (by decide)) (newOK.m1 (by decide)) (by omega))
                    have hn126 : Nd X120 nd2 22 (nI r2) (nI r89) (-1) (-1) := (NewN.toNd h121)
                    have hf127 : Frs K T wr88 X120 nd (nd2 + 1) 20000 [(nd2, (210 + (lk2 + 1) - (10 * ne + lk)))] := (Frs.fin (k := 22) hf125 hn126 rfl (by decide) (fun _ => nI_m1 (by omega)) (fun h => absurd h (by decide)) (fun h => absurd h (by decide)) (fun h => absurd h (by decide)))
                    refine lv_istore_n (lv' := [(2, .int (nI nd2)), (5, .int (nI r89)), (4, .int (nI at2)), (3, .int (K at2)), (1, .int (nI lv)), (0, .ref h0)]) hx hb dX12_level_111 rfl hl (by decide) rfl (fun ls hl => ?_)
                    refine lv_goto (tgt := 166) hx hb dX12_level_112 (by decide) ?_
                    refine lv_goto (tgt := 19) hx hb dX12_level_166 (by decide) ?_
                    have hP : va_P G.1 pCl (mW G h0 a (upd (upd (upd (upd (upd (upd (upd F 15 0) 16 pl87) 27 (nI (nd2 + 1))) 31 (nI wr88)) 64 (nI at85)) 65 (nI ne)) 66 (nI (lk2 + 1))) (updA X120 2 K)) _ := hP
                    have hD : va_D A (mW G h0 a (upd (upd (upd (upd (upd (upd (upd F 15 0) 16 pl87) 27 (nI (nd2 + 1))) 31 (nI wr88)) 64 (nI at85)) 65 (nI ne)) 66 (nI (lk2 + 1))) (updA X120 2 K)) := mW_D hD
                    exact ih_o at85 (nd2 + 1) wr88 (lk2 + 1) pl87 X120 nd2 _ _ _ (by omega) (by omega) (by omega) (by omega) (by omega) (by omega) (by omega) (by omega) (by omega) (by omega) hkp122 hlo123 (by omega) (Frs.up hf127 (by omega)) (by rw [hn126.1]; decide) hP hD hS (lv_sub hl [0, 4, 5] rfl)
                  · refine lv_bipush (v := 21) hx hb dX12_level_90 (by decide) ?_
                    refine lv_goto (tgt := 97) hx hb dX12_level_92 (by decide) ?_
                    refine lv_aload_n hx hb dX12_level_97 rfl (lv_at hl 5 rfl) ?_
                    refine r_get (v := .ref (a 10)) hx hb hown hq hE hP 18 41 tFX12_18 (by decide) pw_1440 rfl dX12_level_98 ?_
                    refine lv_iload_n hx hb dX12_level_101 rfl (lv_at hl 3 rfl) ?_
                    refine r_ldi (f := ((updA (updA X2 19 yt90) 20 yr91) 10)) (j := r2) hx hb hE hP 10 (ma_10 G a _) rfl (by omega) (by decide) dX12_level_102 ?_
                    obtain ⟨t128, h129, e130⟩ := Frs.first (n := r2) hf109 (by omega) (by omega)
                    refine lv_topi (fun x131 e132 => ?_)
                    obtain rfl : x131 = nI t128 := e132.trans e130
                    refine lv_iload hx hb dX12_level_103 (lv_at hl 1 rfl) ?_
                    refine lv_iload_n hx hb dX12_level_105 rfl (lv_at hl 3 rfl) ?_
                    refine lv_iload hx hb dX12_level_106 (lv_at hl 0 rfl) ?_
                    have hP : va_P G.1 pCl (mW G h0 a (upd (upd (upd (upd (upd (upd (upd (upd F 15 0) 16 pl87) 27 (nI nd2)) 31 (nI wr88)) 64 (nI at85)) 65 (nI ne)) 66 (nI (lk2 + 1))) 27 (nI nd2)) (updA (updA (updA X2 19 yt90) 20 yr91) 2 K)) _ := mW_to (F := F) (l1 := [(15, 0), (16, pl87), (27, (nI nd2)), (31, (nI wr88)), (64, (nI at85)), (65, (nI ne)), (66, (nI (lk2 + 1)))]) (l2 := [(15, 0), (16, pl87), (27, (nI nd2)), (31, (nI wr88)), (64, (nI at85)), (65, (nI ne)), (66, (nI (lk2 + 1))), (27, (nI nd2))]) (V := [0, pl87, (nI nd2), (nI wr88), (nI at85), (nI ne), (nI (lk2 + 1)), 0, pl87, (nI nd2), (nI wr88), (nI at85), (nI ne), (nI (lk2 + 1)), (nI nd2)]) rfl rfl rfl hP
                    have hD : va_D A (mW G h0 a (upd (upd (upd (upd (upd (upd (upd (upd F 15 0) 16 pl87) 27 (nI nd2)) 31 (nI wr88)) 64 (nI at85)) 65 (nI ne)) 66 (nI (lk2 + 1))) 27 (nI nd2)) (updA (updA (updA X2 19 yt90) 20 yr91) 2 K)) := mW_D hD
                    refine pc_V0 (G := G) (As := [.int 21, .int (nI t128), .int (nI at2), .int (nI r2), .int (nI r89)]) (rest := []) hx hb hml hown hq hE hX pX0_al hP hD hS hA hl.1 (R_nodeB l G h0 a (upd (upd (upd (upd (upd (upd (upd F 15 0) 16 pl87) 27 (nI nd2)) 31 (nI wr88)) 64 (nI at85)) 65 (nI ne)) 66 (nI (lk2 + 1))) (updA (updA X2 19 yt90) 20 yr91) 21 (nI t128) (nI at2) (nI r2) (nI r89) nd2 K (by omega)) (gV pw_1650 pw_1651 pw_1652 pw_1523 pw_1589) hV_X12_node 0 9 rfl rfl rfl rfl (Nat.le_of_ble_eq_true rfl) dX12_level_108 ⟨Nat.le_of_ble_eq_true rfl, Nat.le_of_ble_eq_true rfl⟩ ⟨(by show 2 + 1 ≤ (20 * n + (26 - lv)); omega), (by show 8 + (7 + 11) + 60 ≤ (1000 * n + 40 * (26 - lv)); omega)⟩ (fun v135 u133 H locs hw134 hP hD hS => ?_)
                    obtain ⟨X136, rfl⟩ : ∃ z, z = u133 := ⟨_, rfl⟩
                    obtain ⟨hw134, h137⟩ := hw134
                    have h137 : NewN (updA (updA X2 19 yt90) 20 yr91) X136 nd2 21 (nI t128) (nI at2) (nI r2) (nI r89) := h137
                    obtain rfl : v135 = some (.int (nI nd2)) := hw134
                    have hP : va_P G.1 pCl (mW G h0 a (upd (upd (upd (upd (upd (upd (upd F 15 0) 16 pl87) 27 (nI (nd2 + 1))) 31 (nI wr88)) 64 (nI at85)) 65 (nI ne)) 66 (nI (lk2 + 1))) (updA X136 2 K)) _ := mW_to (F := F) (l1 := [(15, 0), (16, pl87), (27, (nI nd2)), (31, (nI wr88)), (64, (nI at85)), (65, (nI ne)), (66, (nI (lk2 + 1))), (27, (nI (nd2 + 1)))]) (l2 := [(15, 0), (16, pl87), (27, (nI (nd2 + 1))), (31, (nI wr88)), (64, (nI at85)), (65, (nI ne)), (66, (nI (lk2 + 1)))]) (V := [0, pl87, (nI (nd2 + 1)), (nI wr88), (nI at85), (nI ne), (nI (lk2 + 1)), (nI (nd2 + 1)), 0, pl87, (nI (nd2 + 1)), (nI wr88), (nI at85), (nI ne), (nI (lk2 + 1))]) rfl rfl rfl hP
                    have hD : va_D A (mW G h0 a (upd (upd (upd (upd (upd (upd (upd F 15 0) 16 pl87) 27 (nI (nd2 + 1))) 31 (nI wr88)) 64 (nI at85)) 65 (nI ne)) 66 (nI (lk2 + 1))) (updA X136 2 K)) := mW_D hD
                    refine W.widen (k := 0) (n := 0) (Nat.le_of_ble_eq_true rfl) (Nat.le_of_ble_eq_true rfl) ?_
                    refine W.eq (g2 := F0 m 111 ls [.int (nI nd2)]) rfl ?_
                    have hkp138 : Kp B X136 wr88 T := (Kp.new hkp106 h137)
                    have hlo139 : Low B X136 nd wr := (Low.new hlo108 h137 (by omega))
                    have hc140 : kcl 1 (X136 9 r2) = true := by rw [h137.2.1 9 r2 (by omega)]; exact hc110
                    have hf141 : Frs K T wr88 X136 nd (nd2 + 1) nd2 [(nd2, (210 + (lk2 + 1) - (10 * ne + lk)))] := (Frs.new1 (k := 21) hf109 (by omega) (by omega) (by omega) h137 rfl rfl (by decide) (by decide) (by omega) (by omega) (by decide) (by simp) ⟨by decide, by decide, by decide, by decide⟩ hc110 ⟨fun _ => ⟨r89, rfl, by omega⟩, fun e => absurd e (by decide), fun e => absurd (by decide) e⟩ (newOK.m1 (by decide)) (newOK.m1 (by decide)) (by omega))
                    have hn142 : Nd X136 nd2 21 (nI r2) (nI r89) (-1) (-1) := (NewN.toNd h137)
                    have hf143 : Frs K T wr88 X136 nd (nd2 + 1) 20000 [(nd2, (210 + (lk2 + 1) - (10 * ne + lk)))] := (Frs.fin (k := 21) hf141 hn142 rfl (by decide) (fun _ => nI_m1 (by omega)) (fun h => absurd h (by decide)) (fun h => absurd h (by decide)) (fun h => absurd h (by decide)))
                    refine lv_istore_n (lv' := [(2, .int (nI nd2)), (5, .int (nI r89)), (4, .int (nI at2)), (3, .int (K at2)), (1, .int (nI lv)), (0, .ref h0)]) hx hb dX12_level_111 rfl hl (by decide) rfl (fun ls hl => ?_)
                    refine lv_goto (tgt := 166) hx hb dX12_level_112 (by decide) ?_
                    refine lv_goto (tgt := 19) hx hb dX12_level_166 (by decide) ?_
                    have hP : va_P G.1 pCl (mW G h0 a (upd (upd (upd (upd (upd (upd (upd F 15 0) 16 pl87) 27 (nI (nd2 + 1))) 31 (nI wr88)) 64 (nI at85)) 65 (nI ne)) 66 (nI (lk2 + 1))) (updA X136 2 K)) _ := hP
                    have hD : va_D A (mW G h0 a (upd (upd (upd (upd (upd (upd (upd F 15 0) 16 pl87) 27 (nI (nd2 + 1))) 31 (nI wr88)) 64 (nI at85)) 65 (nI ne)) 66 (nI (lk2 + 1))) (updA X136 2 K)) := mW_D hD
                    exact ih_o at85 (nd2 + 1) wr88 (lk2 + 1) pl87 X136 nd2 _ _ _ (by omega) (by omega) (by omega) (by omega) (by omega) (by omega) (by omega) (by omega) (by omega) (by omega) hkp138 hlo139 (by omega) (Frs.up hf143 (by omega)) (by rw [hn142.1]; decide) hP hD hS (lv_sub hl [0, 4, 5] rfl)
                · have e107 := e107
                  refine lv_istore (lv' := [(5, .int (nI r89)), (4, .int (nI at2)), (3, .int (K at2)), (2, .int (nI r2)), (1, .int (nI lv)), (0, .ref h0)]) hx hb dX12_level_80 hl (by decide) rfl (fun ls hl => ?_)
                  refine lv_aload_n hx hb dX12_level_82 rfl (lv_at hl 5 rfl) ?_
                  refine lv_iload_n hx hb dX12_level_83 rfl (lv_at hl 2 rfl) ?_
                  refine lv_sipush (v := 325) hx hb dX12_level_84 (by decide) ?_
                  refine lv_icmp_ne (tgt := 95) hx hb dX12_level_87 (by decide) (fun c144 => ?_) (fun c144 => ?_)
                  · refine lv_bipush (v := 22) hx hb dX12_level_95 (by decide) ?_
                    refine lv_aload_n hx hb dX12_level_97 rfl (lv_at hl 5 rfl) ?_
                    refine r_get (v := .ref (a 10)) hx hb hown hq hE hP 18 41 tFX12_18 (by decide) pw_1440 rfl dX12_level_98 ?_
                    refine lv_iload_n hx hb dX12_level_101 rfl (lv_at hl 3 rfl) ?_
                    refine r_ldi (f := ((updA (updA X2 19 yt90) 20 yr91) 10)) (j := r2) hx hb hE hP 10 (ma_10 G a _) rfl (by omega) (by decide) dX12_level_102 ?_
                    refine lv_topi (fun x145 e146 => ?_)
                    refine lv_iload hx hb dX12_level_103 (lv_at hl 1 rfl) ?_
                    refine lv_iload_n hx hb dX12_level_105 rfl (lv_at hl 3 rfl) ?_
                    refine lv_iload hx hb dX12_level_106 (lv_at hl 0 rfl) ?_
                    have hP : va_P G.1 pCl (mW G h0 a (upd (upd (upd (upd (upd (upd (upd (upd F 15 (nI fa86)) 16 pl87) 27 (nI nd2)) 31 (nI wr88)) 64 (nI at85)) 65 (nI ne)) 66 (nI (lk2 + 1))) 27 (nI nd2)) (updA (updA (updA X2 19 yt90) 20 yr91) 2 K)) _ := mW_to (F := F) (l1 := [(15, (nI fa86)), (16, pl87), (27, (nI nd2)), (31, (nI wr88)), (64, (nI at85)), (65, (nI ne)), (66, (nI (lk2 + 1)))]) (l2 := [(15, (nI fa86)), (16, pl87), (27, (nI nd2)), (31, (nI wr88)), (64, (nI at85)), (65, (nI ne)), (66, (nI (lk2 + 1))), (27, (nI nd2))]) (V := [(nI fa86), pl87, (nI nd2), (nI wr88), (nI at85), (nI ne), (nI (lk2 + 1)), (nI fa86), pl87, (nI nd2), (nI wr88), (nI at85), (nI ne), (nI (lk2 + 1)), (nI nd2)]) rfl rfl rfl hP
                    have hD : va_D A (mW G h0 a (upd (upd (upd (upd (upd (upd (upd (upd F 15 (nI fa86)) 16 pl87) 27 (nI nd2)) 31 (nI wr88)) 64 (nI at85)) 65 (nI ne)) 66 (nI (lk2 + 1))) 27 (nI nd2)) (updA (updA (updA X2 19 yt90) 20 yr91) 2 K)) := mW_D hD
                    refine pc_V0 (G := G) (As := [.int 22, .int x145, .int (nI at2), .int (nI r2), .int (nI r89)]) (rest := []) hx hb hml hown hq hE hX pX0_al hP hD hS hA hl.1 (R_nodeB l G h0 a (upd (upd (upd (upd (upd (upd (upd F 15 (nI fa86)) 16 pl87) 27 (nI nd2)) 31 (nI wr88)) 64 (nI at85)) 65 (nI ne)) 66 (nI (lk2 + 1))) (updA (updA X2 19 yt90) 20 yr91) 22 x145 (nI at2) (nI r2) (nI r89) nd2 K (by omega)) (gV pw_1650 pw_1651 pw_1652 pw_1523 pw_1589) hV_X12_node 0 9 rfl rfl rfl rfl (Nat.le_of_ble_eq_true rfl) dX12_level_108 ⟨Nat.le_of_ble_eq_true rfl, Nat.le_of_ble_eq_true rfl⟩ ⟨(by show 2 + 1 ≤ (20 * n + (26 - lv)); omega), (by show 8 + (7 + 11) + 60 ≤ (1000 * n + 40 * (26 - lv)); omega)⟩ (fun v149 u147 H locs hw148 hP hD hS => ?_)
                    obtain ⟨X150, rfl⟩ : ∃ z, z = u147 := ⟨_, rfl⟩
                    obtain ⟨hw148, h151⟩ := hw148
                    have h151 : NewN (updA (updA X2 19 yt90) 20 yr91) X150 nd2 22 x145 (nI at2) (nI r2) (nI r89) := h151
                    obtain rfl : v149 = some (.int (nI nd2)) := hw148
                    have hP : va_P G.1 pCl (mW G h0 a (upd (upd (upd (upd (upd (upd (upd F 15 (nI fa86)) 16 pl87) 27 (nI (nd2 + 1))) 31 (nI wr88)) 64 (nI at85)) 65 (nI ne)) 66 (nI (lk2 + 1))) (updA X150 2 K)) _ := mW_to (F := F) (l1 := [(15, (nI fa86)), (16, pl87), (27, (nI nd2)), (31, (nI wr88)), (64, (nI at85)), (65, (nI ne)), (66, (nI (lk2 + 1))), (27, (nI (nd2 + 1)))]) (l2 := [(15, (nI fa86)), (16, pl87), (27, (nI (nd2 + 1))), (31, (nI wr88)), (64, (nI at85)), (65, (nI ne)), (66, (nI (lk2 + 1)))]) (V := [(nI fa86), pl87, (nI (nd2 + 1)), (nI wr88), (nI at85), (nI ne), (nI (lk2 + 1)), (nI (nd2 + 1)), (nI fa86), pl87, (nI (nd2 + 1)), (nI wr88), (nI at85), (nI ne), (nI (lk2 + 1))]) rfl rfl rfl hP
                    have hD : va_D A (mW G h0 a (upd (upd (upd (upd (upd (upd (upd F 15 (nI fa86)) 16 pl87) 27 (nI (nd2 + 1))) 31 (nI wr88)) 64 (nI at85)) 65 (nI ne)) 66 (nI (lk2 + 1))) (updA X150 2 K)) := mW_D hD
                    refine W.widen (k := 0) (n := 0) (Nat.le_of_ble_eq_true rfl) (Nat.le_of_ble_eq_true rfl) ?_
                    refine W.eq (g2 := F0 m 111 ls [.int (nI nd2)]) rfl ?_
                    have hkp152 : Kp B X150 wr88 T := (Kp.new hkp106 h151)
                    refine lv_istore_n (lv' := [(2, .int (nI nd2)), (5, .int (nI r89)), (4, .int (nI at2)), (3, .int (K at2)), (1, .int (nI lv)), (0, .ref h0)]) hx hb dX12_level_111 rfl hl (by decide) rfl (fun ls hl => ?_)
                    refine lv_goto (tgt := 166) hx hb dX12_level_112 (by decide) ?_
                    refine lv_goto (tgt := 19) hx hb dX12_level_166 (by decide) ?_
                    refine lv_aload_n hx hb dX12_level_19 rfl (lv_at hl 5 rfl) ?_
                    refine r_get (v := .int (nI fa86)) hx hb hown hq hE hP 15 350 tFX12_15 (by decide) pw_1594 rfl dX12_level_20 ?_
                    refine lv_if_ne (tgt := 169) hx hb dX12_level_23 (by decide) (fun c153 => ?_) (fun c153 => (by have n154 : fa86 = 0 := (nI_eq (a := fa86) (b := 0) (by omega) (by omega)).mp c153; omega))
                    refine lv_iload_n hx hb dX12_level_169 rfl (lv_at hl 0 rfl) ?_
                    have hz155 : at0 ≤ at85 := (by omega)
                    have hz156 : at85 ≤ T := (by omega)
                    have hz157 : fa86 ≤ 100 := (by omega)
                    have hz158 : nd ≤ (nd2 + 1) := (by omega)
                    have hz159 : (nd2 + 1) + 2 * at0 ≤ nd + 2 * at85 + 100000 * fa86 := (by omega)
                    have hz160 : (nd2 + 1) + 2 * at0 ≤ nd + 2 * at85 + 40 * (21 - ne) := (by omega)
                    have hz161 : wr ≤ wr88 := (by omega)
                    have hz162 : wr88 + at0 ≤ wr + at85 := (by omega)
                    have hz163 : lk ≤ (lk2 + 1) := (by omega)
                    have hz164 : (lk2 + 1) ≤ 60 + 100 * fa86 := (by omega)
                    have hz165 : at0 + 1 ≤ at85 + fa86 := (by omega)
                    have hz166 : nd2 ≤ (nd2 + 1) := (by omega)
                    have hz167 : Kp B X150 wr88 T := hkp152
                    have hz168 : If (fa86 = 0) (Low B X150 nd wr ∧ Frs K T wr88 X150 nd (nd2 + 1) 20000 [(nd2, (210 + (lk2 + 1) - (10 * ne + lk)))] ∧ kcl 1 (X150 9 nd2) = true) := (fun e => absurd e (by omega))
                    have hP : va_P G.1 pCl (mW G h0 a (upd (upd (upd (upd (upd (upd (upd F 15 (nI fa86)) 16 pl87) 27 (nI (nd2 + 1))) 31 (nI wr88)) 64 (nI at85)) 65 (nI ne)) 66 (nI (lk2 + 1))) (updA X150 2 K)) _ := hP
                    have hD : va_D A (mW G h0 a (upd (upd (upd (upd (upd (upd (upd F 15 (nI fa86)) 16 pl87) 27 (nI (nd2 + 1))) 31 (nI wr88)) 64 (nI at85)) 65 (nI ne)) 66 (nI (lk2 + 1))) (updA X150 2 K)) := mW_D hD
                    exact W.iret (v := (nI nd2)) hx hb hr (fun t9 ht9 hW9 => ⟨⟨_, (at85, fa86, pl87, (nd2 + 1), (lk2 + 1), wr88, nd2, X150), rfl, ⟨rfl, hz155, hz156, hz157, hz158, hz159, hz160, hz161, hz162, hz163, hz164, hz165, hz166, hz167, hz168⟩, by rw [ht9]; exact hP, hD⟩, hS.F ht9⟩) hS.2.2 dX12_level_170
                  · refine lv_bipush (v := 21) hx hb dX12_level_90 (by decide) ?_
                    refine lv_goto (tgt := 97) hx hb dX12_level_92 (by decide) ?_
                    refine lv_aload_n hx hb dX12_level_97 rfl (lv_at hl 5 rfl) ?_
                    refine r_get (v := .ref (a 10)) hx hb hown hq hE hP 18 41 tFX12_18 (by decide) pw_1440 rfl dX12_level_98 ?_
                    refine lv_iload_n hx hb dX12_level_101 rfl (lv_at hl 3 rfl) ?_
                    refine r_ldi (f := ((updA (updA X2 19 yt90) 20 yr91) 10)) (j := r2) hx hb hE hP 10 (ma_10 G a _) rfl (by omega) (by decide) dX12_level_102 ?_
                    refine lv_topi (fun x169 e170 => ?_)
                    refine lv_iload hx hb dX12_level_103 (lv_at hl 1 rfl) ?_
                    refine lv_iload_n hx hb dX12_level_105 rfl (lv_at hl 3 rfl) ?_
                    refine lv_iload hx hb dX12_level_106 (lv_at hl 0 rfl) ?_
                    have hP : va_P G.1 pCl (mW G h0 a (upd (upd (upd (upd (upd (upd (upd (upd F 15 (nI fa86)) 16 pl87) 27 (nI nd2)) 31 (nI wr88)) 64 (nI at85)) 65 (nI ne)) 66 (nI (lk2 + 1))) 27 (nI nd2)) (updA (updA (updA X2 19 yt90) 20 yr91) 2 K)) _ := mW_to (F := F) (l1 := [(15, (nI fa86)), (16, pl87), (27, (nI nd2)), (31, (nI wr88)), (64, (nI at85)), (65, (nI ne)), (66, (nI (lk2 + 1)))]) (l2 := [(15, (nI fa86)), (16, pl87), (27, (nI nd2)), (31, (nI wr88)), (64, (nI at85)), (65, (nI ne)), (66, (nI (lk2 + 1))), (27, (nI nd2))]) (V := [(nI fa86), pl87, (nI nd2), (nI wr88), (nI at85), (nI ne), (nI (lk2 + 1)), (nI fa86), pl87, (nI nd2), (nI wr88), (nI at85), (nI ne), (nI (lk2 + 1)), (nI nd2)]) rfl rfl rfl hP
                    have hD : va_D A (mW G h0 a (upd (upd (upd (upd (upd (upd (upd (upd F 15 (nI fa86)) 16 pl87) 27 (nI nd2)) 31 (nI wr88)) 64 (nI at85)) 65 (nI ne)) 66 (nI (lk2 + 1))) 27 (nI nd2)) (updA (updA (updA X2 19 yt90) 20 yr91) 2 K)) := mW_D hD
                    refine pc_V0 (G := G) (As := [.int 21, .int x169, .int (nI at2), .int (nI r2), .int (nI r89)]) (rest := []) hx hb hml hown hq hE hX pX0_al hP hD hS hA hl.1 (R_nodeB l G h0 a (upd (upd (upd (upd (upd (upd (upd F 15 (nI fa86)) 16 pl87) 27 (nI nd2)) 31 (nI wr88)) 64 (nI at85)) 65 (nI ne)) 66 (nI (lk2 + 1))) (updA (updA X2 19 yt90) 20 yr91) 21 x169 (nI at2) (nI r2) (nI r89) nd2 K (by omega)) (gV pw_1650 pw_1651 pw_1652 pw_1523 pw_1589) hV_X12_node 0 9 rfl rfl rfl rfl (Nat.le_of_ble_eq_true rfl) dX12_level_108 ⟨Nat.le_of_ble_eq_true rfl, Nat.le_of_ble_eq_true rfl⟩ ⟨(by show 2 + 1 ≤ (20 * n + (26 - lv)); omega), (by show 8 + (7 + 11) + 60 ≤ (1000 * n + 40 * (26 - lv)); omega)⟩ (fun v173 u171 H locs hw172 hP hD hS => ?_)
                    obtain ⟨X174, rfl⟩ : ∃ z, z = u171 := ⟨_, rfl⟩
                    obtain ⟨hw172, h175⟩ := hw172
                    have h175 : NewN (updA (updA X2 19 yt90) 20 yr91) X174 nd2 21 x169 (nI at2) (nI r2) (nI r89) := h175
                    obtain rfl : v173 = some (.int (nI nd2)) := hw172
                    have hP : va_P G.1 pCl (mW G h0 a (upd (upd (upd (upd (upd (upd (upd F 15 (nI fa86)) 16 pl87) 27 (nI (nd2 + 1))) 31 (nI wr88)) 64 (nI at85)) 65 (nI ne)) 66 (nI (lk2 + 1))) (updA X174 2 K)) _ := mW_to (F := F) (l1 := [(15, (nI fa86)), (16, pl87), (27, (nI nd2)), (31, (nI wr88)), (64, (nI at85)), (65, (nI ne)), (66, (nI (lk2 + 1))), (27, (nI (nd2 + 1)))]) (l2 := [(15, (nI fa86)), (16, pl87), (27, (nI (nd2 + 1))), (31, (nI wr88)), (64, (nI at85)), (65, (nI ne)), (66, (nI (lk2 + 1)))]) (V := [(nI fa86), pl87, (nI (nd2 + 1)), (nI wr88), (nI at85), (nI ne), (nI (lk2 + 1)), (nI (nd2 + 1)), (nI fa86), pl87, (nI (nd2 + 1)), (nI wr88), (nI at85), (nI ne), (nI (lk2 + 1))]) rfl rfl rfl hP
                    have hD : va_D A (mW G h0 a (upd (upd (upd (upd (upd (upd (upd F 15 (nI fa86)) 16 pl87) 27 (nI (nd2 + 1))) 31 (nI wr88)) 64 (nI at85)) 65 (nI ne)) 66 (nI (lk2 + 1))) (updA X174 2 K)) := mW_D hD
                    refine W.widen (k := 0) (n := 0) (Nat.le_of_ble_eq_true rfl) (Nat.le_of_ble_eq_true rfl) ?_
                    refine W.eq (g2 := F0 m 111 ls [.int (nI nd2)]) rfl ?_
                    have hkp176 : Kp B X174 wr88 T := (Kp.new hkp106 h175)
                    refine lv_istore_n (lv' := [(2, .int (nI nd2)), (5, .int (nI r89)), (4, .int (nI at2)), (3, .int (K at2)), (1, .int (nI lv)), (0, .ref h0)]) hx hb dX12_level_111 rfl hl (by decide) rfl (fun ls hl => ?_)
                    refine lv_goto (tgt := 166) hx hb dX12_level_112 (by decide) ?_
                    refine lv_goto (tgt := 19) hx hb dX12_level_166 (by decide) ?_
                    refine lv_aload_n hx hb dX12_level_19 rfl (lv_at hl 5 rfl) ?_
                    refine r_get (v := .int (nI fa86)) hx hb hown hq hE hP 15 350 tFX12_15 (by decide) pw_1594 rfl dX12_level_20 ?_
                    refine lv_if_ne (tgt := 169) hx hb dX12_level_23 (by decide) (fun c177 => ?_) (fun c177 => (by have n178 : fa86 = 0 := (nI_eq (a := fa86) (b := 0) (by omega) (by omega)).mp c177; omega))
                    refine lv_iload_n hx hb dX12_level_169 rfl (lv_at hl 0 rfl) ?_
                    have hz179 : at0 ≤ at85 := (by omega)
                    have hz180 : at85 ≤ T := (by omega)
                    have hz181 : fa86 ≤ 100 := (by omega)
                    have hz182 : nd ≤ (nd2 + 1) := (by omega)
                    have hz183 : (nd2 + 1) + 2 * at0 ≤ nd + 2 * at85 + 100000 * fa86 := (by omega)
                    have hz184 : (nd2 + 1) + 2 * at0 ≤ nd + 2 * at85 + 40 * (21 - ne) := (by omega)
                    have hz185 : wr ≤ wr88 := (by omega)
                    have hz186 : wr88 + at0 ≤ wr + at85 := (by omega)
                    have hz187 : lk ≤ (lk2 + 1) := (by omega)
                    have hz188 : (lk2 + 1) ≤ 60 + 100 * fa86 := (by omega)
                    have hz189 : at0 + 1 ≤ at85 + fa86 := (by omega)
                    have hz190 : nd2 ≤ (nd2 + 1) := (by omega)
                    have hz191 : Kp B X174 wr88 T := hkp176
                    have hz192 : If (fa86 = 0) (Low B X174 nd wr ∧ Frs K T wr88 X174 nd (nd2 + 1) 20000 [(nd2, (210 + (lk2 + 1) - (10 * ne + lk)))] ∧ kcl 1 (X174 9 nd2) = true) := (fun e => absurd e (by omega))
                    have hP : va_P G.1 pCl (mW G h0 a (upd (upd (upd (upd (upd (upd (upd F 15 (nI fa86)) 16 pl87) 27 (nI (nd2 + 1))) 31 (nI wr88)) 64 (nI at85)) 65 (nI ne)) 66 (nI (lk2 + 1))) (updA X174 2 K)) _ := hP
                    have hD : va_D A (mW G h0 a (upd (upd (upd (upd (upd (upd (upd F 15 (nI fa86)) 16 pl87) 27 (nI (nd2 + 1))) 31 (nI wr88)) 64 (nI at85)) 65 (nI ne)) 66 (nI (lk2 + 1))) (updA X174 2 K)) := mW_D hD
                    exact W.iret (v := (nI nd2)) hx hb hr (fun t9 ht9 hW9 => ⟨⟨_, (at85, fa86, pl87, (nd2 + 1), (lk2 + 1), wr88, nd2, X174), rfl, ⟨rfl, hz179, hz180, hz181, hz182, hz183, hz184, hz185, hz186, hz187, hz188, hz189, hz190, hz191, hz192⟩, by rw [ht9]; exact hP, hD⟩, hS.F ht9⟩) hS.2.2 dX12_level_170
              · refine lv_iload_n hx hb dX12_level_69 rfl (lv_at hl 1 rfl) ?_
                refine lv_sipush (v := 310) hx hb dX12_level_70 (by decide) ?_
                refine lv_icmp_ne (tgt := 115) hx hb dX12_level_73 (by decide) (fun c193 => ?_) (fun c193 => ?_)
                · refine lv_aload_n hx hb dX12_level_115 rfl (lv_at hl 4 rfl) ?_
                  refine lv_iload_n hx hb dX12_level_116 rfl (lv_at hl 3 rfl) ?_
                  refine lv_iconst (v := 1) hx hb dX12_level_117 (by decide) ?_
                  refine lv_iadd hx hb dX12_level_118 ?_
                  refine lv_topi (fun x194 e195 => ?_)
                  obtain rfl : x194 = nI (lv + 1) := e195.trans (nI_add (lv) (1))
                  have hP : va_P G.1 pCl (mW G h0 a (upd (upd (upd (upd (upd (upd (upd (upd (upd (upd (upd (upd (upd F 15 0) 16 pl72) 27 (nI nd2)) 31 (nI wr2)) 64 (nI (at2 + 1))) 65 (nI ne)) 66 (nI (lk2 + 1))) 15 0) 27 (nI nd2)) 31 (nI wr2)) 64 (nI (at2 + 1))) 65 (nI ne)) 66 (nI (lk2 + 1))) (updA X2 2 K)) _ := mW_to (F := F) (l1 := [(15, 0), (16, pl72), (27, (nI nd2)), (31, (nI wr2)), (64, (nI at2)), (65, (nI ne)), (66, (nI (lk2 + 1))), (64, (nI (at2 + 1)))]) (l2 := [(15, 0), (16, pl72), (27, (nI nd2)), (31, (nI wr2)), (64, (nI (at2 + 1))), (65, (nI ne)), (66, (nI (lk2 + 1))), (15, 0), (27, (nI nd2)), (31, (nI wr2)), (64, (nI (at2 + 1))), (65, (nI ne)), (66, (nI (lk2 + 1)))]) (V := [0, pl72, (nI nd2), (nI wr2), (nI (at2 + 1)), (nI ne), (nI (lk2 + 1)), (nI (at2 + 1)), 0, pl72, (nI nd2), (nI wr2), (nI (at2 + 1)), (nI ne), (nI (lk2 + 1)), 0, (nI nd2), (nI wr2), (nI (at2 + 1)), (nI ne), (nI (lk2 + 1))]) rfl rfl rfl hP
                  have hD : va_D A (mW G h0 a (upd (upd (upd (upd (upd (upd (upd (upd (upd (upd (upd (upd (upd F 15 0) 16 pl72) 27 (nI nd2)) 31 (nI wr2)) 64 (nI (at2 + 1))) 65 (nI ne)) 66 (nI (lk2 + 1))) 15 0) 27 (nI nd2)) 31 (nI wr2)) 64 (nI (at2 + 1))) 65 (nI ne)) 66 (nI (lk2 + 1))) (updA X2 2 K)) := mW_D hD
                  refine pc_V0 (G := G) (As := [.int (nI (lv + 1))]) (rest := []) hx hb hml hown hq hE hX pX0_al hP hD hS hA hl.1 ((hL (by omega)) h0 a (upd (upd (upd (upd (upd (upd (upd F 15 0) 16 pl72) 27 (nI nd2)) 31 (nI wr2)) 64 (nI (at2 + 1))) 65 (nI ne)) 66 (nI (lk2 + 1))) X2 (at2 + 1) T ne nd2 wr2 (lk2 + 1) K (by omega) (by omega) hK (by omega) (by omega) (by omega) (by omega) (hkp2).2 (by omega) (by omega)) (gV pw_1657 pw_1658 pw_1659 pw_1523 pw_1667) hV_X12_level 0 9 rfl rfl rfl rfl (Nat.le_of_ble_eq_true rfl) dX12_level_119 ⟨Nat.le_of_ble_eq_true rfl, Nat.le_of_ble_eq_true rfl⟩ ⟨(by show (20 * n + (26 - (lv + 1))) + 1 ≤ (20 * n + (26 - lv)); omega), (by show 8 + (6 + 11) + (1000 * n + 40 * (26 - (lv + 1))) ≤ (1000 * n + 40 * (26 - lv)); omega)⟩ (fun v198 u196 H locs hw197 hP hD hS => ?_)
                  obtain ⟨at199, fa200, pl201, nd202, lk203, wr204, r205, X206⟩ := u196
                  obtain ⟨hw197, h207, h208, h209, h210, h211, h212, h213, h214, h215, h216, h217, h218, h219, h220⟩ := hw197
                  have h207 : (at2 + 1) ≤ at199 := h207
                  have h208 : at199 ≤ T := h208
                  have h209 : fa200 ≤ 100 := h209
                  have h210 : nd2 ≤ nd202 := h210
                  have h211 : nd202 + 2 * (at2 + 1) ≤ nd2 + 2 * at199 + 100000 * fa200 := h211
                  have h212 : nd202 + 2 * (at2 + 1) ≤ nd2 + 2 * at199 + 40 * (21 - ne) := h212
                  have h213 : wr2 ≤ wr204 := h213
                  have h214 : wr204 + (at2 + 1) ≤ wr2 + at199 := h214
                  have h215 : (lk2 + 1) ≤ lk203 := h215
                  have h216 : lk203 ≤ 60 + 100 * fa200 := h216
                  have h217 : (at2 + 1) + 1 ≤ at199 + fa200 := h217
                  have h218 : r205 ≤ nd202 := h218
                  have h219 : Kp X2 X206 wr204 T := h219
                  have h220 : If (fa200 = 0) (Low X2 X206 nd2 wr2 ∧ Frs K T wr204 X206 nd2 nd202 20000 [(r205, (210 + lk203 - (10 * ne + (lk2 + 1))))] ∧ kcl 1 (X206 9 r205) = true) := h220
                  obtain rfl : v198 = some (.int (nI r205)) := hw197
                  have hP : va_P G.1 pCl (mW G h0 a (upd (upd (upd (upd (upd (upd (upd F 15 (nI fa200)) 16 pl201) 27 (nI nd202)) 31 (nI wr204)) 64 (nI at199)) 65 (nI ne)) 66 (nI lk203)) (updA X206 2 K)) _ := mW_to (F := F) (l1 := [(15, 0), (16, pl72), (27, (nI nd2)), (31, (nI wr2)), (64, (nI (at2 + 1))), (65, (nI ne)), (66, (nI (lk2 + 1))), (15, (nI fa200)), (16, pl201), (27, (nI nd202)), (31, (nI wr204)), (64, (nI at199)), (65, (nI ne)), (66, (nI lk203))]) (l2 := [(15, (nI fa200)), (16, pl201), (27, (nI nd202)), (31, (nI wr204)), (64, (nI at199)), (65, (nI ne)), (66, (nI lk203))]) (V := [(nI fa200), pl201, (nI nd202), (nI wr204), (nI at199), (nI ne), (nI lk203), (nI fa200), pl201, (nI nd202), (nI wr204), (nI at199), (nI ne), (nI lk203), (nI fa200), pl201, (nI nd202), (nI wr204), (nI at199), (nI ne), (nI lk203)]) rfl rfl rfl hP
                  have hD : va_D A (mW G h0 a (upd (upd (upd (upd (upd (upd (upd F 15 (nI fa200)) 16 pl201) 27 (nI nd202)) 31 (nI wr204)) 64 (nI at199)) 65 (nI ne)) 66 (nI lk203)) (updA X206 2 K)) := mW_D hD
                  refine W.widen (k := 0) (n := 0) (Nat.le_of_ble_eq_true rfl) (Nat.le_of_ble_eq_true rfl) ?_
                  refine W.eq (g2 := F0 m 122 ls [.int (nI r205)]) rfl ?_
                  have hkp221 : Kp B X206 wr204 T := (Kp.trans hkp2 h219)
                  rcases Nat.eq_zero_or_pos fa200 with e222 | e222
                  · subst e222
                    have hP : va_P G.1 pCl (mW G h0 a (upd (upd (upd (upd (upd (upd (upd F 15 0) 16 pl201) 27 (nI nd202)) 31 (nI wr204)) 64 (nI at199)) 65 (nI ne)) 66 (nI lk203)) (updA X206 2 K)) _ := hP
                    have hD : va_D A (mW G h0 a (upd (upd (upd (upd (upd (upd (upd F 15 0) 16 pl201) 27 (nI nd202)) 31 (nI wr204)) 64 (nI at199)) 65 (nI ne)) 66 (nI lk203)) (updA X206 2 K)) := mW_D hD
                    obtain ⟨hlw223, hf224, hc225⟩ := h220 rfl
                    have hlo226 : Low B X206 nd wr := (Low.trans hlo2 hlw223 (by omega) (by omega))
                    have hf227 : Frs K T wr204 X206 nd nd2 20000 [(r2, (210 + lk2 - (10 * ne + lk)))] := (Frs.same hf2 (by omega) (fun j i q1 q2 q3 q4 => (hlw223.1 j i q1 (by omega) (by omega))))
                    have hc228 : kcl 1 (X206 9 r2) = true := by rw [hlw223.1 9 r2 (by omega) (by omega) (by omega)]; exact hc2
                    have hm229 := Frs.mem hf224
                    refine lv_istore (lv' := [(5, .int (nI r205)), (4, .int (nI at2)), (3, .int (K at2)), (2, .int (nI r2)), (1, .int (nI lv)), (0, .ref h0)]) hx hb dX12_level_122 hl (by decide) rfl (fun ls hl => ?_)
                    refine lv_aload_n hx hb dX12_level_124 rfl (lv_at hl 5 rfl) ?_
                    refine lv_iload_n hx hb dX12_level_125 rfl (lv_at hl 2 rfl) ?_
                    refine lv_sipush (v := 261) hx hb dX12_level_126 (by decide) ?_
                    refine lv_icmp_ne (tgt := 137) hx hb dX12_level_129 (by decide) (fun c230 => ?_) (fun c230 => ?_)
                    · refine lv_iload_n hx hb dX12_level_137 rfl (lv_at hl 2 rfl) ?_
                      refine lv_sipush (v := 260) hx hb dX12_level_138 (by decide) ?_
                      refine lv_icmp_ne (tgt := 149) hx hb dX12_level_141 (by decide) (fun c231 => ?_) (fun c231 => ?_)
                      · refine lv_bipush (v := 18) hx hb dX12_level_149 (by decide) ?_
                        refine lv_aload_n hx hb dX12_level_151 rfl (lv_at hl 5 rfl) ?_
                        refine r_get (v := .ref (a 10)) hx hb hown hq hE hP 18 41 tFX12_18 (by decide) pw_1440 rfl dX12_level_152 ?_
                        refine lv_iload_n hx hb dX12_level_155 rfl (lv_at hl 3 rfl) ?_
                        refine r_ldi (f := (X206 10)) (j := r2) hx hb hE hP 10 (ma_10 G a _) rfl (by omega) (by decide) dX12_level_156 ?_
                        obtain ⟨t232, h233, e234⟩ := Frs.first (n := r2) hf227 (by omega) (by omega)
                        refine lv_topi (fun x235 e236 => ?_)
                        obtain rfl : x235 = nI t232 := e236.trans e234
                        refine lv_iload hx hb dX12_level_157 (lv_at hl 1 rfl) ?_
                        refine lv_iload_n hx hb dX12_level_159 rfl (lv_at hl 3 rfl) ?_
                        refine lv_iload hx hb dX12_level_160 (lv_at hl 0 rfl) ?_
                        have hP : va_P G.1 pCl (mW G h0 a (upd (upd (upd (upd (upd (upd (upd (upd F 15 0) 16 pl201) 27 (nI nd202)) 31 (nI wr204)) 64 (nI at199)) 65 (nI ne)) 66 (nI lk203)) 27 (nI nd202)) (updA X206 2 K)) _ := mW_to (F := F) (l1 := [(15, 0), (16, pl201), (27, (nI nd202)), (31, (nI wr204)), (64, (nI at199)), (65, (nI ne)), (66, (nI lk203))]) (l2 := [(15, 0), (16, pl201), (27, (nI nd202)), (31, (nI wr204)), (64, (nI at199)), (65, (nI ne)), (66, (nI lk203)), (27, (nI nd202))]) (V := [0, pl201, (nI nd202), (nI wr204), (nI at199), (nI ne), (nI lk203), 0, pl201, (nI nd202), (nI wr204), (nI at199), (nI ne), (nI lk203), (nI nd202)]) rfl rfl rfl hP
                        have hD : va_D A (mW G h0 a (upd (upd (upd (upd (upd (upd (upd (upd F 15 0) 16 pl201) 27 (nI nd202)) 31 (nI wr204)) 64 (nI at199)) 65 (nI ne)) 66 (nI lk203)) 27 (nI nd202)) (updA X206 2 K)) := mW_D hD
                        refine pc_V0 (G := G) (As := [.int 18, .int (nI t232), .int (nI at2), .int (nI r2), .int (nI r205)]) (rest := []) hx hb hml hown hq hE hX pX0_al hP hD hS hA hl.1 (R_nodeB l G h0 a (upd (upd (upd (upd (upd (upd (upd F 15 0) 16 pl201) 27 (nI nd202)) 31 (nI wr204)) 64 (nI at199)) 65 (nI ne)) 66 (nI lk203)) X206 18 (nI t232) (nI at2) (nI r2) (nI r205) nd202 K (by omega)) (gV pw_1650 pw_1651 pw_1652 pw_1523 pw_1589) hV_X12_node 0 9 rfl rfl rfl rfl (Nat.le_of_ble_eq_true rfl) dX12_level_162 ⟨Nat.le_of_ble_eq_true rfl, Nat.le_of_ble_eq_true rfl⟩ ⟨(by show 2 + 1 ≤ (20 * n + (26 - lv)); omega), (by show 8 + (7 + 11) + 60 ≤ (1000 * n + 40 * (26 - lv)); omega)⟩ (fun v239 u237 H locs hw238 hP hD hS => ?_)
                        obtain ⟨X240, rfl⟩ : ∃ z, z = u237 := ⟨_, rfl⟩
                        obtain ⟨hw238, h241⟩ := hw238
                        have h241 : NewN X206 X240 nd202 18 (nI t232) (nI at2) (nI r2) (nI r205) := h241
                        obtain rfl : v239 = some (.int (nI nd202)) := hw238
                        have hP : va_P G.1 pCl (mW G h0 a (upd (upd (upd (upd (upd (upd (upd F 15 0) 16 pl201) 27 (nI (nd202 + 1))) 31 (nI wr204)) 64 (nI at199)) 65 (nI ne)) 66 (nI lk203)) (updA X240 2 K)) _ := mW_to (F := F) (l1 := [(15, 0), (16, pl201), (27, (nI nd202)), (31, (nI wr204)), (64, (nI at199)), (65, (nI ne)), (66, (nI lk203)), (27, (nI (nd202 + 1)))]) (l2 := [(15, 0), (16, pl201), (27, (nI (nd202 + 1))), (31, (nI wr204)), (64, (nI at199)), (65, (nI ne)), (66, (nI lk203))]) (V := [0, pl201, (nI (nd202 + 1)), (nI wr204), (nI at199), (nI ne), (nI lk203), (nI (nd202 + 1)), 0, pl201, (nI (nd202 + 1)), (nI wr204), (nI at199), (nI ne), (nI lk203)]) rfl rfl rfl hP
                        have hD : va_D A (mW G h0 a (upd (upd (upd (upd (upd (upd (upd F 15 0) 16 pl201) 27 (nI (nd202 + 1))) 31 (nI wr204)) 64 (nI at199)) 65 (nI ne)) 66 (nI lk203)) (updA X240 2 K)) := mW_D hD
                        refine W.widen (k := 0) (n := 0) (Nat.le_of_ble_eq_true rfl) (Nat.le_of_ble_eq_true rfl) ?_
                        refine W.eq (g2 := F0 m 165 ls [.int (nI nd202)]) rfl ?_
                        have hkp242 : Kp B X240 wr204 T := (Kp.new hkp221 h241)
                        have hlo243 : Low B X240 nd wr := (Low.new hlo226 h241 (by omega))
                        have hf244 : Frs K T wr204 X206 nd nd202 20000 [(r2, (210 + lk2 - (10 * ne + lk))), (r205, (210 + lk203 - (10 * ne + (lk2 + 1))))] := (Frs.join hf227 hf224 (by omega) (by omega) (by omega))
                        have hc245 : kcl 1 (X240 9 r2) = true := by rw [h241.2.1 9 r2 (by omega)]; exact hc228
                        have hc246 : kcl 1 (X240 9 r205) = true := by rw [h241.2.1 9 r205 (by omega)]; exact hc225
                        have hf247 : Frs K T wr204 X240 nd (nd202 + 1) nd202 [(nd202, (210 + lk203 - (10 * ne + lk)))] := (Frs.new2 (k := 18) hf244 (by omega) (by omega) (by omega) h241 rfl rfl (by omega) rfl (by decide) (by decide) (by omega) (by omega) (fun _ => stOK.two hs63 c230 c231 c81 c193) (by simp) ⟨by decide, by decide, by decide, by decide⟩ ⟨by decide, by decide, by decide, by decide⟩ hc228 hc225 (newOK.m1 (by decide)) (newOK.m1 (by decide)) (by omega) (by omega))
                        have hn248 : Nd X240 nd202 18 (nI r2) (nI r205) (-1) (-1) := (NewN.toNd h241)
                        have hf249 : Frs K T wr204 X240 nd (nd202 + 1) 20000 [(nd202, (210 + lk203 - (10 * ne + lk)))] := (Frs.fin (k := 18) hf247 hn248 rfl (by decide) (fun _ => nI_m1 (by omega)) (fun _ => nI_m1 (by omega)) (fun h => absurd h (by decide)) (fun h => absurd h (by decide)))
                        refine lv_istore_n (lv' := [(2, .int (nI nd202)), (5, .int (nI r205)), (4, .int (nI at2)), (3, .int (K at2)), (1, .int (nI lv)), (0, .ref h0)]) hx hb dX12_level_165 rfl hl (by decide) rfl (fun ls hl => ?_)
                        refine lv_goto (tgt := 19) hx hb dX12_level_166 (by decide) ?_
                        have hP : va_P G.1 pCl (mW G h0 a (upd (upd (upd (upd (upd (upd (upd F 15 0) 16 pl201) 27 (nI (nd202 + 1))) 31 (nI wr204)) 64 (nI at199)) 65 (nI ne)) 66 (nI lk203)) (updA X240 2 K)) _ := hP
                        have hD : va_D A (mW G h0 a (upd (upd (upd (upd (upd (upd (upd F 15 0) 16 pl201) 27 (nI (nd202 + 1))) 31 (nI wr204)) 64 (nI at199)) 65 (nI ne)) 66 (nI lk203)) (updA X240 2 K)) := mW_D hD
                        exact ih_o at199 (nd202 + 1) wr204 lk203 pl201 X240 nd202 _ _ _ (by omega) (by omega) (by omega) (by omega) (by omega) (by omega) (by omega) (by omega) (by omega) (by omega) hkp242 hlo243 (by omega) (Frs.up hf249 (by omega)) (by rw [hn248.1]; decide) hP hD hS (lv_sub hl [0, 4, 5] rfl)
                      · refine lv_bipush (v := 19) hx hb dX12_level_144 (by decide) ?_
                        refine lv_goto (tgt := 151) hx hb dX12_level_146 (by decide) ?_
                        refine lv_aload_n hx hb dX12_level_151 rfl (lv_at hl 5 rfl) ?_
                        refine r_get (v := .ref (a 10)) hx hb hown hq hE hP 18 41 tFX12_18 (by decide) pw_1440 rfl dX12_level_152 ?_
                        refine lv_iload_n hx hb dX12_level_155 rfl (lv_at hl 3 rfl) ?_
                        refine r_ldi (f := (X206 10)) (j := r2) hx hb hE hP 10 (ma_10 G a _) rfl (by omega) (by decide) dX12_level_156 ?_
                        obtain ⟨t250, h251, e252⟩ := Frs.first (n := r2) hf227 (by omega) (by omega)
                        refine lv_topi (fun x253 e254 => ?_)
                        obtain rfl : x253 = nI t250 := e254.trans e252
                        refine lv_iload hx hb dX12_level_157 (lv_at hl 1 rfl) ?_
                        refine lv_iload_n hx hb dX12_level_159 rfl (lv_at hl 3 rfl) ?_
                        refine lv_iload hx hb dX12_level_160 (lv_at hl 0 rfl) ?_
                        have hP : va_P G.1 pCl (mW G h0 a (upd (upd (upd (upd (upd (upd (upd (upd F 15 0) 16 pl201) 27 (nI nd202)) 31 (nI wr204)) 64 (nI at199)) 65 (nI ne)) 66 (nI lk203)) 27 (nI nd202)) (updA X206 2 K)) _ := mW_to (F := F) (l1 := [(15, 0), (16, pl201), (27, (nI nd202)), (31, (nI wr204)), (64, (nI at199)), (65, (nI ne)), (66, (nI lk203))]) (l2 := [(15, 0), (16, pl201), (27, (nI nd202)), (31, (nI wr204)), (64, (nI at199)), (65, (nI ne)), (66, (nI lk203)), (27, (nI nd202))]) (V := [0, pl201, (nI nd202), (nI wr204), (nI at199), (nI ne), (nI lk203), 0, pl201, (nI nd202), (nI wr204), (nI at199), (nI ne), (nI lk203), (nI nd202)]) rfl rfl rfl hP
                        have hD : va_D A (mW G h0 a (upd (upd (upd (upd (upd (upd (upd (upd F 15 0) 16 pl201) 27 (nI nd202)) 31 (nI wr204)) 64 (nI at199)) 65 (nI ne)) 66 (nI lk203)) 27 (nI nd202)) (updA X206 2 K)) := mW_D hD
                        refine pc_V0 (G := G) (As := [.int 19, .int (nI t250), .int (nI at2), .int (nI r2), .int (nI r205)]) (rest := []) hx hb hml hown hq hE hX pX0_al hP hD hS hA hl.1 (R_nodeB l G h0 a (upd (upd (upd (upd (upd (upd (upd F 15 0) 16 pl201) 27 (nI nd202)) 31 (nI wr204)) 64 (nI at199)) 65 (nI ne)) 66 (nI lk203)) X206 19 (nI t250) (nI at2) (nI r2) (nI r205) nd202 K (by omega)) (gV pw_1650 pw_1651 pw_1652 pw_1523 pw_1589) hV_X12_node 0 9 rfl rfl rfl rfl (Nat.le_of_ble_eq_true rfl) dX12_level_162 ⟨Nat.le_of_ble_eq_true rfl, Nat.le_of_ble_eq_true rfl⟩ ⟨(by show 2 + 1 ≤ (20 * n + (26 - lv)); omega), (by show 8 + (7 + 11) + 60 ≤ (1000 * n + 40 * (26 - lv)); omega)⟩ (fun v257 u255 H locs hw256 hP hD hS => ?_)
                        obtain ⟨X258, rfl⟩ : ∃ z, z = u255 := ⟨_, rfl⟩
                        obtain ⟨hw256, h259⟩ := hw256
                        have h259 : NewN X206 X258 nd202 19 (nI t250) (nI at2) (nI r2) (nI r205) := h259
                        obtain rfl : v257 = some (.int (nI nd202)) := hw256
                        have hP : va_P G.1 pCl (mW G h0 a (upd (upd (upd (upd (upd (upd (upd F 15 0) 16 pl201) 27 (nI (nd202 + 1))) 31 (nI wr204)) 64 (nI at199)) 65 (nI ne)) 66 (nI lk203)) (updA X258 2 K)) _ := mW_to (F := F) (l1 := [(15, 0), (16, pl201), (27, (nI nd202)), (31, (nI wr204)), (64, (nI at199)), (65, (nI ne)), (66, (nI lk203)), (27, (nI (nd202 + 1)))]) (l2 := [(15, 0), (16, pl201), (27, (nI (nd202 + 1))), (31, (nI wr204)), (64, (nI at199)), (65, (nI ne)), (66, (nI lk203))]) (V := [0, pl201, (nI (nd202 + 1)), (nI wr204), (nI at199), (nI ne), (nI lk203), (nI (nd202 + 1)), 0, pl201, (nI (nd202 + 1)), (nI wr204), (nI at199), (nI ne), (nI lk203)]) rfl rfl rfl hP
                        have hD : va_D A (mW G h0 a (upd (upd (upd (upd (upd (upd (upd F 15 0) 16 pl201) 27 (nI (nd202 + 1))) 31 (nI wr204)) 64 (nI at199)) 65 (nI ne)) 66 (nI lk203)) (updA X258 2 K)) := mW_D hD
                        refine W.widen (k := 0) (n := 0) (Nat.le_of_ble_eq_true rfl) (Nat.le_of_ble_eq_true rfl) ?_
                        refine W.eq (g2 := F0 m 165 ls [.int (nI nd202)]) rfl ?_
                        have hkp260 : Kp B X258 wr204 T := (Kp.new hkp221 h259)
                        have hlo261 : Low B X258 nd wr := (Low.new hlo226 h259 (by omega))
                        have hf262 : Frs K T wr204 X206 nd nd202 20000 [(r2, (210 + lk2 - (10 * ne + lk))), (r205, (210 + lk203 - (10 * ne + (lk2 + 1))))] := (Frs.join hf227 hf224 (by omega) (by omega) (by omega))
                        have hc263 : kcl 1 (X258 9 r2) = true := by rw [h259.2.1 9 r2 (by omega)]; exact hc228
                        have hc264 : kcl 1 (X258 9 r205) = true := by rw [h259.2.1 9 r205 (by omega)]; exact hc225
                        have hf265 : Frs K T wr204 X258 nd (nd202 + 1) nd202 [(nd202, (210 + lk203 - (10 * ne + lk)))] := (Frs.new2 (k := 19) hf262 (by omega) (by omega) (by omega) h259 rfl rfl (by omega) rfl (by decide) (by decide) (by omega) (by omega) (fun e => absurd e (by decide)) (by simp) ⟨by decide, by decide, by decide, by decide⟩ ⟨by decide, by decide, by decide, by decide⟩ hc228 hc225 (newOK.m1 (by decide)) (newOK.m1 (by decide)) (by omega) (by omega))
                        have hn266 : Nd X258 nd202 19 (nI r2) (nI r205) (-1) (-1) := (NewN.toNd h259)
                        have hf267 : Frs K T wr204 X258 nd (nd202 + 1) 20000 [(nd202, (210 + lk203 - (10 * ne + lk)))] := (Frs.fin (k := 19) hf265 hn266 rfl (by decide) (fun _ => nI_m1 (by omega)) (fun _ => nI_m1 (by omega)) (fun h => absurd h (by decide)) (fun h => absurd h (by decide)))
                        refine lv_istore_n (lv' := [(2, .int (nI nd202)), (5, .int (nI r205)), (4, .int (nI at2)), (3, .int (K at2)), (1, .int (nI lv)), (0, .ref h0)]) hx hb dX12_level_165 rfl hl (by decide) rfl (fun ls hl => ?_)
                        refine lv_goto (tgt := 19) hx hb dX12_level_166 (by decide) ?_
                        have hP : va_P G.1 pCl (mW G h0 a (upd (upd (upd (upd (upd (upd (upd F 15 0) 16 pl201) 27 (nI (nd202 + 1))) 31 (nI wr204)) 64 (nI at199)) 65 (nI ne)) 66 (nI lk203)) (updA X258 2 K)) _ := hP
                        have hD : va_D A (mW G h0 a (upd (upd (upd (upd (upd (upd (upd F 15 0) 16 pl201) 27 (nI (nd202 + 1))) 31 (nI wr204)) 64 (nI at199)) 65 (nI ne)) 66 (nI lk203)) (updA X258 2 K)) := mW_D hD
                        exact ih_o at199 (nd202 + 1) wr204 lk203 pl201 X258 nd202 _ _ _ (by omega) (by omega) (by omega) (by omega) (by omega) (by omega) (by omega) (by omega) (by omega) (by omega) hkp260 hlo261 (by omega) (Frs.up hf267 (by omega)) (by rw [hn266.1]; decide) hP hD hS (lv_sub hl [0, 4, 5] rfl)
                    · refine lv_bipush (v := 20) hx hb dX12_level_132 (by decide) ?_
                      refine lv_goto (tgt := 151) hx hb dX12_level_134 (by decide) ?_
                      refine lv_aload_n hx hb dX12_level_151 rfl (lv_at hl 5 rfl) ?_
                      refine r_get (v := .ref (a 10)) hx hb hown hq hE hP 18 41 tFX12_18 (by decide) pw_1440 rfl dX12_level_152 ?_
                      refine lv_iload_n hx hb dX12_level_155 rfl (lv_at hl 3 rfl) ?_
                      refine r_ldi (f := (X206 10)) (j := r2) hx hb hE hP 10 (ma_10 G a _) rfl (by omega) (by decide) dX12_level_156 ?_
                      obtain ⟨t268, h269, e270⟩ := Frs.first (n := r2) hf227 (by omega) (by omega)
                      refine lv_topi (fun x271 e272 => ?_)
                      obtain rfl : x271 = nI t268 := e272.trans e270
                      refine lv_iload hx hb dX12_level_157 (lv_at hl 1 rfl) ?_
                      refine lv_iload_n hx hb dX12_level_159 rfl (lv_at hl 3 rfl) ?_
                      refine lv_iload hx hb dX12_level_160 (lv_at hl 0 rfl) ?_
                      have hP : va_P G.1 pCl (mW G h0 a (upd (upd (upd (upd (upd (upd (upd (upd F 15 0) 16 pl201) 27 (nI nd202)) 31 (nI wr204)) 64 (nI at199)) 65 (nI ne)) 66 (nI lk203)) 27 (nI nd202)) (updA X206 2 K)) _ := mW_to (F := F) (l1 := [(15, 0), (16, pl201), (27, (nI nd202)), (31, (nI wr204)), (64, (nI at199)), (65, (nI ne)), (66, (nI lk203))]) (l2 := [(15, 0), (16, pl201), (27, (nI nd202)), (31, (nI wr204)), (64, (nI at199)), (65, (nI ne)), (66, (nI lk203)), (27, (nI nd202))]) (V := [0, pl201, (nI nd202), (nI wr204), (nI at199), (nI ne), (nI lk203), 0, pl201, (nI nd202), (nI wr204), (nI at199), (nI ne), (nI lk203), (nI nd202)]) rfl rfl rfl hP
                      have hD : va_D A (mW G h0 a (upd (upd (upd (upd (upd (upd (upd (upd F 15 0) 16 pl201) 27 (nI nd202)) 31 (nI wr204)) 64 (nI at199)) 65 (nI ne)) 66 (nI lk203)) 27 (nI nd202)) (updA X206 2 K)) := mW_D hD
                      refine pc_V0 (G := G) (As := [.int 20, .int (nI t268), .int (nI at2), .int (nI r2), .int (nI r205)]) (rest := []) hx hb hml hown hq hE hX pX0_al hP hD hS hA hl.1 (R_nodeB l G h0 a (upd (upd (upd (upd (upd (upd (upd F 15 0) 16 pl201) 27 (nI nd202)) 31 (nI wr204)) 64 (nI at199)) 65 (nI ne)) 66 (nI lk203)) X206 20 (nI t268) (nI at2) (nI r2) (nI r205) nd202 K (by omega)) (gV pw_1650 pw_1651 pw_1652 pw_1523 pw_1589) hV_X12_node 0 9 rfl rfl rfl rfl (Nat.le_of_ble_eq_true rfl) dX12_level_162 ⟨Nat.le_of_ble_eq_true rfl, Nat.le_of_ble_eq_true rfl⟩ ⟨(by show 2 + 1 ≤ (20 * n + (26 - lv)); omega), (by show 8 + (7 + 11) + 60 ≤ (1000 * n + 40 * (26 - lv)); omega)⟩ (fun v275 u273 H locs hw274 hP hD hS => ?_)
                      obtain ⟨X276, rfl⟩ : ∃ z, z = u273 := ⟨_, rfl⟩
                      obtain ⟨hw274, h277⟩ := hw274
                      have h277 : NewN X206 X276 nd202 20 (nI t268) (nI at2) (nI r2) (nI r205) := h277
                      obtain rfl : v275 = some (.int (nI nd202)) := hw274
                      have hP : va_P G.1 pCl (mW G h0 a (upd (upd (upd (upd (upd (upd (upd F 15 0) 16 pl201) 27 (nI (nd202 + 1))) 31 (nI wr204)) 64 (nI at199)) 65 (nI ne)) 66 (nI lk203)) (updA X276 2 K)) _ := mW_to (F := F) (l1 := [(15, 0), (16, pl201), (27, (nI nd202)), (31, (nI wr204)), (64, (nI at199)), (65, (nI ne)), (66, (nI lk203)), (27, (nI (nd202 + 1)))]) (l2 := [(15, 0), (16, pl201), (27, (nI (nd202 + 1))), (31, (nI wr204)), (64, (nI at199)), (65, (nI ne)), (66, (nI lk203))]) (V := [0, pl201, (nI (nd202 + 1)), (nI wr204), (nI at199), (nI ne), (nI lk203), (nI (nd202 + 1)), 0, pl201, (nI (nd202 + 1)), (nI wr204), (nI at199), (nI ne), (nI lk203)]) rfl rfl rfl hP
                      have hD : va_D A (mW G h0 a (upd (upd (upd (upd (upd (upd (upd F 15 0) 16 pl201) 27 (nI (nd202 + 1))) 31 (nI wr204)) 64 (nI at199)) 65 (nI ne)) 66 (nI lk203)) (updA X276 2 K)) := mW_D hD
                      refine W.widen (k := 0) (n := 0) (Nat.le_of_ble_eq_true rfl) (Nat.le_of_ble_eq_true rfl) ?_
                      refine W.eq (g2 := F0 m 165 ls [.int (nI nd202)]) rfl ?_
                      have hkp278 : Kp B X276 wr204 T := (Kp.new hkp221 h277)
                      have hlo279 : Low B X276 nd wr := (Low.new hlo226 h277 (by omega))
                      have hf280 : Frs K T wr204 X206 nd nd202 20000 [(r2, (210 + lk2 - (10 * ne + lk))), (r205, (210 + lk203 - (10 * ne + (lk2 + 1))))] := (Frs.join hf227 hf224 (by omega) (by omega) (by omega))
                      have hc281 : kcl 1 (X276 9 r2) = true := by rw [h277.2.1 9 r2 (by omega)]; exact hc228
                      have hc282 : kcl 1 (X276 9 r205) = true := by rw [h277.2.1 9 r205 (by omega)]; exact hc225
                      have hf283 : Frs K T wr204 X276 nd (nd202 + 1) nd202 [(nd202, (210 + lk203 - (10 * ne + lk)))] := (Frs.new2 (k := 20) hf280 (by omega) (by omega) (by omega) h277 rfl rfl (by omega) rfl (by decide) (by decide) (by omega) (by omega) (fun e => absurd e (by decide)) (by simp) ⟨by decide, by decide, by decide, by decide⟩ ⟨by decide, by decide, by decide, by decide⟩ hc228 hc225 (newOK.m1 (by decide)) (newOK.m1 (by decide)) (by omega) (by omega))
                      have hn284 : Nd X276 nd202 20 (nI r2) (nI r205) (-1) (-1) := (NewN.toNd h277)
                      have hf285 : Frs K T wr204 X276 nd (nd202 + 1) 20000 [(nd202, (210 + lk203 - (10 * ne + lk)))] := (Frs.fin (k := 20) hf283 hn284 rfl (by decide) (fun _ => nI_m1 (by omega)) (fun _ => nI_m1 (by omega)) (fun h => absurd h (by decide)) (fun h => absurd h (by decide)))
                      refine lv_istore_n (lv' := [(2, .int (nI nd202)), (5, .int (nI r205)), (4, .int (nI at2)), (3, .int (K at2)), (1, .int (nI lv)), (0, .ref h0)]) hx hb dX12_level_165 rfl hl (by decide) rfl (fun ls hl => ?_)
                      refine lv_goto (tgt := 19) hx hb dX12_level_166 (by decide) ?_
                      have hP : va_P G.1 pCl (mW G h0 a (upd (upd (upd (upd (upd (upd (upd F 15 0) 16 pl201) 27 (nI (nd202 + 1))) 31 (nI wr204)) 64 (nI at199)) 65 (nI ne)) 66 (nI lk203)) (updA X276 2 K)) _ := hP
                      have hD : va_D A (mW G h0 a (upd (upd (upd (upd (upd (upd (upd F 15 0) 16 pl201) 27 (nI (nd202 + 1))) 31 (nI wr204)) 64 (nI at199)) 65 (nI ne)) 66 (nI lk203)) (updA X276 2 K)) := mW_D hD
                      exact ih_o at199 (nd202 + 1) wr204 lk203 pl201 X276 nd202 _ _ _ (by omega) (by omega) (by omega) (by omega) (by omega) (by omega) (by omega) (by omega) (by omega) (by omega) hkp278 hlo279 (by omega) (Frs.up hf285 (by omega)) (by rw [hn284.1]; decide) hP hD hS (lv_sub hl [0, 4, 5] rfl)
                  · have e222 := e222
                    refine lv_istore (lv' := [(5, .int (nI r205)), (4, .int (nI at2)), (3, .int (K at2)), (2, .int (nI r2)), (1, .int (nI lv)), (0, .ref h0)]) hx hb dX12_level_122 hl (by decide) rfl (fun ls hl => ?_)
                    refine lv_aload_n hx hb dX12_level_124 rfl (lv_at hl 5 rfl) ?_
                    refine lv_iload_n hx hb dX12_level_125 rfl (lv_at hl 2 rfl) ?_
                    refine lv_sipush (v := 261) hx hb dX12_level_126 (by decide) ?_
                    refine lv_icmp_ne (tgt := 137) hx hb dX12_level_129 (by decide) (fun c286 => ?_) (fun c286 => ?_)
                    · refine lv_iload_n hx hb dX12_level_137 rfl (lv_at hl 2 rfl) ?_
                      refine lv_sipush (v := 260) hx hb dX12_level_138 (by decide) ?_
                      refine lv_icmp_ne (tgt := 149) hx hb dX12_level_141 (by decide) (fun c287 => ?_) (fun c287 => ?_)
                      · refine lv_bipush (v := 18) hx hb dX12_level_149 (by decide) ?_
                        refine lv_aload_n hx hb dX12_level_151 rfl (lv_at hl 5 rfl) ?_
                        refine r_get (v := .ref (a 10)) hx hb hown hq hE hP 18 41 tFX12_18 (by decide) pw_1440 rfl dX12_level_152 ?_
                        refine lv_iload_n hx hb dX12_level_155 rfl (lv_at hl 3 rfl) ?_
                        refine r_ldi (f := (X206 10)) (j := r2) hx hb hE hP 10 (ma_10 G a _) rfl (by omega) (by decide) dX12_level_156 ?_
                        refine lv_topi (fun x288 e289 => ?_)
                        refine lv_iload hx hb dX12_level_157 (lv_at hl 1 rfl) ?_
                        refine lv_iload_n hx hb dX12_level_159 rfl (lv_at hl 3 rfl) ?_
                        refine lv_iload hx hb dX12_level_160 (lv_at hl 0 rfl) ?_
                        have hP : va_P G.1 pCl (mW G h0 a (upd (upd (upd (upd (upd (upd (upd (upd F 15 (nI fa200)) 16 pl201) 27 (nI nd202)) 31 (nI wr204)) 64 (nI at199)) 65 (nI ne)) 66 (nI lk203)) 27 (nI nd202)) (updA X206 2 K)) _ := mW_to (F := F) (l1 := [(15, (nI fa200)), (16, pl201), (27, (nI nd202)), (31, (nI wr204)), (64, (nI at199)), (65, (nI ne)), (66, (nI lk203))]) (l2 := [(15, (nI fa200)), (16, pl201), (27, (nI nd202)), (31, (nI wr204)), (64, (nI at199)), (65, (nI ne)), (66, (nI lk203)), (27, (nI nd202))]) (V := [(nI fa200), pl201, (nI nd202), (nI wr204), (nI at199), (nI ne), (nI lk203), (nI fa200), pl201, (nI nd202), (nI wr204), (nI at199), (nI ne), (nI lk203), (nI nd202)]) rfl rfl rfl hP
                        have hD : va_D A (mW G h0 a (upd (upd (upd (upd (upd (upd (upd (upd F 15 (nI fa200)) 16 pl201) 27 (nI nd202)) 31 (nI wr204)) 64 (nI at199)) 65 (nI ne)) 66 (nI lk203)) 27 (nI nd202)) (updA X206 2 K)) := mW_D hD
                        refine pc_V0 (G := G) (As := [.int 18, .int x288, .int (nI at2), .int (nI r2), .int (nI r205)]) (rest := []) hx hb hml hown hq hE hX pX0_al hP hD hS hA hl.1 (R_nodeB l G h0 a (upd (upd (upd (upd (upd (upd (upd F 15 (nI fa200)) 16 pl201) 27 (nI nd202)) 31 (nI wr204)) 64 (nI at199)) 65 (nI ne)) 66 (nI lk203)) X206 18 x288 (nI at2) (nI r2) (nI r205) nd202 K (by omega)) (gV pw_1650 pw_1651 pw_1652 pw_1523 pw_1589) hV_X12_node 0 9 rfl rfl rfl rfl (Nat.le_of_ble_eq_true rfl) dX12_level_162 ⟨Nat.le_of_ble_eq_true rfl, Nat.le_of_ble_eq_true rfl⟩ ⟨(by show 2 + 1 ≤ (20 * n + (26 - lv)); omega), (by show 8 + (7 + 11) + 60 ≤ (1000 * n + 40 * (26 - lv)); omega)⟩ (fun v292 u290 H locs hw291 hP hD hS => ?_)
                        obtain ⟨X293, rfl⟩ : ∃ z, z = u290 := ⟨_, rfl⟩
                        obtain ⟨hw291, h294⟩ := hw291
                        have h294 : NewN X206 X293 nd202 18 x288 (nI at2) (nI r2) (nI r205) := h294
                        obtain rfl : v292 = some (.int (nI nd202)) := hw291
                        have hP : va_P G.1 pCl (mW G h0 a (upd (upd (upd (upd (upd (upd (upd F 15 (nI fa200)) 16 pl201) 27 (nI (nd202 + 1))) 31 (nI wr204)) 64 (nI at199)) 65 (nI ne)) 66 (nI lk203)) (updA X293 2 K)) _ := mW_to (F := F) (l1 := [(15, (nI fa200)), (16, pl201), (27, (nI nd202)), (31, (nI wr204)), (64, (nI at199)), (65, (nI ne)), (66, (nI lk203)), (27, (nI (nd202 + 1)))]) (l2 := [(15, (nI fa200)), (16, pl201), (27, (nI (nd202 + 1))), (31, (nI wr204)), (64, (nI at199)), (65, (nI ne)), (66, (nI lk203))]) (V := [(nI fa200), pl201, (nI (nd202 + 1)), (nI wr204), (nI at199), (nI ne), (nI lk203), (nI (nd202 + 1)), (nI fa200), pl201, (nI (nd202 + 1)), (nI wr204), (nI at199), (nI ne), (nI lk203)]) rfl rfl rfl hP
                        have hD : va_D A (mW G h0 a (upd (upd (upd (upd (upd (upd (upd F 15 (nI fa200)) 16 pl201) 27 (nI (nd202 + 1))) 31 (nI wr204)) 64 (nI at199)) 65 (nI ne)) 66 (nI lk203)) (updA X293 2 K)) := mW_D hD
                        refine W.widen (k := 0) (n := 0) (Nat.le_of_ble_eq_true rfl) (Nat.le_of_ble_eq_true rfl) ?_
                        refine W.eq (g2 := F0 m 165 ls [.int (nI nd202)]) rfl ?_
                        have hkp295 : Kp B X293 wr204 T := (Kp.new hkp221 h294)
                        refine lv_istore_n (lv' := [(2, .int (nI nd202)), (5, .int (nI r205)), (4, .int (nI at2)), (3, .int (K at2)), (1, .int (nI lv)), (0, .ref h0)]) hx hb dX12_level_165 rfl hl (by decide) rfl (fun ls hl => ?_)
                        refine lv_goto (tgt := 19) hx hb dX12_level_166 (by decide) ?_
                        refine lv_aload_n hx hb dX12_level_19 rfl (lv_at hl 5 rfl) ?_
                        refine r_get (v := .int (nI fa200)) hx hb hown hq hE hP 15 350 tFX12_15 (by decide) pw_1594 rfl dX12_level_20 ?_
                        refine lv_if_ne (tgt := 169) hx hb dX12_level_23 (by decide) (fun c296 => ?_) (fun c296 => (by have n297 : fa200 = 0 := (nI_eq (a := fa200) (b := 0) (by omega) (by omega)).mp c296; omega))
                        refine lv_iload_n hx hb dX12_level_169 rfl (lv_at hl 0 rfl) ?_
                        have hz298 : at0 ≤ at199 := (by omega)
                        have hz299 : at199 ≤ T := (by omega)
                        have hz300 : fa200 ≤ 100 := (by omega)
                        have hz301 : nd ≤ (nd202 + 1) := (by omega)
                        have hz302 : (nd202 + 1) + 2 * at0 ≤ nd + 2 * at199 + 100000 * fa200 := (by omega)
                        have hz303 : (nd202 + 1) + 2 * at0 ≤ nd + 2 * at199 + 40 * (21 - ne) := (by omega)
                        have hz304 : wr ≤ wr204 := (by omega)
                        have hz305 : wr204 + at0 ≤ wr + at199 := (by omega)
                        have hz306 : lk ≤ lk203 := (by omega)
                        have hz307 : lk203 ≤ 60 + 100 * fa200 := (by omega)
                        have hz308 : at0 + 1 ≤ at199 + fa200 := (by omega)
                        have hz309 : nd202 ≤ (nd202 + 1) := (by omega)
                        have hz310 : Kp B X293 wr204 T := hkp295
                        have hz311 : If (fa200 = 0) (Low B X293 nd wr ∧ Frs K T wr204 X293 nd (nd202 + 1) 20000 [(nd202, (210 + lk203 - (10 * ne + lk)))] ∧ kcl 1 (X293 9 nd202) = true) := (fun e => absurd e (by omega))
                        have hP : va_P G.1 pCl (mW G h0 a (upd (upd (upd (upd (upd (upd (upd F 15 (nI fa200)) 16 pl201) 27 (nI (nd202 + 1))) 31 (nI wr204)) 64 (nI at199)) 65 (nI ne)) 66 (nI lk203)) (updA X293 2 K)) _ := hP
                        have hD : va_D A (mW G h0 a (upd (upd (upd (upd (upd (upd (upd F 15 (nI fa200)) 16 pl201) 27 (nI (nd202 + 1))) 31 (nI wr204)) 64 (nI at199)) 65 (nI ne)) 66 (nI lk203)) (updA X293 2 K)) := mW_D hD
                        exact W.iret (v := (nI nd202)) hx hb hr (fun t9 ht9 hW9 => ⟨⟨_, (at199, fa200, pl201, (nd202 + 1), lk203, wr204, nd202, X293), rfl, ⟨rfl, hz298, hz299, hz300, hz301, hz302, hz303, hz304, hz305, hz306, hz307, hz308, hz309, hz310, hz311⟩, by rw [ht9]; exact hP, hD⟩, hS.F ht9⟩) hS.2.2 dX12_level_170
                      · refine lv_bipush (v := 19) hx hb dX12_level_144 (by decide) ?_
                        refine lv_goto (tgt := 151) hx hb dX12_level_146 (by decide) ?_
                        refine lv_aload_n hx hb dX12_level_151 rfl (lv_at hl 5 rfl) ?_
                        refine r_get (v := .ref (a 10)) hx hb hown hq hE hP 18 41 tFX12_18 (by decide) pw_1440 rfl dX12_level_152 ?_
                        refine lv_iload_n hx hb dX12_level_155 rfl (lv_at hl 3 rfl) ?_
                        refine r_ldi (f := (X206 10)) (j := r2) hx hb hE hP 10 (ma_10 G a _) rfl (by omega) (by decide) dX12_level_156 ?_
                        refine lv_topi (fun x312 e313 => ?_)
                        refine lv_iload hx hb dX12_level_157 (lv_at hl 1 rfl) ?_
                        refine lv_iload_n hx hb dX12_level_159 rfl (lv_at hl 3 rfl) ?_
                        refine lv_iload hx hb dX12_level_160 (lv_at hl 0 rfl) ?_
                        have hP : va_P G.1 pCl (mW G h0 a (upd (upd (upd (upd (upd (upd (upd (upd F 15 (nI fa200)) 16 pl201) 27 (nI nd202)) 31 (nI wr204)) 64 (nI at199)) 65 (nI ne)) 66 (nI lk203)) 27 (nI nd202)) (updA X206 2 K)) _ := mW_to (F := F) (l1 := [(15, (nI fa200)), (16, pl201), (27, (nI nd202)), (31, (nI wr204)), (64, (nI at199)), (65, (nI ne)), (66, (nI lk203))]) (l2 := [(15, (nI fa200)), (16, pl201), (27, (nI nd202)), (31, (nI wr204)), (64, (nI at199)), (65, (nI ne)), (66, (nI lk203)), (27, (nI nd202))]) (V := [(nI fa200), pl201, (nI nd202), (nI wr204), (nI at199), (nI ne), (nI lk203), (nI fa200), pl201, (nI nd202), (nI wr204), (nI at199), (nI ne), (nI lk203), (nI nd202)]) rfl rfl rfl hP
                        have hD : va_D A (mW G h0 a (upd (upd (upd (upd (upd (upd (upd (upd F 15 (nI fa200)) 16 pl201) 27 (nI nd202)) 31 (nI wr204)) 64 (nI at199)) 65 (nI ne)) 66 (nI lk203)) 27 (nI nd202)) (updA X206 2 K)) := mW_D hD
                        refine pc_V0 (G := G) (As := [.int 19, .int x312, .int (nI at2), .int (nI r2), .int (nI r205)]) (rest := []) hx hb hml hown hq hE hX pX0_al hP hD hS hA hl.1 (R_nodeB l G h0 a (upd (upd (upd (upd (upd (upd (upd F 15 (nI fa200)) 16 pl201) 27 (nI nd202)) 31 (nI wr204)) 64 (nI at199)) 65 (nI ne)) 66 (nI lk203)) X206 19 x312 (nI at2) (nI r2) (nI r205) nd202 K (by omega)) (gV pw_1650 pw_1651 pw_1652 pw_1523 pw_1589) hV_X12_node 0 9 rfl rfl rfl rfl (Nat.le_of_ble_eq_true rfl) dX12_level_162 ⟨Nat.le_of_ble_eq_true rfl, Nat.le_of_ble_eq_true rfl⟩ ⟨(by show 2 + 1 ≤ (20 * n + (26 - lv)); omega), (by show 8 + (7 + 11) + 60 ≤ (1000 * n + 40 * (26 - lv)); omega)⟩ (fun v316 u314 H locs hw315 hP hD hS => ?_)
                        obtain ⟨X317, rfl⟩ : ∃ z, z = u314 := ⟨_, rfl⟩
                        obtain ⟨hw315, h318⟩ := hw315
                        have h318 : NewN X206 X317 nd202 19 x312 (nI at2) (nI r2) (nI r205) := h318
                        obtain rfl : v316 = some (.int (nI nd202)) := hw315
                        have hP : va_P G.1 pCl (mW G h0 a (upd (upd (upd (upd (upd (upd (upd F 15 (nI fa200)) 16 pl201) 27 (nI (nd202 + 1))) 31 (nI wr204)) 64 (nI at199)) 65 (nI ne)) 66 (nI lk203)) (updA X317 2 K)) _ := mW_to (F := F) (l1 := [(15, (nI fa200)), (16, pl201), (27, (nI nd202)), (31, (nI wr204)), (64, (nI at199)), (65, (nI ne)), (66, (nI lk203)), (27, (nI (nd202 + 1)))]) (l2 := [(15, (nI fa200)), (16, pl201), (27, (nI (nd202 + 1))), (31, (nI wr204)), (64, (nI at199)), (65, (nI ne)), (66, (nI lk203))]) (V := [(nI fa200), pl201, (nI (nd202 + 1)), (nI wr204), (nI at199), (nI ne), (nI lk203), (nI (nd202 + 1)), (nI fa200), pl201, (nI (nd202 + 1)), (nI wr204), (nI at199), (nI ne), (nI lk203)]) rfl rfl rfl hP
                        have hD : va_D A (mW G h0 a (upd (upd (upd (upd (upd (upd (upd F 15 (nI fa200)) 16 pl201) 27 (nI (nd202 + 1))) 31 (nI wr204)) 64 (nI at199)) 65 (nI ne)) 66 (nI lk203)) (updA X317 2 K)) := mW_D hD
                        refine W.widen (k := 0) (n := 0) (Nat.le_of_ble_eq_true rfl) (Nat.le_of_ble_eq_true rfl) ?_
                        refine W.eq (g2 := F0 m 165 ls [.int (nI nd202)]) rfl ?_
                        have hkp319 : Kp B X317 wr204 T := (Kp.new hkp221 h318)
                        refine lv_istore_n (lv' := [(2, .int (nI nd202)), (5, .int (nI r205)), (4, .int (nI at2)), (3, .int (K at2)), (1, .int (nI lv)), (0, .ref h0)]) hx hb dX12_level_165 rfl hl (by decide) rfl (fun ls hl => ?_)
                        refine lv_goto (tgt := 19) hx hb dX12_level_166 (by decide) ?_
                        refine lv_aload_n hx hb dX12_level_19 rfl (lv_at hl 5 rfl) ?_
                        refine r_get (v := .int (nI fa200)) hx hb hown hq hE hP 15 350 tFX12_15 (by decide) pw_1594 rfl dX12_level_20 ?_
                        refine lv_if_ne (tgt := 169) hx hb dX12_level_23 (by decide) (fun c320 => ?_) (fun c320 => (by have n321 : fa200 = 0 := (nI_eq (a := fa200) (b := 0) (by omega) (by omega)).mp c320; omega))
                        refine lv_iload_n hx hb dX12_level_169 rfl (lv_at hl 0 rfl) ?_
                        have hz322 : at0 ≤ at199 := (by omega)
                        have hz323 : at199 ≤ T := (by omega)
                        have hz324 : fa200 ≤ 100 := (by omega)
                        have hz325 : nd ≤ (nd202 + 1) := (by omega)
                        have hz326 : (nd202 + 1) + 2 * at0 ≤ nd + 2 * at199 + 100000 * fa200 := (by omega)
                        have hz327 : (nd202 + 1) + 2 * at0 ≤ nd + 2 * at199 + 40 * (21 - ne) := (by omega)
                        have hz328 : wr ≤ wr204 := (by omega)
                        have hz329 : wr204 + at0 ≤ wr + at199 := (by omega)
                        have hz330 : lk ≤ lk203 := (by omega)
                        have hz331 : lk203 ≤ 60 + 100 * fa200 := (by omega)
                        have hz332 : at0 + 1 ≤ at199 + fa200 := (by omega)
                        have hz333 : nd202 ≤ (nd202 + 1) := (by omega)
                        have hz334 : Kp B X317 wr204 T := hkp319
                        have hz335 : If (fa200 = 0) (Low B X317 nd wr ∧ Frs K T wr204 X317 nd (nd202 + 1) 20000 [(nd202, (210 + lk203 - (10 * ne + lk)))] ∧ kcl 1 (X317 9 nd202) = true) := (fun e => absurd e (by omega))
                        have hP : va_P G.1 pCl (mW G h0 a (upd (upd (upd (upd (upd (upd (upd F 15 (nI fa200)) 16 pl201) 27 (nI (nd202 + 1))) 31 (nI wr204)) 64 (nI at199)) 65 (nI ne)) 66 (nI lk203)) (updA X317 2 K)) _ := hP
                        have hD : va_D A (mW G h0 a (upd (upd (upd (upd (upd (upd (upd F 15 (nI fa200)) 16 pl201) 27 (nI (nd202 + 1))) 31 (nI wr204)) 64 (nI at199)) 65 (nI ne)) 66 (nI lk203)) (updA X317 2 K)) := mW_D hD
                        exact W.iret (v := (nI nd202)) hx hb hr (fun t9 ht9 hW9 => ⟨⟨_, (at199, fa200, pl201, (nd202 + 1), lk203, wr204, nd202, X317), rfl, ⟨rfl, hz322, hz323, hz324, hz325, hz326, hz327, hz328, hz329, hz330, hz331, hz332, hz333, hz334, hz335⟩, by rw [ht9]; exact hP, hD⟩, hS.F ht9⟩) hS.2.2 dX12_level_170
                    · refine lv_bipush (v := 20) hx hb dX12_level_132 (by decide) ?_
                      refine lv_goto (tgt := 151) hx hb dX12_level_134 (by decide) ?_
                      refine lv_aload_n hx hb dX12_level_151 rfl (lv_at hl 5 rfl) ?_
                      refine r_get (v := .ref (a 10)) hx hb hown hq hE hP 18 41 tFX12_18 (by decide) pw_1440 rfl dX12_level_152 ?_
                      refine lv_iload_n hx hb dX12_level_155 rfl (lv_at hl 3 rfl) ?_
                      refine r_ldi (f := (X206 10)) (j := r2) hx hb hE hP 10 (ma_10 G a _) rfl (by omega) (by decide) dX12_level_156 ?_
                      refine lv_topi (fun x336 e337 => ?_)
                      refine lv_iload hx hb dX12_level_157 (lv_at hl 1 rfl) ?_
                      refine lv_iload_n hx hb dX12_level_159 rfl (lv_at hl 3 rfl) ?_
                      refine lv_iload hx hb dX12_level_160 (lv_at hl 0 rfl) ?_
                      have hP : va_P G.1 pCl (mW G h0 a (upd (upd (upd (upd (upd (upd (upd (upd F 15 (nI fa200)) 16 pl201) 27 (nI nd202)) 31 (nI wr204)) 64 (nI at199)) 65 (nI ne)) 66 (nI lk203)) 27 (nI nd202)) (updA X206 2 K)) _ := mW_to (F := F) (l1 := [(15, (nI fa200)), (16, pl201), (27, (nI nd202)), (31, (nI wr204)), (64, (nI at199)), (65, (nI ne)), (66, (nI lk203))]) (l2 := [(15, (nI fa200)), (16, pl201), (27, (nI nd202)), (31, (nI wr204)), (64, (nI at199)), (65, (nI ne)), (66, (nI lk203)), (27, (nI nd202))]) (V := [(nI fa200), pl201, (nI nd202), (nI wr204), (nI at199), (nI ne), (nI lk203), (nI fa200), pl201, (nI nd202), (nI wr204), (nI at199), (nI ne), (nI lk203), (nI nd202)]) rfl rfl rfl hP
                      have hD : va_D A (mW G h0 a (upd (upd (upd (upd (upd (upd (upd (upd F 15 (nI fa200)) 16 pl201) 27 (nI nd202)) 31 (nI wr204)) 64 (nI at199)) 65 (nI ne)) 66 (nI lk203)) 27 (nI nd202)) (updA X206 2 K)) := mW_D hD
                      refine pc_V0 (G := G) (As := [.int 20, .int x336, .int (nI at2), .int (nI r2), .int (nI r205)]) (rest := []) hx hb hml hown hq hE hX pX0_al hP hD hS hA hl.1 (R_nodeB l G h0 a (upd (upd (upd (upd (upd (upd (upd F 15 (nI fa200)) 16 pl201) 27 (nI nd202)) 31 (nI wr204)) 64 (nI at199)) 65 (nI ne)) 66 (nI lk203)) X206 20 x336 (nI at2) (nI r2) (nI r205) nd202 K (by omega)) (gV pw_1650 pw_1651 pw_1652 pw_1523 pw_1589) hV_X12_node 0 9 rfl rfl rfl rfl (Nat.le_of_ble_eq_true rfl) dX12_level_162 ⟨Nat.le_of_ble_eq_true rfl, Nat.le_of_ble_eq_true rfl⟩ ⟨(by show 2 + 1 ≤ (20 * n + (26 - lv)); omega), (by show 8 + (7 + 11) + 60 ≤ (1000 * n + 40 * (26 - lv)); omega)⟩ (fun v340 u338 H locs hw339 hP hD hS => ?_)
                      obtain ⟨X341, rfl⟩ : ∃ z, z = u338 := ⟨_, rfl⟩
                      obtain ⟨hw339, h342⟩ := hw339
                      have h342 : NewN X206 X341 nd202 20 x336 (nI at2) (nI r2) (nI r205) := h342
                      obtain rfl : v340 = some (.int (nI nd202)) := hw339
                      have hP : va_P G.1 pCl (mW G h0 a (upd (upd (upd (upd (upd (upd (upd F 15 (nI fa200)) 16 pl201) 27 (nI (nd202 + 1))) 31 (nI wr204)) 64 (nI at199)) 65 (nI ne)) 66 (nI lk203)) (updA X341 2 K)) _ := mW_to (F := F) (l1 := [(15, (nI fa200)), (16, pl201), (27, (nI nd202)), (31, (nI wr204)), (64, (nI at199)), (65, (nI ne)), (66, (nI lk203)), (27, (nI (nd202 + 1)))]) (l2 := [(15, (nI fa200)), (16, pl201), (27, (nI (nd202 + 1))), (31, (nI wr204)), (64, (nI at199)), (65, (nI ne)), (66, (nI lk203))]) (V := [(nI fa200), pl201, (nI (nd202 + 1)), (nI wr204), (nI at199), (nI ne), (nI lk203), (nI (nd202 + 1)), (nI fa200), pl201, (nI (nd202 + 1)), (nI wr204), (nI at199), (nI ne), (nI lk203)]) rfl rfl rfl hP
                      have hD : va_D A (mW G h0 a (upd (upd (upd (upd (upd (upd (upd F 15 (nI fa200)) 16 pl201) 27 (nI (nd202 + 1))) 31 (nI wr204)) 64 (nI at199)) 65 (nI ne)) 66 (nI lk203)) (updA X341 2 K)) := mW_D hD
                      refine W.widen (k := 0) (n := 0) (Nat.le_of_ble_eq_true rfl) (Nat.le_of_ble_eq_true rfl) ?_
                      refine W.eq (g2 := F0 m 165 ls [.int (nI nd202)]) rfl ?_
                      have hkp343 : Kp B X341 wr204 T := (Kp.new hkp221 h342)
                      refine lv_istore_n (lv' := [(2, .int (nI nd202)), (5, .int (nI r205)), (4, .int (nI at2)), (3, .int (K at2)), (1, .int (nI lv)), (0, .ref h0)]) hx hb dX12_level_165 rfl hl (by decide) rfl (fun ls hl => ?_)
                      refine lv_goto (tgt := 19) hx hb dX12_level_166 (by decide) ?_
                      refine lv_aload_n hx hb dX12_level_19 rfl (lv_at hl 5 rfl) ?_
                      refine r_get (v := .int (nI fa200)) hx hb hown hq hE hP 15 350 tFX12_15 (by decide) pw_1594 rfl dX12_level_20 ?_
                      refine lv_if_ne (tgt := 169) hx hb dX12_level_23 (by decide) (fun c344 => ?_) (fun c344 => (by have n345 : fa200 = 0 := (nI_eq (a := fa200) (b := 0) (by omega) (by omega)).mp c344; omega))
                      refine lv_iload_n hx hb dX12_level_169 rfl (lv_at hl 0 rfl) ?_
                      have hz346 : at0 ≤ at199 := (by omega)
                      have hz347 : at199 ≤ T := (by omega)
                      have hz348 : fa200 ≤ 100 := (by omega)
                      have hz349 : nd ≤ (nd202 + 1) := (by omega)
                      have hz350 : (nd202 + 1) + 2 * at0 ≤ nd + 2 * at199 + 100000 * fa200 := (by omega)
                      have hz351 : (nd202 + 1) + 2 * at0 ≤ nd + 2 * at199 + 40 * (21 - ne) := (by omega)
                      have hz352 : wr ≤ wr204 := (by omega)
                      have hz353 : wr204 + at0 ≤ wr + at199 := (by omega)
                      have hz354 : lk ≤ lk203 := (by omega)
                      have hz355 : lk203 ≤ 60 + 100 * fa200 := (by omega)
                      have hz356 : at0 + 1 ≤ at199 + fa200 := (by omega)
                      have hz357 : nd202 ≤ (nd202 + 1) := (by omega)
                      have hz358 : Kp B X341 wr204 T := hkp343
                      have hz359 : If (fa200 = 0) (Low B X341 nd wr ∧ Frs K T wr204 X341 nd (nd202 + 1) 20000 [(nd202, (210 + lk203 - (10 * ne + lk)))] ∧ kcl 1 (X341 9 nd202) = true) := (fun e => absurd e (by omega))
                      have hP : va_P G.1 pCl (mW G h0 a (upd (upd (upd (upd (upd (upd (upd F 15 (nI fa200)) 16 pl201) 27 (nI (nd202 + 1))) 31 (nI wr204)) 64 (nI at199)) 65 (nI ne)) 66 (nI lk203)) (updA X341 2 K)) _ := hP
                      have hD : va_D A (mW G h0 a (upd (upd (upd (upd (upd (upd (upd F 15 (nI fa200)) 16 pl201) 27 (nI (nd202 + 1))) 31 (nI wr204)) 64 (nI at199)) 65 (nI ne)) 66 (nI lk203)) (updA X341 2 K)) := mW_D hD
                      exact W.iret (v := (nI nd202)) hx hb hr (fun t9 ht9 hW9 => ⟨⟨_, (at199, fa200, pl201, (nd202 + 1), lk203, wr204, nd202, X341), rfl, ⟨rfl, hz346, hz347, hz348, hz349, hz350, hz351, hz352, hz353, hz354, hz355, hz356, hz357, hz358, hz359⟩, by rw [ht9]; exact hP, hD⟩, hS.F ht9⟩) hS.2.2 dX12_level_170
                · refine lv_aload_n hx hb dX12_level_76 rfl (lv_at hl 4 rfl) ?_
                  have hP : va_P G.1 pCl (mW G h0 a (upd (upd (upd (upd (upd (upd (upd (upd (upd (upd F 15 0) 16 pl72) 27 (nI nd2)) 31 (nI wr2)) 64 (nI (at2 + 1))) 65 (nI ne)) 66 (nI (lk2 + 1))) 15 (nI 0)) 31 (nI wr2)) 64 (nI (at2 + 1))) (updA (updA (updA X2 2 K) 2 K) 19 (X2 19))) _ := mW_to (F := F) (l1 := [(15, 0), (16, pl72), (27, (nI nd2)), (31, (nI wr2)), (64, (nI at2)), (65, (nI ne)), (66, (nI (lk2 + 1))), (64, (nI (at2 + 1)))]) (l2 := [(15, 0), (16, pl72), (27, (nI nd2)), (31, (nI wr2)), (64, (nI (at2 + 1))), (65, (nI ne)), (66, (nI (lk2 + 1))), (15, (nI 0)), (31, (nI wr2)), (64, (nI (at2 + 1)))]) (V := [(nI 0), pl72, (nI nd2), (nI wr2), (nI (at2 + 1)), (nI ne), (nI (lk2 + 1)), (nI (at2 + 1)), (nI 0), pl72, (nI nd2), (nI wr2), (nI (at2 + 1)), (nI ne), (nI (lk2 + 1)), (nI 0), (nI wr2), (nI (at2 + 1))]) rfl rfl (show (updA X2 2 K) = (updA (updA (updA X2 2 K) 2 K) 19 (X2 19)) from updsA_eq2 (F := X2) (l1 := [(2, K)]) (l2 := [(2, K), (2, K), (19, (X2 19))]) (V := [K, K, K, (X2 19)]) rfl rfl) hP
                  have hD : va_D A (mW G h0 a (upd (upd (upd (upd (upd (upd (upd (upd (upd (upd F 15 0) 16 pl72) 27 (nI nd2)) 31 (nI wr2)) 64 (nI (at2 + 1))) 65 (nI ne)) 66 (nI (lk2 + 1))) 15 (nI 0)) 31 (nI wr2)) 64 (nI (at2 + 1))) (updA (updA (updA X2 2 K) 2 K) 19 (X2 19))) := mW_D hD
                  refine pc_V0 (G := G) (As := []) (rest := []) hx hb hml hown hq hE hX pX0_al hP hD hS hA hl.1 (R_typeHere l G h0 a (upd (upd (upd (upd (upd (upd (upd F 15 0) 16 pl72) 27 (nI nd2)) 31 (nI wr2)) 64 (nI (at2 + 1))) 65 (nI ne)) 66 (nI (lk2 + 1))) (updA X2 2 K) (at2 + 1) T 0 K wr2 (X2 19) (by omega) (by omega) hK (by omega) (by omega) (hkp2).2) (gV pw_1670 pw_1671 pw_1672 pw_1523 pw_1633) hV_X12_typeHere 0 9 rfl rfl rfl rfl (Nat.le_of_ble_eq_true rfl) dX12_level_77 ⟨Nat.le_of_ble_eq_true rfl, Nat.le_of_ble_eq_true rfl⟩ ⟨(by show 5 + 1 ≤ (20 * n + (26 - lv)); omega), (by show 8 + (2 + 11) + 124 ≤ (1000 * n + 40 * (26 - lv)); omega)⟩ (fun v362 u360 H locs hw361 hP hD hS => ?_)
                  obtain ⟨at363, fa364, pl365, wr366, r367, yt368, yr369⟩ := u360
                  obtain ⟨hw361, h370, h371, h372, h373, h374, h375, h376, h377, h378, h379, h380, h381, h382, h383⟩ := hw361
                  have h370 : (at2 + 1) ≤ at363 := h370
                  have h371 : at363 ≤ T := h371
                  have h372 : 0 ≤ fa364 := h372
                  have h373 : fa364 ≤ 100 := h373
                  have h374 : If (0 < 0) (at363 = (at2 + 1) ∧ fa364 = 0) := h374
                  have h375 : wr2 ≤ wr366 := h375
                  have h376 : wr366 + (at2 + 1) ≤ wr2 + at363 := h376
                  have h377 : If (0 < 0) (wr366 = wr2) := h377
                  have h378 : r367 + 1 ≤ wr366 + 6000 * fa364 := h378
                  have h379 : (at2 + 1) + 1 ≤ at363 + fa364 := h379
                  have h380 : tkRow yt368 wr366 T := h380
                  have h381 : ∀ i : Nat, i < wr2 → yt368 i = (X2 19) i := h381
                  have h382 : ∀ i : Nat, i < wr2 → yr369 i = (X2 20) i := h382
                  have h383 : r367 ≤ wr2 := h383
                  obtain rfl : v362 = some (.int (nI r367)) := hw361
                  have hP : va_P G.1 pCl (mW G h0 a (upd (upd (upd (upd (upd (upd (upd F 15 (nI fa364)) 16 pl365) 27 (nI nd2)) 31 (nI wr366)) 64 (nI at363)) 65 (nI ne)) 66 (nI (lk2 + 1))) (updA (updA (updA X2 2 K) 19 yt368) 20 yr369)) _ := mW_to (F := F) (l1 := [(15, 0), (16, pl72), (27, (nI nd2)), (31, (nI wr2)), (64, (nI (at2 + 1))), (65, (nI ne)), (66, (nI (lk2 + 1))), (15, (nI fa364)), (16, pl365), (31, (nI wr366)), (64, (nI at363))]) (l2 := [(15, (nI fa364)), (16, pl365), (27, (nI nd2)), (31, (nI wr366)), (64, (nI at363)), (65, (nI ne)), (66, (nI (lk2 + 1)))]) (V := [(nI fa364), pl365, (nI nd2), (nI wr366), (nI at363), (nI ne), (nI (lk2 + 1)), (nI fa364), pl365, (nI wr366), (nI at363), (nI fa364), pl365, (nI nd2), (nI wr366), (nI at363), (nI ne), (nI (lk2 + 1))]) rfl rfl (show (updA (updA (updA (updA X2 2 K) 2 K) 19 yt368) 20 yr369) = (updA (updA (updA X2 2 K) 19 yt368) 20 yr369) from updsA_eq2 (F := X2) (l1 := [(2, K), (2, K), (19, yt368), (20, yr369)]) (l2 := [(2, K), (19, yt368), (20, yr369)]) (V := [K, K, yt368, yr369, K, yt368, yr369]) rfl rfl) hP
                  have hD : va_D A (mW G h0 a (upd (upd (upd (upd (upd (upd (upd F 15 (nI fa364)) 16 pl365) 27 (nI nd2)) 31 (nI wr366)) 64 (nI at363)) 65 (nI ne)) 66 (nI (lk2 + 1))) (updA (updA (updA X2 2 K) 19 yt368) 20 yr369)) := mW_D hD
                  refine W.widen (k := 0) (n := 0) (Nat.le_of_ble_eq_true rfl) (Nat.le_of_ble_eq_true rfl) ?_
                  refine W.eq (g2 := F0 m 80 ls [.int (nI r367)]) rfl ?_
                  have hP : va_P G.1 pCl (mW G h0 a (upd (upd (upd (upd (upd (upd (upd F 15 (nI fa364)) 16 pl365) 27 (nI nd2)) 31 (nI wr366)) 64 (nI at363)) 65 (nI ne)) 66 (nI (lk2 + 1))) (updA (updA (updA X2 19 yt368) 20 yr369) 2 K)) _ := mW_to (F := F) (l1 := [(15, (nI fa364)), (16, pl365), (27, (nI nd2)), (31, (nI wr366)), (64, (nI at363)), (65, (nI ne)), (66, (nI (lk2 + 1)))]) (l2 := [(15, (nI fa364)), (16, pl365), (27, (nI nd2)), (31, (nI wr366)), (64, (nI at363)), (65, (nI ne)), (66, (nI (lk2 + 1)))]) (V := [(nI fa364), pl365, (nI nd2), (nI wr366), (nI at363), (nI ne), (nI (lk2 + 1)), (nI fa364), pl365, (nI nd2), (nI wr366), (nI at363), (nI ne), (nI (lk2 + 1))]) rfl rfl (show (updA (updA (updA X2 2 K) 19 yt368) 20 yr369) = (updA (updA (updA X2 19 yt368) 20 yr369) 2 K) from updsA_eq2 (F := X2) (l1 := [(2, K), (19, yt368), (20, yr369)]) (l2 := [(19, yt368), (20, yr369), (2, K)]) (V := [K, yt368, yr369, yt368, yr369, K]) rfl rfl) hP
                  have hD : va_D A (mW G h0 a (upd (upd (upd (upd (upd (upd (upd F 15 (nI fa364)) 16 pl365) 27 (nI nd2)) 31 (nI wr366)) 64 (nI at363)) 65 (nI ne)) 66 (nI (lk2 + 1))) (updA (updA (updA X2 19 yt368) 20 yr369) 2 K)) := mW_D hD
                  have hkp384 : Kp B (updA (updA X2 19 yt368) 20 yr369) wr366 T := (Kp.y hkp2 h380)
                  rcases Nat.eq_zero_or_pos fa364 with e385 | e385
                  · subst e385
                    have hP : va_P G.1 pCl (mW G h0 a (upd (upd (upd (upd (upd (upd (upd F 15 0) 16 pl365) 27 (nI nd2)) 31 (nI wr366)) 64 (nI at363)) 65 (nI ne)) 66 (nI (lk2 + 1))) (updA (updA (updA X2 19 yt368) 20 yr369) 2 K)) _ := hP
                    have hD : va_D A (mW G h0 a (upd (upd (upd (upd (upd (upd (upd F 15 0) 16 pl365) 27 (nI nd2)) 31 (nI wr366)) 64 (nI at363)) 65 (nI ne)) 66 (nI (lk2 + 1))) (updA (updA (updA X2 19 yt368) 20 yr369) 2 K)) := mW_D hD
                    have hlo386 : Low B (updA (updA X2 19 yt368) 20 yr369) nd wr := (Low.y hlo2 (fun i z => h381 i (by omega)) (fun i z => h382 i (by omega)))
                    have hf387 : Frs K T wr366 (updA (updA X2 19 yt368) 20 yr369) nd nd2 20000 [(r2, (210 + lk2 - (10 * ne + lk)))] := (hf2.y (by omega))
                    have hc388 : kcl 1 ((updA (updA X2 19 yt368) 20 yr369) 9 r2) = true := hc2
                    refine lv_istore (lv' := [(5, .int (nI r367)), (4, .int (nI at2)), (3, .int (K at2)), (2, .int (nI r2)), (1, .int (nI lv)), (0, .ref h0)]) hx hb dX12_level_80 hl (by decide) rfl (fun ls hl => ?_)
                    refine lv_aload_n hx hb dX12_level_82 rfl (lv_at hl 5 rfl) ?_
                    refine lv_iload_n hx hb dX12_level_83 rfl (lv_at hl 2 rfl) ?_
                    refine lv_sipush (v := 325) hx hb dX12_level_84 (by decide) ?_
                    refine lv_icmp_ne (tgt := 95) hx hb dX12_level_87 (by decide) (fun c389 => ?_) (fun c389 => ?_)
                    · refine lv_bipush (v := 22) hx hb dX12_level_95 (by decide) ?_
                      refine lv_aload_n hx hb dX12_level_97 rfl (lv_at hl 5 rfl) ?_
                      refine r_get (v := .ref (a 10)) hx hb hown hq hE hP 18 41 tFX12_18 (by decide) pw_1440 rfl dX12_level_98 ?_
                      refine lv_iload_n hx hb dX12_level_101 rfl (lv_at hl 3 rfl) ?_
                      refine r_ldi (f := ((updA (updA X2 19 yt368) 20 yr369) 10)) (j := r2) hx hb hE hP 10 (ma_10 G a _) rfl (by omega) (by decide) dX12_level_102 ?_
                      obtain ⟨t390, h391, e392⟩ := Frs.first (n := r2) hf387 (by omega) (by omega)
                      refine lv_topi (fun x393 e394 => ?_)
                      obtain rfl : x393 = nI t390 := e394.trans e392
                      refine lv_iload hx hb dX12_level_103 (lv_at hl 1 rfl) ?_
                      refine lv_iload_n hx hb dX12_level_105 rfl (lv_at hl 3 rfl) ?_
                      refine lv_iload hx hb dX12_level_106 (lv_at hl 0 rfl) ?_
                      have hP : va_P G.1 pCl (mW G h0 a (upd (upd (upd (upd (upd (upd (upd (upd F 15 0) 16 pl365) 27 (nI nd2)) 31 (nI wr366)) 64 (nI at363)) 65 (nI ne)) 66 (nI (lk2 + 1))) 27 (nI nd2)) (updA (updA (updA X2 19 yt368) 20 yr369) 2 K)) _ := mW_to (F := F) (l1 := [(15, 0), (16, pl365), (27, (nI nd2)), (31, (nI wr366)), (64, (nI at363)), (65, (nI ne)), (66, (nI (lk2 + 1)))]) (l2 := [(15, 0), (16, pl365), (27, (nI nd2)), (31, (nI wr366)), (64, (nI at363)), (65, (nI ne)), (66, (nI (lk2 + 1))), (27, (nI nd2))]) (V := [0, pl365, (nI nd2), (nI wr366), (nI at363), (nI ne), (nI (lk2 + 1)), 0, pl365, (nI nd2), (nI wr366), (nI at363), (nI ne), (nI (lk2 + 1)), (nI nd2)]) rfl rfl rfl hP
                      have hD : va_D A (mW G h0 a (upd (upd (upd (upd (upd (upd (upd (upd F 15 0) 16 pl365) 27 (nI nd2)) 31 (nI wr366)) 64 (nI at363)) 65 (nI ne)) 66 (nI (lk2 + 1))) 27 (nI nd2)) (updA (updA (updA X2 19 yt368) 20 yr369) 2 K)) := mW_D hD
                      refine pc_V0 (G := G) (As := [.int 22, .int (nI t390), .int (nI at2), .int (nI r2), .int (nI r367)]) (rest := []) hx hb hml hown hq hE hX pX0_al hP hD hS hA hl.1 (R_nodeB l G h0 a (upd (upd (upd (upd (upd (upd (upd F 15 0) 16 pl365) 27 (nI nd2)) 31 (nI wr366)) 64 (nI at363)) 65 (nI ne)) 66 (nI (lk2 + 1))) (updA (updA X2 19 yt368) 20 yr369) 22 (nI t390) (nI at2) (nI r2) (nI r367) nd2 K (by omega)) (gV pw_1650 pw_1651 pw_1652 pw_1523 pw_1589) hV_X12_node 0 9 rfl rfl rfl rfl (Nat.le_of_ble_eq_true rfl) dX12_level_108 ⟨Nat.le_of_ble_eq_true rfl, Nat.le_of_ble_eq_true rfl⟩ ⟨(by show 2 + 1 ≤ (20 * n + (26 - lv)); omega), (by show 8 + (7 + 11) + 60 ≤ (1000 * n + 40 * (26 - lv)); omega)⟩ (fun v397 u395 H locs hw396 hP hD hS => ?_)
                      obtain ⟨X398, rfl⟩ : ∃ z, z = u395 := ⟨_, rfl⟩
                      obtain ⟨hw396, h399⟩ := hw396
                      have h399 : NewN (updA (updA X2 19 yt368) 20 yr369) X398 nd2 22 (nI t390) (nI at2) (nI r2) (nI r367) := h399
                      obtain rfl : v397 = some (.int (nI nd2)) := hw396
                      have hP : va_P G.1 pCl (mW G h0 a (upd (upd (upd (upd (upd (upd (upd F 15 0) 16 pl365) 27 (nI (nd2 + 1))) 31 (nI wr366)) 64 (nI at363)) 65 (nI ne)) 66 (nI (lk2 + 1))) (updA X398 2 K)) _ := mW_to (F := F) (l1 := [(15, 0), (16, pl365), (27, (nI nd2)), (31, (nI wr366)), (64, (nI at363)), (65, (nI ne)), (66, (nI (lk2 + 1))), (27, (nI (nd2 + 1)))]) (l2 := [(15, 0), (16, pl365), (27, (nI (nd2 + 1))), (31, (nI wr366)), (64, (nI at363)), (65, (nI ne)), (66, (nI (lk2 + 1)))]) (V := [0, pl365, (nI (nd2 + 1)), (nI wr366), (nI at363), (nI ne), (nI (lk2 + 1)), (nI (nd2 + 1)), 0, pl365, (nI (nd2 + 1)), (nI wr366), (nI at363), (nI ne), (nI (lk2 + 1))]) rfl rfl rfl hP
                      have hD : va_D A (mW G h0 a (upd (upd (upd (upd (upd (upd (upd F 15 0) 16 pl365) 27 (nI (nd2 + 1))) 31 (nI wr366)) 64 (nI at363)) 65 (nI ne)) 66 (nI (lk2 + 1))) (updA X398 2 K)) := mW_D hD
                      refine W.widen (k := 0) (n := 0) (Nat.le_of_ble_eq_true rfl) (Nat.le_of_ble_eq_true rfl) ?_
                      refine W.eq (g2 := F0 m 111 ls [.int (nI nd2)]) rfl ?_
                      have hkp400 : Kp B X398 wr366 T := (Kp.new hkp384 h399)
                      have hlo401 : Low B X398 nd wr := (Low.new hlo386 h399 (by omega))
                      have hc402 : kcl 1 (X398 9 r2) = true := by rw [h399.2.1 9 r2 (by omega)]; exact hc388
                      have hf403 : Frs K T wr366 X398 nd (nd2 + 1) nd2 [(nd2, (210 + (lk2 + 1) - (10 * ne + lk)))] := (Frs.new1 (k := 22) hf387 (by omega) (by omega) (by omega) h399 rfl rfl (by decide) (by decide) (by omega) (by omega) (by decide) (by simp) ⟨by decide, by decide, by decide, by decide⟩ hc388 ⟨fun _ => ⟨r367, rfl, by omega⟩, fun e => absurd e (by decide), fun e => absurd (by decide) e⟩ (newOK.m1 (by decide)) (newOK.m1 (by decide)) (by omega))
                      have hn404 : Nd X398 nd2 22 (nI r2) (nI r367) (-1) (-1) := (NewN.toNd h399)
                      have hf405 : Frs K T wr366 X398 nd (nd2 + 1) 20000 [(nd2, (210 + (lk2 + 1) - (10 * ne + lk)))] := (Frs.fin (k := 22) hf403 hn404 rfl (by decide) (fun _ => nI_m1 (by omega)) (fun h => absurd h (by decide)) (fun h => absurd h (by decide)) (fun h => absurd h (by decide)))
                      refine lv_istore_n (lv' := [(2, .int (nI nd2)), (5, .int (nI r367)), (4, .int (nI at2)), (3, .int (K at2)), (1, .int (nI lv)), (0, .ref h0)]) hx hb dX12_level_111 rfl hl (by decide) rfl (fun ls hl => ?_)
                      refine lv_goto (tgt := 166) hx hb dX12_level_112 (by decide) ?_
                      refine lv_goto (tgt := 19) hx hb dX12_level_166 (by decide) ?_
                      have hP : va_P G.1 pCl (mW G h0 a (upd (upd (upd (upd (upd (upd (upd F 15 0) 16 pl365) 27 (nI (nd2 + 1))) 31 (nI wr366)) 64 (nI at363)) 65 (nI ne)) 66 (nI (lk2 + 1))) (updA X398 2 K)) _ := hP
                      have hD : va_D A (mW G h0 a (upd (upd (upd (upd (upd (upd (upd F 15 0) 16 pl365) 27 (nI (nd2 + 1))) 31 (nI wr366)) 64 (nI at363)) 65 (nI ne)) 66 (nI (lk2 + 1))) (updA X398 2 K)) := mW_D hD
                      exact ih_o at363 (nd2 + 1) wr366 (lk2 + 1) pl365 X398 nd2 _ _ _ (by omega) (by omega) (by omega) (by omega) (by omega) (by omega) (by omega) (by omega) (by omega) (by omega) hkp400 hlo401 (by omega) (Frs.up hf405 (by omega)) (by rw [hn404.1]; decide) hP hD hS (lv_sub hl [0, 4, 5] rfl)
                    · refine lv_bipush (v := 21) hx hb dX12_level_90 (by decide) ?_
                      refine lv_goto (tgt := 97) hx hb dX12_level_92 (by decide) ?_
                      refine lv_aload_n hx hb dX12_level_97 rfl (lv_at hl 5 rfl) ?_
                      refine r_get (v := .ref (a 10)) hx hb hown hq hE hP 18 41 tFX12_18 (by decide) pw_1440 rfl dX12_level_98 ?_
                      refine lv_iload_n hx hb dX12_level_101 rfl (lv_at hl 3 rfl) ?_
                      refine r_ldi (f := ((updA (updA X2 19 yt368) 20 yr369) 10)) (j := r2) hx hb hE hP 10 (ma_10 G a _) rfl (by omega) (by decide) dX12_level_102 ?_
                      obtain ⟨t406, h407, e408⟩ := Frs.first (n := r2) hf387 (by omega) (by omega)
                      refine lv_topi (fun x409 e410 => ?_)
                      obtain rfl : x409 = nI t406 := e410.trans e408
                      refine lv_iload hx hb dX12_level_103 (lv_at hl 1 rfl) ?_
                      refine lv_iload_n hx hb dX12_level_105 rfl (lv_at hl 3 rfl) ?_
                      refine lv_iload hx hb dX12_level_106 (lv_at hl 0 rfl) ?_
                      have hP : va_P G.1 pCl (mW G h0 a (upd (upd (upd (upd (upd (upd (upd (upd F 15 0) 16 pl365) 27 (nI nd2)) 31 (nI wr366)) 64 (nI at363)) 65 (nI ne)) 66 (nI (lk2 + 1))) 27 (nI nd2)) (updA (updA (updA X2 19 yt368) 20 yr369) 2 K)) _ := mW_to (F := F) (l1 := [(15, 0), (16, pl365), (27, (nI nd2)), (31, (nI wr366)), (64, (nI at363)), (65, (nI ne)), (66, (nI (lk2 + 1)))]) (l2 := [(15, 0), (16, pl365), (27, (nI nd2)), (31, (nI wr366)), (64, (nI at363)), (65, (nI ne)), (66, (nI (lk2 + 1))), (27, (nI nd2))]) (V := [0, pl365, (nI nd2), (nI wr366), (nI at363), (nI ne), (nI (lk2 + 1)), 0, pl365, (nI nd2), (nI wr366), (nI at363), (nI ne), (nI (lk2 + 1)), (nI nd2)]) rfl rfl rfl hP
                      have hD : va_D A (mW G h0 a (upd (upd (upd (upd (upd (upd (upd (upd F 15 0) 16 pl365) 27 (nI nd2)) 31 (nI wr366)) 64 (nI at363)) 65 (nI ne)) 66 (nI (lk2 + 1))) 27 (nI nd2)) (updA (updA (updA X2 19 yt368) 20 yr369) 2 K)) := mW_D hD
                      refine pc_V0 (G := G) (As := [.int 21, .int (nI t406), .int (nI at2), .int (nI r2), .int (nI r367)]) (rest := []) hx hb hml hown hq hE hX pX0_al hP hD hS hA hl.1 (R_nodeB l G h0 a (upd (upd (upd (upd (upd (upd (upd F 15 0) 16 pl365) 27 (nI nd2)) 31 (nI wr366)) 64 (nI at363)) 65 (nI ne)) 66 (nI (lk2 + 1))) (updA (updA X2 19 yt368) 20 yr369) 21 (nI t406) (nI at2) (nI r2) (nI r367) nd2 K (by omega)) (gV pw_1650 pw_1651 pw_1652 pw_1523 pw_1589) hV_X12_node 0 9 rfl rfl rfl rfl (Nat.le_of_ble_eq_true rfl) dX12_level_108 ⟨Nat.le_of_ble_eq_true rfl, Nat.le_of_ble_eq_true rfl⟩ ⟨(by show 2 + 1 ≤ (20 * n + (26 - lv)); omega), (by show 8 + (7 + 11) + 60 ≤ (1000 * n + 40 * (26 - lv)); omega)⟩ (fun v413 u411 H locs hw412 hP hD hS => ?_)
                      obtain ⟨X414, rfl⟩ : ∃ z, z = u411 := ⟨_, rfl⟩
                      obtain ⟨hw412, h415⟩ := hw412
                      have h415 : NewN (updA (updA X2 19 yt368) 20 yr369) X414 nd2 21 (nI t406) (nI at2) (nI r2) (nI r367) := h415
                      obtain rfl : v413 = some (.int (nI nd2)) := hw412
                      have hP : va_P G.1 pCl (mW G h0 a (upd (upd (upd (upd (upd (upd (upd F 15 0) 16 pl365) 27 (nI (nd2 + 1))) 31 (nI wr366)) 64 (nI at363)) 65 (nI ne)) 66 (nI (lk2 + 1))) (updA X414 2 K)) _ := mW_to (F := F) (l1 := [(15, 0), (16, pl365), (27, (nI nd2)), (31, (nI wr366)), (64, (nI at363)), (65, (nI ne)), (66, (nI (lk2 + 1))), (27, (nI (nd2 + 1)))]) (l2 := [(15, 0), (16, pl365), (27, (nI (nd2 + 1))), (31, (nI wr366)), (64, (nI at363)), (65, (nI ne)), (66, (nI (lk2 + 1)))]) (V := [0, pl365, (nI (nd2 + 1)), (nI wr366), (nI at363), (nI ne), (nI (lk2 + 1)), (nI (nd2 + 1)), 0, pl365, (nI (nd2 + 1)), (nI wr366), (nI at363), (nI ne), (nI (lk2 + 1))]) rfl rfl rfl hP
                      have hD : va_D A (mW G h0 a (upd (upd (upd (upd (upd (upd (upd F 15 0) 16 pl365) 27 (nI (nd2 + 1))) 31 (nI wr366)) 64 (nI at363)) 65 (nI ne)) 66 (nI (lk2 + 1))) (updA X414 2 K)) := mW_D hD
                      refine W.widen (k := 0) (n := 0) (Nat.le_of_ble_eq_true rfl) (Nat.le_of_ble_eq_true rfl) ?_
                      refine W.eq (g2 := F0 m 111 ls [.int (nI nd2)]) rfl ?_
                      have hkp416 : Kp B X414 wr366 T := (Kp.new hkp384 h415)
                      have hlo417 : Low B X414 nd wr := (Low.new hlo386 h415 (by omega))
                      have hc418 : kcl 1 (X414 9 r2) = true := by rw [h415.2.1 9 r2 (by omega)]; exact hc388
                      have hf419 : Frs K T wr366 X414 nd (nd2 + 1) nd2 [(nd2, (210 + (lk2 + 1) - (10 * ne + lk)))] := (Frs.new1 (k := 21) hf387 (by omega) (by omega) (by omega) h415 rfl rfl (by decide) (by decide) (by omega) (by omega) (by decide) (by simp) ⟨by decide, by decide, by decide, by decide⟩ hc388 ⟨fun _ => ⟨r367, rfl, by omega⟩, fun e => absurd e (by decide), fun e => absurd (by decide) e⟩ (newOK.m1 (by decide)) (newOK.m1 (by decide)) (by omega))
                      have hn420 : Nd X414 nd2 21 (nI r2) (nI r367) (-1) (-1) := (NewN.toNd h415)
                      have hf421 : Frs K T wr366 X414 nd (nd2 + 1) 20000 [(nd2, (210 + (lk2 + 1) - (10 * ne + lk)))] := (Frs.fin (k := 21) hf419 hn420 rfl (by decide) (fun _ => nI_m1 (by omega)) (fun h => absurd h (by decide)) (fun h => absurd h (by decide)) (fun h => absurd h (by decide)))
                      refine lv_istore_n (lv' := [(2, .int (nI nd2)), (5, .int (nI r367)), (4, .int (nI at2)), (3, .int (K at2)), (1, .int (nI lv)), (0, .ref h0)]) hx hb dX12_level_111 rfl hl (by decide) rfl (fun ls hl => ?_)
                      refine lv_goto (tgt := 166) hx hb dX12_level_112 (by decide) ?_
                      refine lv_goto (tgt := 19) hx hb dX12_level_166 (by decide) ?_
                      have hP : va_P G.1 pCl (mW G h0 a (upd (upd (upd (upd (upd (upd (upd F 15 0) 16 pl365) 27 (nI (nd2 + 1))) 31 (nI wr366)) 64 (nI at363)) 65 (nI ne)) 66 (nI (lk2 + 1))) (updA X414 2 K)) _ := hP
                      have hD : va_D A (mW G h0 a (upd (upd (upd (upd (upd (upd (upd F 15 0) 16 pl365) 27 (nI (nd2 + 1))) 31 (nI wr366)) 64 (nI at363)) 65 (nI ne)) 66 (nI (lk2 + 1))) (updA X414 2 K)) := mW_D hD
                      exact ih_o at363 (nd2 + 1) wr366 (lk2 + 1) pl365 X414 nd2 _ _ _ (by omega) (by omega) (by omega) (by omega) (by omega) (by omega) (by omega) (by omega) (by omega) (by omega) hkp416 hlo417 (by omega) (Frs.up hf421 (by omega)) (by rw [hn420.1]; decide) hP hD hS (lv_sub hl [0, 4, 5] rfl)
                  · have e385 := e385
                    refine lv_istore (lv' := [(5, .int (nI r367)), (4, .int (nI at2)), (3, .int (K at2)), (2, .int (nI r2)), (1, .int (nI lv)), (0, .ref h0)]) hx hb dX12_level_80 hl (by decide) rfl (fun ls hl => ?_)
                    refine lv_aload_n hx hb dX12_level_82 rfl (lv_at hl 5 rfl) ?_
                    refine lv_iload_n hx hb dX12_level_83 rfl (lv_at hl 2 rfl) ?_
                    refine lv_sipush (v := 325) hx hb dX12_level_84 (by decide) ?_
                    refine lv_icmp_ne (tgt := 95) hx hb dX12_level_87 (by decide) (fun c422 => ?_) (fun c422 => ?_)
                    · refine lv_bipush (v := 22) hx hb dX12_level_95 (by decide) ?_
                      refine lv_aload_n hx hb dX12_level_97 rfl (lv_at hl 5 rfl) ?_
                      refine r_get (v := .ref (a 10)) hx hb hown hq hE hP 18 41 tFX12_18 (by decide) pw_1440 rfl dX12_level_98 ?_
                      refine lv_iload_n hx hb dX12_level_101 rfl (lv_at hl 3 rfl) ?_
                      refine r_ldi (f := ((updA (updA X2 19 yt368) 20 yr369) 10)) (j := r2) hx hb hE hP 10 (ma_10 G a _) rfl (by omega) (by decide) dX12_level_102 ?_
                      refine lv_topi (fun x423 e424 => ?_)
                      refine lv_iload hx hb dX12_level_103 (lv_at hl 1 rfl) ?_
                      refine lv_iload_n hx hb dX12_level_105 rfl (lv_at hl 3 rfl) ?_
                      refine lv_iload hx hb dX12_level_106 (lv_at hl 0 rfl) ?_
                      have hP : va_P G.1 pCl (mW G h0 a (upd (upd (upd (upd (upd (upd (upd (upd F 15 (nI fa364)) 16 pl365) 27 (nI nd2)) 31 (nI wr366)) 64 (nI at363)) 65 (nI ne)) 66 (nI (lk2 + 1))) 27 (nI nd2)) (updA (updA (updA X2 19 yt368) 20 yr369) 2 K)) _ := mW_to (F := F) (l1 := [(15, (nI fa364)), (16, pl365), (27, (nI nd2)), (31, (nI wr366)), (64, (nI at363)), (65, (nI ne)), (66, (nI (lk2 + 1)))]) (l2 := [(15, (nI fa364)), (16, pl365), (27, (nI nd2)), (31, (nI wr366)), (64, (nI at363)), (65, (nI ne)), (66, (nI (lk2 + 1))), (27, (nI nd2))]) (V := [(nI fa364), pl365, (nI nd2), (nI wr366), (nI at363), (nI ne), (nI (lk2 + 1)), (nI fa364), pl365, (nI nd2), (nI wr366), (nI at363), (nI ne), (nI (lk2 + 1)), (nI nd2)]) rfl rfl rfl hP
                      have hD : va_D A (mW G h0 a (upd (upd (upd (upd (upd (upd (upd (upd F 15 (nI fa364)) 16 pl365) 27 (nI nd2)) 31 (nI wr366)) 64 (nI at363)) 65 (nI ne)) 66 (nI (lk2 + 1))) 27 (nI nd2)) (updA (updA (updA X2 19 yt368) 20 yr369) 2 K)) := mW_D hD
                      refine pc_V0 (G := G) (As := [.int 22, .int x423, .int (nI at2), .int (nI r2), .int (nI r367)]) (rest := []) hx hb hml hown hq hE hX pX0_al hP hD hS hA hl.1 (R_nodeB l G h0 a (upd (upd (upd (upd (upd (upd (upd F 15 (nI fa364)) 16 pl365) 27 (nI nd2)) 31 (nI wr366)) 64 (nI at363)) 65 (nI ne)) 66 (nI (lk2 + 1))) (updA (updA X2 19 yt368) 20 yr369) 22 x423 (nI at2) (nI r2) (nI r367) nd2 K (by omega)) (gV pw_1650 pw_1651 pw_1652 pw_1523 pw_1589) hV_X12_node 0 9 rfl rfl rfl rfl (Nat.le_of_ble_eq_true rfl) dX12_level_108 ⟨Nat.le_of_ble_eq_true rfl, Nat.le_of_ble_eq_true rfl⟩ ⟨(by show 2 + 1 ≤ (20 * n + (26 - lv)); omega), (by show 8 + (7 + 11) + 60 ≤ (1000 * n + 40 * (26 - lv)); omega)⟩ (fun v427 u425 H locs hw426 hP hD hS => ?_)
                      obtain ⟨X428, rfl⟩ : ∃ z, z = u425 := ⟨_, rfl⟩
                      obtain ⟨hw426, h429⟩ := hw426
                      have h429 : NewN (updA (updA X2 19 yt368) 20 yr369) X428 nd2 22 x423 (nI at2) (nI r2) (nI r367) := h429
                      obtain rfl : v427 = some (.int (nI nd2)) := hw426
                      have hP : va_P G.1 pCl (mW G h0 a (upd (upd (upd (upd (upd (upd (upd F 15 (nI fa364)) 16 pl365) 27 (nI (nd2 + 1))) 31 (nI wr366)) 64 (nI at363)) 65 (nI ne)) 66 (nI (lk2 + 1))) (updA X428 2 K)) _ := mW_to (F := F) (l1 := [(15, (nI fa364)), (16, pl365), (27, (nI nd2)), (31, (nI wr366)), (64, (nI at363)), (65, (nI ne)), (66, (nI (lk2 + 1))), (27, (nI (nd2 + 1)))]) (l2 := [(15, (nI fa364)), (16, pl365), (27, (nI (nd2 + 1))), (31, (nI wr366)), (64, (nI at363)), (65, (nI ne)), (66, (nI (lk2 + 1)))]) (V := [(nI fa364), pl365, (nI (nd2 + 1)), (nI wr366), (nI at363), (nI ne), (nI (lk2 + 1)), (nI (nd2 + 1)), (nI fa364), pl365, (nI (nd2 + 1)), (nI wr366), (nI at363), (nI ne), (nI (lk2 + 1))]) rfl rfl rfl hP
                      have hD : va_D A (mW G h0 a (upd (upd (upd (upd (upd (upd (upd F 15 (nI fa364)) 16 pl365) 27 (nI (nd2 + 1))) 31 (nI wr366)) 64 (nI at363)) 65 (nI ne)) 66 (nI (lk2 + 1))) (updA X428 2 K)) := mW_D hD
                      refine W.widen (k := 0) (n := 0) (Nat.le_of_ble_eq_true rfl) (Nat.le_of_ble_eq_true rfl) ?_
                      refine W.eq (g2 := F0 m 111 ls [.int (nI nd2)]) rfl ?_
                      have hkp430 : Kp B X428 wr366 T := (Kp.new hkp384 h429)
                      refine lv_istore_n (lv' := [(2, .int (nI nd2)), (5, .int (nI r367)), (4, .int (nI at2)), (3, .int (K at2)), (1, .int (nI lv)), (0, .ref h0)]) hx hb dX12_level_111 rfl hl (by decide) rfl (fun ls hl => ?_)
                      refine lv_goto (tgt := 166) hx hb dX12_level_112 (by decide) ?_
                      refine lv_goto (tgt := 19) hx hb dX12_level_166 (by decide) ?_
                      refine lv_aload_n hx hb dX12_level_19 rfl (lv_at hl 5 rfl) ?_
                      refine r_get (v := .int (nI fa364)) hx hb hown hq hE hP 15 350 tFX12_15 (by decide) pw_1594 rfl dX12_level_20 ?_
                      refine lv_if_ne (tgt := 169) hx hb dX12_level_23 (by decide) (fun c431 => ?_) (fun c431 => (by have n432 : fa364 = 0 := (nI_eq (a := fa364) (b := 0) (by omega) (by omega)).mp c431; omega))
                      refine lv_iload_n hx hb dX12_level_169 rfl (lv_at hl 0 rfl) ?_
                      have hz433 : at0 ≤ at363 := (by omega)
                      have hz434 : at363 ≤ T := (by omega)
                      have hz435 : fa364 ≤ 100 := (by omega)
                      have hz436 : nd ≤ (nd2 + 1) := (by omega)
                      have hz437 : (nd2 + 1) + 2 * at0 ≤ nd + 2 * at363 + 100000 * fa364 := (by omega)
                      have hz438 : (nd2 + 1) + 2 * at0 ≤ nd + 2 * at363 + 40 * (21 - ne) := (by omega)
                      have hz439 : wr ≤ wr366 := (by omega)
                      have hz440 : wr366 + at0 ≤ wr + at363 := (by omega)
                      have hz441 : lk ≤ (lk2 + 1) := (by omega)
                      have hz442 : (lk2 + 1) ≤ 60 + 100 * fa364 := (by omega)
                      have hz443 : at0 + 1 ≤ at363 + fa364 := (by omega)
                      have hz444 : nd2 ≤ (nd2 + 1) := (by omega)
                      have hz445 : Kp B X428 wr366 T := hkp430
                      have hz446 : If (fa364 = 0) (Low B X428 nd wr ∧ Frs K T wr366 X428 nd (nd2 + 1) 20000 [(nd2, (210 + (lk2 + 1) - (10 * ne + lk)))] ∧ kcl 1 (X428 9 nd2) = true) := (fun e => absurd e (by omega))
                      have hP : va_P G.1 pCl (mW G h0 a (upd (upd (upd (upd (upd (upd (upd F 15 (nI fa364)) 16 pl365) 27 (nI (nd2 + 1))) 31 (nI wr366)) 64 (nI at363)) 65 (nI ne)) 66 (nI (lk2 + 1))) (updA X428 2 K)) _ := hP
                      have hD : va_D A (mW G h0 a (upd (upd (upd (upd (upd (upd (upd F 15 (nI fa364)) 16 pl365) 27 (nI (nd2 + 1))) 31 (nI wr366)) 64 (nI at363)) 65 (nI ne)) 66 (nI (lk2 + 1))) (updA X428 2 K)) := mW_D hD
                      exact W.iret (v := (nI nd2)) hx hb hr (fun t9 ht9 hW9 => ⟨⟨_, (at363, fa364, pl365, (nd2 + 1), (lk2 + 1), wr366, nd2, X428), rfl, ⟨rfl, hz433, hz434, hz435, hz436, hz437, hz438, hz439, hz440, hz441, hz442, hz443, hz444, hz445, hz446⟩, by rw [ht9]; exact hP, hD⟩, hS.F ht9⟩) hS.2.2 dX12_level_170
                    · refine lv_bipush (v := 21) hx hb dX12_level_90 (by decide) ?_
                      refine lv_goto (tgt := 97) hx hb dX12_level_92 (by decide) ?_
                      refine lv_aload_n hx hb dX12_level_97 rfl (lv_at hl 5 rfl) ?_
                      refine r_get (v := .ref (a 10)) hx hb hown hq hE hP 18 41 tFX12_18 (by decide) pw_1440 rfl dX12_level_98 ?_
                      refine lv_iload_n hx hb dX12_level_101 rfl (lv_at hl 3 rfl) ?_
                      refine r_ldi (f := ((updA (updA X2 19 yt368) 20 yr369) 10)) (j := r2) hx hb hE hP 10 (ma_10 G a _) rfl (by omega) (by decide) dX12_level_102 ?_
                      refine lv_topi (fun x447 e448 => ?_)
                      refine lv_iload hx hb dX12_level_103 (lv_at hl 1 rfl) ?_
                      refine lv_iload_n hx hb dX12_level_105 rfl (lv_at hl 3 rfl) ?_
                      refine lv_iload hx hb dX12_level_106 (lv_at hl 0 rfl) ?_
                      have hP : va_P G.1 pCl (mW G h0 a (upd (upd (upd (upd (upd (upd (upd (upd F 15 (nI fa364)) 16 pl365) 27 (nI nd2)) 31 (nI wr366)) 64 (nI at363)) 65 (nI ne)) 66 (nI (lk2 + 1))) 27 (nI nd2)) (updA (updA (updA X2 19 yt368) 20 yr369) 2 K)) _ := mW_to (F := F) (l1 := [(15, (nI fa364)), (16, pl365), (27, (nI nd2)), (31, (nI wr366)), (64, (nI at363)), (65, (nI ne)), (66, (nI (lk2 + 1)))]) (l2 := [(15, (nI fa364)), (16, pl365), (27, (nI nd2)), (31, (nI wr366)), (64, (nI at363)), (65, (nI ne)), (66, (nI (lk2 + 1))), (27, (nI nd2))]) (V := [(nI fa364), pl365, (nI nd2), (nI wr366), (nI at363), (nI ne), (nI (lk2 + 1)), (nI fa364), pl365, (nI nd2), (nI wr366), (nI at363), (nI ne), (nI (lk2 + 1)), (nI nd2)]) rfl rfl rfl hP
                      have hD : va_D A (mW G h0 a (upd (upd (upd (upd (upd (upd (upd (upd F 15 (nI fa364)) 16 pl365) 27 (nI nd2)) 31 (nI wr366)) 64 (nI at363)) 65 (nI ne)) 66 (nI (lk2 + 1))) 27 (nI nd2)) (updA (updA (updA X2 19 yt368) 20 yr369) 2 K)) := mW_D hD
                      refine pc_V0 (G := G) (As := [.int 21, .int x447, .int (nI at2), .int (nI r2), .int (nI r367)]) (rest := []) hx hb hml hown hq hE hX pX0_al hP hD hS hA hl.1 (R_nodeB l G h0 a (upd (upd (upd (upd (upd (upd (upd F 15 (nI fa364)) 16 pl365) 27 (nI nd2)) 31 (nI wr366)) 64 (nI at363)) 65 (nI ne)) 66 (nI (lk2 + 1))) (updA (updA X2 19 yt368) 20 yr369) 21 x447 (nI at2) (nI r2) (nI r367) nd2 K (by omega)) (gV pw_1650 pw_1651 pw_1652 pw_1523 pw_1589) hV_X12_node 0 9 rfl rfl rfl rfl (Nat.le_of_ble_eq_true rfl) dX12_level_108 ⟨Nat.le_of_ble_eq_true rfl, Nat.le_of_ble_eq_true rfl⟩ ⟨(by show 2 + 1 ≤ (20 * n + (26 - lv)); omega), (by show 8 + (7 + 11) + 60 ≤ (1000 * n + 40 * (26 - lv)); omega)⟩ (fun v451 u449 H locs hw450 hP hD hS => ?_)
                      obtain ⟨X452, rfl⟩ : ∃ z, z = u449 := ⟨_, rfl⟩
                      obtain ⟨hw450, h453⟩ := hw450
                      have h453 : NewN (updA (updA X2 19 yt368) 20 yr369) X452 nd2 21 x447 (nI at2) (nI r2) (nI r367) := h453
                      obtain rfl : v451 = some (.int (nI nd2)) := hw450
                      have hP : va_P G.1 pCl (mW G h0 a (upd (upd (upd (upd (upd (upd (upd F 15 (nI fa364)) 16 pl365) 27 (nI (nd2 + 1))) 31 (nI wr366)) 64 (nI at363)) 65 (nI ne)) 66 (nI (lk2 + 1))) (updA X452 2 K)) _ := mW_to (F := F) (l1 := [(15, (nI fa364)), (16, pl365), (27, (nI nd2)), (31, (nI wr366)), (64, (nI at363)), (65, (nI ne)), (66, (nI (lk2 + 1))), (27, (nI (nd2 + 1)))]) (l2 := [(15, (nI fa364)), (16, pl365), (27, (nI (nd2 + 1))), (31, (nI wr366)), (64, (nI at363)), (65, (nI ne)), (66, (nI (lk2 + 1)))]) (V := [(nI fa364), pl365, (nI (nd2 + 1)), (nI wr366), (nI at363), (nI ne), (nI (lk2 + 1)), (nI (nd2 + 1)), (nI fa364), pl365, (nI (nd2 + 1)), (nI wr366), (nI at363), (nI ne), (nI (lk2 + 1))]) rfl rfl rfl hP
                      have hD : va_D A (mW G h0 a (upd (upd (upd (upd (upd (upd (upd F 15 (nI fa364)) 16 pl365) 27 (nI (nd2 + 1))) 31 (nI wr366)) 64 (nI at363)) 65 (nI ne)) 66 (nI (lk2 + 1))) (updA X452 2 K)) := mW_D hD
                      refine W.widen (k := 0) (n := 0) (Nat.le_of_ble_eq_true rfl) (Nat.le_of_ble_eq_true rfl) ?_
                      refine W.eq (g2 := F0 m 111 ls [.int (nI nd2)]) rfl ?_
                      have hkp454 : Kp B X452 wr366 T := (Kp.new hkp384 h453)
                      refine lv_istore_n (lv' := [(2, .int (nI nd2)), (5, .int (nI r367)), (4, .int (nI at2)), (3, .int (K at2)), (1, .int (nI lv)), (0, .ref h0)]) hx hb dX12_level_111 rfl hl (by decide) rfl (fun ls hl => ?_)
                      refine lv_goto (tgt := 166) hx hb dX12_level_112 (by decide) ?_
                      refine lv_goto (tgt := 19) hx hb dX12_level_166 (by decide) ?_
                      refine lv_aload_n hx hb dX12_level_19 rfl (lv_at hl 5 rfl) ?_
                      refine r_get (v := .int (nI fa364)) hx hb hown hq hE hP 15 350 tFX12_15 (by decide) pw_1594 rfl dX12_level_20 ?_
                      refine lv_if_ne (tgt := 169) hx hb dX12_level_23 (by decide) (fun c455 => ?_) (fun c455 => (by have n456 : fa364 = 0 := (nI_eq (a := fa364) (b := 0) (by omega) (by omega)).mp c455; omega))
                      refine lv_iload_n hx hb dX12_level_169 rfl (lv_at hl 0 rfl) ?_
                      have hz457 : at0 ≤ at363 := (by omega)
                      have hz458 : at363 ≤ T := (by omega)
                      have hz459 : fa364 ≤ 100 := (by omega)
                      have hz460 : nd ≤ (nd2 + 1) := (by omega)
                      have hz461 : (nd2 + 1) + 2 * at0 ≤ nd + 2 * at363 + 100000 * fa364 := (by omega)
                      have hz462 : (nd2 + 1) + 2 * at0 ≤ nd + 2 * at363 + 40 * (21 - ne) := (by omega)
                      have hz463 : wr ≤ wr366 := (by omega)
                      have hz464 : wr366 + at0 ≤ wr + at363 := (by omega)
                      have hz465 : lk ≤ (lk2 + 1) := (by omega)
                      have hz466 : (lk2 + 1) ≤ 60 + 100 * fa364 := (by omega)
                      have hz467 : at0 + 1 ≤ at363 + fa364 := (by omega)
                      have hz468 : nd2 ≤ (nd2 + 1) := (by omega)
                      have hz469 : Kp B X452 wr366 T := hkp454
                      have hz470 : If (fa364 = 0) (Low B X452 nd wr ∧ Frs K T wr366 X452 nd (nd2 + 1) 20000 [(nd2, (210 + (lk2 + 1) - (10 * ne + lk)))] ∧ kcl 1 (X452 9 nd2) = true) := (fun e => absurd e (by omega))
                      have hP : va_P G.1 pCl (mW G h0 a (upd (upd (upd (upd (upd (upd (upd F 15 (nI fa364)) 16 pl365) 27 (nI (nd2 + 1))) 31 (nI wr366)) 64 (nI at363)) 65 (nI ne)) 66 (nI (lk2 + 1))) (updA X452 2 K)) _ := hP
                      have hD : va_D A (mW G h0 a (upd (upd (upd (upd (upd (upd (upd F 15 (nI fa364)) 16 pl365) 27 (nI (nd2 + 1))) 31 (nI wr366)) 64 (nI at363)) 65 (nI ne)) 66 (nI (lk2 + 1))) (updA X452 2 K)) := mW_D hD
                      exact W.iret (v := (nI nd2)) hx hb hr (fun t9 ht9 hW9 => ⟨⟨_, (at363, fa364, pl365, (nd2 + 1), (lk2 + 1), wr366, nd2, X452), rfl, ⟨rfl, hz457, hz458, hz459, hz460, hz461, hz462, hz463, hz464, hz465, hz466, hz467, hz468, hz469, hz470⟩, by rw [ht9]; exact hP, hD⟩, hS.F ht9⟩) hS.2.2 dX12_level_170
            · have e77 := e77
              refine lv_aload_n hx hb dX12_level_52 rfl (lv_at hl 4 rfl) ?_
              refine lv_dup hx hb dX12_level_53 rfl ?_
              refine r_get (v := .int (nI at2)) hx hb hown hq hE hP 64 343 tFX12_64 (by decide) pw_1592 rfl dX12_level_54 ?_
              refine lv_iconst (v := 1) hx hb dX12_level_57 (by decide) ?_
              refine lv_iadd hx hb dX12_level_58 ?_
              refine lv_topi (fun x471 e472 => ?_)
              obtain rfl : x471 = nI (at2 + 1) := e472.trans (nI_add (at2) (1))
              refine r_put (v := (nI (at2 + 1))) (ty := .int) hx hb hown hq hE hP hD hS 64 343 tFX12_64 (by decide) pw_1592 (by decide) rfl rfl (ms_64 a _ _) dX12_level_59 (fun H locs hP hD hS => ?_)
              refine lv_iload_n hx hb dX12_level_62 rfl (lv_at hl 1 rfl) ?_
              refine lv_sipush (v := 325) hx hb dX12_level_63 (by decide) ?_
              refine lv_icmp_eq (tgt := 76) hx hb dX12_level_66 (by decide) (fun c473 => ?_) (fun c473 => ?_)
              · refine lv_aload_n hx hb dX12_level_76 rfl (lv_at hl 4 rfl) ?_
                have hP : va_P G.1 pCl (mW G h0 a (upd (upd (upd (upd (upd (upd (upd (upd (upd (upd F 15 (nI fa71)) 16 pl72) 27 (nI nd2)) 31 (nI wr2)) 64 (nI (at2 + 1))) 65 (nI ne)) 66 (nI (lk2 + 1))) 15 (nI fa71)) 31 (nI wr2)) 64 (nI (at2 + 1))) (updA (updA (updA X2 2 K) 2 K) 19 (X2 19))) _ := mW_to (F := F) (l1 := [(15, (nI fa71)), (16, pl72), (27, (nI nd2)), (31, (nI wr2)), (64, (nI at2)), (65, (nI ne)), (66, (nI (lk2 + 1))), (64, (nI (at2 + 1)))]) (l2 := [(15, (nI fa71)), (16, pl72), (27, (nI nd2)), (31, (nI wr2)), (64, (nI (at2 + 1))), (65, (nI ne)), (66, (nI (lk2 + 1))), (15, (nI fa71)), (31, (nI wr2)), (64, (nI (at2 + 1)))]) (V := [(nI fa71), pl72, (nI nd2), (nI wr2), (nI (at2 + 1)), (nI ne), (nI (lk2 + 1)), (nI (at2 + 1)), (nI fa71), pl72, (nI nd2), (nI wr2), (nI (at2 + 1)), (nI ne), (nI (lk2 + 1)), (nI fa71), (nI wr2), (nI (at2 + 1))]) rfl rfl (show (updA X2 2 K) = (updA (updA (updA X2 2 K) 2 K) 19 (X2 19)) from updsA_eq2 (F := X2) (l1 := [(2, K)]) (l2 := [(2, K), (2, K), (19, (X2 19))]) (V := [K, K, K, (X2 19)]) rfl rfl) hP
                have hD : va_D A (mW G h0 a (upd (upd (upd (upd (upd (upd (upd (upd (upd (upd F 15 (nI fa71)) 16 pl72) 27 (nI nd2)) 31 (nI wr2)) 64 (nI (at2 + 1))) 65 (nI ne)) 66 (nI (lk2 + 1))) 15 (nI fa71)) 31 (nI wr2)) 64 (nI (at2 + 1))) (updA (updA (updA X2 2 K) 2 K) 19 (X2 19))) := mW_D hD
                refine pc_V0 (G := G) (As := []) (rest := []) hx hb hml hown hq hE hX pX0_al hP hD hS hA hl.1 (R_typeHere l G h0 a (upd (upd (upd (upd (upd (upd (upd F 15 (nI fa71)) 16 pl72) 27 (nI nd2)) 31 (nI wr2)) 64 (nI (at2 + 1))) 65 (nI ne)) 66 (nI (lk2 + 1))) (updA X2 2 K) (at2 + 1) T fa71 K wr2 (X2 19) (by omega) (by omega) hK (by omega) (by omega) (hkp2).2) (gV pw_1670 pw_1671 pw_1672 pw_1523 pw_1633) hV_X12_typeHere 0 9 rfl rfl rfl rfl (Nat.le_of_ble_eq_true rfl) dX12_level_77 ⟨Nat.le_of_ble_eq_true rfl, Nat.le_of_ble_eq_true rfl⟩ ⟨(by show 5 + 1 ≤ (20 * n + (26 - lv)); omega), (by show 8 + (2 + 11) + 124 ≤ (1000 * n + 40 * (26 - lv)); omega)⟩ (fun v476 u474 H locs hw475 hP hD hS => ?_)
                obtain ⟨at477, fa478, pl479, wr480, r481, yt482, yr483⟩ := u474
                obtain ⟨hw475, h484, h485, h486, h487, h488, h489, h490, h491, h492, h493, h494, h495, h496, h497⟩ := hw475
                have h484 : (at2 + 1) ≤ at477 := h484
                have h485 : at477 ≤ T := h485
                have h486 : fa71 ≤ fa478 := h486
                have h487 : fa478 ≤ 100 := h487
                have h488 : If (0 < fa71) (at477 = (at2 + 1) ∧ fa478 = fa71) := h488
                have h489 : wr2 ≤ wr480 := h489
                have h490 : wr480 + (at2 + 1) ≤ wr2 + at477 := h490
                have h491 : If (0 < fa71) (wr480 = wr2) := h491
                have h492 : r481 + 1 ≤ wr480 + 6000 * fa478 := h492
                have h493 : (at2 + 1) + 1 ≤ at477 + fa478 := h493
                have h494 : tkRow yt482 wr480 T := h494
                have h495 : ∀ i : Nat, i < wr2 → yt482 i = (X2 19) i := h495
                have h496 : ∀ i : Nat, i < wr2 → yr483 i = (X2 20) i := h496
                have h497 : r481 ≤ wr2 := h497
                obtain rfl : v476 = some (.int (nI r481)) := hw475
                have hP : va_P G.1 pCl (mW G h0 a (upd (upd (upd (upd (upd (upd (upd F 15 (nI fa478)) 16 pl479) 27 (nI nd2)) 31 (nI wr480)) 64 (nI at477)) 65 (nI ne)) 66 (nI (lk2 + 1))) (updA (updA (updA X2 2 K) 19 yt482) 20 yr483)) _ := mW_to (F := F) (l1 := [(15, (nI fa71)), (16, pl72), (27, (nI nd2)), (31, (nI wr2)), (64, (nI (at2 + 1))), (65, (nI ne)), (66, (nI (lk2 + 1))), (15, (nI fa478)), (16, pl479), (31, (nI wr480)), (64, (nI at477))]) (l2 := [(15, (nI fa478)), (16, pl479), (27, (nI nd2)), (31, (nI wr480)), (64, (nI at477)), (65, (nI ne)), (66, (nI (lk2 + 1)))]) (V := [(nI fa478), pl479, (nI nd2), (nI wr480), (nI at477), (nI ne), (nI (lk2 + 1)), (nI fa478), pl479, (nI wr480), (nI at477), (nI fa478), pl479, (nI nd2), (nI wr480), (nI at477), (nI ne), (nI (lk2 + 1))]) rfl rfl (show (updA (updA (updA (updA X2 2 K) 2 K) 19 yt482) 20 yr483) = (updA (updA (updA X2 2 K) 19 yt482) 20 yr483) from updsA_eq2 (F := X2) (l1 := [(2, K), (2, K), (19, yt482), (20, yr483)]) (l2 := [(2, K), (19, yt482), (20, yr483)]) (V := [K, K, yt482, yr483, K, yt482, yr483]) rfl rfl) hP
                have hD : va_D A (mW G h0 a (upd (upd (upd (upd (upd (upd (upd F 15 (nI fa478)) 16 pl479) 27 (nI nd2)) 31 (nI wr480)) 64 (nI at477)) 65 (nI ne)) 66 (nI (lk2 + 1))) (updA (updA (updA X2 2 K) 19 yt482) 20 yr483)) := mW_D hD
                refine W.widen (k := 0) (n := 0) (Nat.le_of_ble_eq_true rfl) (Nat.le_of_ble_eq_true rfl) ?_
                refine W.eq (g2 := F0 m 80 ls [.int (nI r481)]) rfl ?_
                have hP : va_P G.1 pCl (mW G h0 a (upd (upd (upd (upd (upd (upd (upd F 15 (nI fa478)) 16 pl479) 27 (nI nd2)) 31 (nI wr480)) 64 (nI at477)) 65 (nI ne)) 66 (nI (lk2 + 1))) (updA (updA (updA X2 19 yt482) 20 yr483) 2 K)) _ := mW_to (F := F) (l1 := [(15, (nI fa478)), (16, pl479), (27, (nI nd2)), (31, (nI wr480)), (64, (nI at477)), (65, (nI ne)), (66, (nI (lk2 + 1)))]) (l2 := [(15, (nI fa478)), (16, pl479), (27, (nI nd2)), (31, (nI wr480)), (64, (nI at477)), (65, (nI ne)), (66, (nI (lk2 + 1)))]) (V := [(nI fa478), pl479, (nI nd2), (nI wr480), (nI at477), (nI ne), (nI (lk2 + 1)), (nI fa478), pl479, (nI nd2), (nI wr480), (nI at477), (nI ne), (nI (lk2 + 1))]) rfl rfl (show (updA (updA (updA X2 2 K) 19 yt482) 20 yr483) = (updA (updA (updA X2 19 yt482) 20 yr483) 2 K) from updsA_eq2 (F := X2) (l1 := [(2, K), (19, yt482), (20, yr483)]) (l2 := [(19, yt482), (20, yr483), (2, K)]) (V := [K, yt482, yr483, yt482, yr483, K]) rfl rfl) hP
                have hD : va_D A (mW G h0 a (upd (upd (upd (upd (upd (upd (upd F 15 (nI fa478)) 16 pl479) 27 (nI nd2)) 31 (nI wr480)) 64 (nI at477)) 65 (nI ne)) 66 (nI (lk2 + 1))) (updA (updA (updA X2 19 yt482) 20 yr483) 2 K)) := mW_D hD
                have hkp498 : Kp B (updA (updA X2 19 yt482) 20 yr483) wr480 T := (Kp.y hkp2 h494)
                obtain ⟨n500, n499⟩ := h488 e77
                replace n500 := n500.symm
                subst n500
                replace n499 := n499.symm
                subst n499
                refine lv_istore (lv' := [(5, .int (nI r481)), (4, .int (nI at2)), (3, .int (K at2)), (2, .int (nI r2)), (1, .int (nI lv)), (0, .ref h0)]) hx hb dX12_level_80 hl (by decide) rfl (fun ls hl => ?_)
                refine lv_aload_n hx hb dX12_level_82 rfl (lv_at hl 5 rfl) ?_
                refine lv_iload_n hx hb dX12_level_83 rfl (lv_at hl 2 rfl) ?_
                refine lv_sipush (v := 325) hx hb dX12_level_84 (by decide) ?_
                refine lv_icmp_ne (tgt := 95) hx hb dX12_level_87 (by decide) (fun c501 => ?_) (fun c501 => ?_)
                · refine lv_bipush (v := 22) hx hb dX12_level_95 (by decide) ?_
                  refine lv_aload_n hx hb dX12_level_97 rfl (lv_at hl 5 rfl) ?_
                  refine r_get (v := .ref (a 10)) hx hb hown hq hE hP 18 41 tFX12_18 (by decide) pw_1440 rfl dX12_level_98 ?_
                  refine lv_iload_n hx hb dX12_level_101 rfl (lv_at hl 3 rfl) ?_
                  refine r_ldi (f := ((updA (updA X2 19 yt482) 20 yr483) 10)) (j := r2) hx hb hE hP 10 (ma_10 G a _) rfl (by omega) (by decide) dX12_level_102 ?_
                  refine lv_topi (fun x502 e503 => ?_)
                  refine lv_iload hx hb dX12_level_103 (lv_at hl 1 rfl) ?_
                  refine lv_iload_n hx hb dX12_level_105 rfl (lv_at hl 3 rfl) ?_
                  refine lv_iload hx hb dX12_level_106 (lv_at hl 0 rfl) ?_
                  have hP : va_P G.1 pCl (mW G h0 a (upd (upd (upd (upd (upd (upd (upd (upd F 15 (nI fa71)) 16 pl479) 27 (nI nd2)) 31 (nI wr480)) 64 (nI (at2 + 1))) 65 (nI ne)) 66 (nI (lk2 + 1))) 27 (nI nd2)) (updA (updA (updA X2 19 yt482) 20 yr483) 2 K)) _ := hP
                  have hD : va_D A (mW G h0 a (upd (upd (upd (upd (upd (upd (upd (upd F 15 (nI fa71)) 16 pl479) 27 (nI nd2)) 31 (nI wr480)) 64 (nI (at2 + 1))) 65 (nI ne)) 66 (nI (lk2 + 1))) 27 (nI nd2)) (updA (updA (updA X2 19 yt482) 20 yr483) 2 K)) := mW_D hD
                  refine pc_V0 (G := G) (As := [.int 22, .int x502, .int (nI at2), .int (nI r2), .int (nI r481)]) (rest := []) hx hb hml hown hq hE hX pX0_al hP hD hS hA hl.1 (R_nodeB l G h0 a (upd (upd (upd (upd (upd (upd (upd F 15 (nI fa71)) 16 pl479) 27 (nI nd2)) 31 (nI wr480)) 64 (nI (at2 + 1))) 65 (nI ne)) 66 (nI (lk2 + 1))) (updA (updA X2 19 yt482) 20 yr483) 22 x502 (nI at2) (nI r2) (nI r481) nd2 K (by omega)) (gV pw_1650 pw_1651 pw_1652 pw_1523 pw_1589) hV_X12_node 0 9 rfl rfl rfl rfl (Nat.le_of_ble_eq_true rfl) dX12_level_108 ⟨Nat.le_of_ble_eq_true rfl, Nat.le_of_ble_eq_true rfl⟩ ⟨(by show 2 + 1 ≤ (20 * n + (26 - lv)); omega), (by show 8 + (7 + 11) + 60 ≤ (1000 * n + 40 * (26 - lv)); omega)⟩ (fun v506 u504 H locs hw505 hP hD hS => ?_)
                  obtain ⟨X507, rfl⟩ : ∃ z, z = u504 := ⟨_, rfl⟩
                  obtain ⟨hw505, h508⟩ := hw505
                  have h508 : NewN (updA (updA X2 19 yt482) 20 yr483) X507 nd2 22 x502 (nI at2) (nI r2) (nI r481) := h508
                  obtain rfl : v506 = some (.int (nI nd2)) := hw505
                  have hP : va_P G.1 pCl (mW G h0 a (upd (upd (upd (upd (upd (upd (upd F 15 (nI fa71)) 16 pl479) 27 (nI (nd2 + 1))) 31 (nI wr480)) 64 (nI (at2 + 1))) 65 (nI ne)) 66 (nI (lk2 + 1))) (updA X507 2 K)) _ := mW_to (F := F) (l1 := [(15, (nI fa71)), (16, pl479), (27, (nI nd2)), (31, (nI wr480)), (64, (nI (at2 + 1))), (65, (nI ne)), (66, (nI (lk2 + 1))), (27, (nI (nd2 + 1)))]) (l2 := [(15, (nI fa71)), (16, pl479), (27, (nI (nd2 + 1))), (31, (nI wr480)), (64, (nI (at2 + 1))), (65, (nI ne)), (66, (nI (lk2 + 1)))]) (V := [(nI fa71), pl479, (nI (nd2 + 1)), (nI wr480), (nI (at2 + 1)), (nI ne), (nI (lk2 + 1)), (nI (nd2 + 1)), (nI fa71), pl479, (nI (nd2 + 1)), (nI wr480), (nI (at2 + 1)), (nI ne), (nI (lk2 + 1))]) rfl rfl rfl hP
                  have hD : va_D A (mW G h0 a (upd (upd (upd (upd (upd (upd (upd F 15 (nI fa71)) 16 pl479) 27 (nI (nd2 + 1))) 31 (nI wr480)) 64 (nI (at2 + 1))) 65 (nI ne)) 66 (nI (lk2 + 1))) (updA X507 2 K)) := mW_D hD
                  refine W.widen (k := 0) (n := 0) (Nat.le_of_ble_eq_true rfl) (Nat.le_of_ble_eq_true rfl) ?_
                  refine W.eq (g2 := F0 m 111 ls [.int (nI nd2)]) rfl ?_
                  have hkp509 : Kp B X507 wr480 T := (Kp.new hkp498 h508)
                  refine lv_istore_n (lv' := [(2, .int (nI nd2)), (5, .int (nI r481)), (4, .int (nI at2)), (3, .int (K at2)), (1, .int (nI lv)), (0, .ref h0)]) hx hb dX12_level_111 rfl hl (by decide) rfl (fun ls hl => ?_)
                  refine lv_goto (tgt := 166) hx hb dX12_level_112 (by decide) ?_
                  refine lv_goto (tgt := 19) hx hb dX12_level_166 (by decide) ?_
                  refine lv_aload_n hx hb dX12_level_19 rfl (lv_at hl 5 rfl) ?_
                  refine r_get (v := .int (nI fa71)) hx hb hown hq hE hP 15 350 tFX12_15 (by decide) pw_1594 rfl dX12_level_20 ?_
                  refine lv_if_ne (tgt := 169) hx hb dX12_level_23 (by decide) (fun c510 => ?_) (fun c510 => (by have n511 : fa71 = 0 := (nI_eq (a := fa71) (b := 0) (by omega) (by omega)).mp c510; omega))
                  refine lv_iload_n hx hb dX12_level_169 rfl (lv_at hl 0 rfl) ?_
                  have hz512 : at0 ≤ (at2 + 1) := (by omega)
                  have hz513 : (at2 + 1) ≤ T := (by omega)
                  have hz514 : fa71 ≤ 100 := (by omega)
                  have hz515 : nd ≤ (nd2 + 1) := (by omega)
                  have hz516 : (nd2 + 1) + 2 * at0 ≤ nd + 2 * (at2 + 1) + 100000 * fa71 := (by omega)
                  have hz517 : (nd2 + 1) + 2 * at0 ≤ nd + 2 * (at2 + 1) + 40 * (21 - ne) := (by omega)
                  have hz518 : wr ≤ wr480 := (by omega)
                  have hz519 : wr480 + at0 ≤ wr + (at2 + 1) := (by omega)
                  have hz520 : lk ≤ (lk2 + 1) := (by omega)
                  have hz521 : (lk2 + 1) ≤ 60 + 100 * fa71 := (by omega)
                  have hz522 : at0 + 1 ≤ (at2 + 1) + fa71 := (by omega)
                  have hz523 : nd2 ≤ (nd2 + 1) := (by omega)
                  have hz524 : Kp B X507 wr480 T := hkp509
                  have hz525 : If (fa71 = 0) (Low B X507 nd wr ∧ Frs K T wr480 X507 nd (nd2 + 1) 20000 [(nd2, (210 + (lk2 + 1) - (10 * ne + lk)))] ∧ kcl 1 (X507 9 nd2) = true) := (fun e => absurd e (by omega))
                  have hP : va_P G.1 pCl (mW G h0 a (upd (upd (upd (upd (upd (upd (upd F 15 (nI fa71)) 16 pl479) 27 (nI (nd2 + 1))) 31 (nI wr480)) 64 (nI (at2 + 1))) 65 (nI ne)) 66 (nI (lk2 + 1))) (updA X507 2 K)) _ := hP
                  have hD : va_D A (mW G h0 a (upd (upd (upd (upd (upd (upd (upd F 15 (nI fa71)) 16 pl479) 27 (nI (nd2 + 1))) 31 (nI wr480)) 64 (nI (at2 + 1))) 65 (nI ne)) 66 (nI (lk2 + 1))) (updA X507 2 K)) := mW_D hD
                  exact W.iret (v := (nI nd2)) hx hb hr (fun t9 ht9 hW9 => ⟨⟨_, ((at2 + 1), fa71, pl479, (nd2 + 1), (lk2 + 1), wr480, nd2, X507), rfl, ⟨rfl, hz512, hz513, hz514, hz515, hz516, hz517, hz518, hz519, hz520, hz521, hz522, hz523, hz524, hz525⟩, by rw [ht9]; exact hP, hD⟩, hS.F ht9⟩) hS.2.2 dX12_level_170
                · refine lv_bipush (v := 21) hx hb dX12_level_90 (by decide) ?_
                  refine lv_goto (tgt := 97) hx hb dX12_level_92 (by decide) ?_
                  refine lv_aload_n hx hb dX12_level_97 rfl (lv_at hl 5 rfl) ?_
                  refine r_get (v := .ref (a 10)) hx hb hown hq hE hP 18 41 tFX12_18 (by decide) pw_1440 rfl dX12_level_98 ?_
                  refine lv_iload_n hx hb dX12_level_101 rfl (lv_at hl 3 rfl) ?_
                  refine r_ldi (f := ((updA (updA X2 19 yt482) 20 yr483) 10)) (j := r2) hx hb hE hP 10 (ma_10 G a _) rfl (by omega) (by decide) dX12_level_102 ?_
                  refine lv_topi (fun x526 e527 => ?_)
                  refine lv_iload hx hb dX12_level_103 (lv_at hl 1 rfl) ?_
                  refine lv_iload_n hx hb dX12_level_105 rfl (lv_at hl 3 rfl) ?_
                  refine lv_iload hx hb dX12_level_106 (lv_at hl 0 rfl) ?_
                  have hP : va_P G.1 pCl (mW G h0 a (upd (upd (upd (upd (upd (upd (upd (upd F 15 (nI fa71)) 16 pl479) 27 (nI nd2)) 31 (nI wr480)) 64 (nI (at2 + 1))) 65 (nI ne)) 66 (nI (lk2 + 1))) 27 (nI nd2)) (updA (updA (updA X2 19 yt482) 20 yr483) 2 K)) _ := hP
                  have hD : va_D A (mW G h0 a (upd (upd (upd (upd (upd (upd (upd (upd F 15 (nI fa71)) 16 pl479) 27 (nI nd2)) 31 (nI wr480)) 64 (nI (at2 + 1))) 65 (nI ne)) 66 (nI (lk2 + 1))) 27 (nI nd2)) (updA (updA (updA X2 19 yt482) 20 yr483) 2 K)) := mW_D hD
                  refine pc_V0 (G := G) (As := [.int 21, .int x526, .int (nI at2), .int (nI r2), .int (nI r481)]) (rest := []) hx hb hml hown hq hE hX pX0_al hP hD hS hA hl.1 (R_nodeB l G h0 a (upd (upd (upd (upd (upd (upd (upd F 15 (nI fa71)) 16 pl479) 27 (nI nd2)) 31 (nI wr480)) 64 (nI (at2 + 1))) 65 (nI ne)) 66 (nI (lk2 + 1))) (updA (updA X2 19 yt482) 20 yr483) 21 x526 (nI at2) (nI r2) (nI r481) nd2 K (by omega)) (gV pw_1650 pw_1651 pw_1652 pw_1523 pw_1589) hV_X12_node 0 9 rfl rfl rfl rfl (Nat.le_of_ble_eq_true rfl) dX12_level_108 ⟨Nat.le_of_ble_eq_true rfl, Nat.le_of_ble_eq_true rfl⟩ ⟨(by show 2 + 1 ≤ (20 * n + (26 - lv)); omega), (by show 8 + (7 + 11) + 60 ≤ (1000 * n + 40 * (26 - lv)); omega)⟩ (fun v530 u528 H locs hw529 hP hD hS => ?_)
                  obtain ⟨X531, rfl⟩ : ∃ z, z = u528 := ⟨_, rfl⟩
                  obtain ⟨hw529, h532⟩ := hw529
                  have h532 : NewN (updA (updA X2 19 yt482) 20 yr483) X531 nd2 21 x526 (nI at2) (nI r2) (nI r481) := h532
                  obtain rfl : v530 = some (.int (nI nd2)) := hw529
                  have hP : va_P G.1 pCl (mW G h0 a (upd (upd (upd (upd (upd (upd (upd F 15 (nI fa71)) 16 pl479) 27 (nI (nd2 + 1))) 31 (nI wr480)) 64 (nI (at2 + 1))) 65 (nI ne)) 66 (nI (lk2 + 1))) (updA X531 2 K)) _ := mW_to (F := F) (l1 := [(15, (nI fa71)), (16, pl479), (27, (nI nd2)), (31, (nI wr480)), (64, (nI (at2 + 1))), (65, (nI ne)), (66, (nI (lk2 + 1))), (27, (nI (nd2 + 1)))]) (l2 := [(15, (nI fa71)), (16, pl479), (27, (nI (nd2 + 1))), (31, (nI wr480)), (64, (nI (at2 + 1))), (65, (nI ne)), (66, (nI (lk2 + 1)))]) (V := [(nI fa71), pl479, (nI (nd2 + 1)), (nI wr480), (nI (at2 + 1)), (nI ne), (nI (lk2 + 1)), (nI (nd2 + 1)), (nI fa71), pl479, (nI (nd2 + 1)), (nI wr480), (nI (at2 + 1)), (nI ne), (nI (lk2 + 1))]) rfl rfl rfl hP
                  have hD : va_D A (mW G h0 a (upd (upd (upd (upd (upd (upd (upd F 15 (nI fa71)) 16 pl479) 27 (nI (nd2 + 1))) 31 (nI wr480)) 64 (nI (at2 + 1))) 65 (nI ne)) 66 (nI (lk2 + 1))) (updA X531 2 K)) := mW_D hD
                  refine W.widen (k := 0) (n := 0) (Nat.le_of_ble_eq_true rfl) (Nat.le_of_ble_eq_true rfl) ?_
                  refine W.eq (g2 := F0 m 111 ls [.int (nI nd2)]) rfl ?_
                  have hkp533 : Kp B X531 wr480 T := (Kp.new hkp498 h532)
                  refine lv_istore_n (lv' := [(2, .int (nI nd2)), (5, .int (nI r481)), (4, .int (nI at2)), (3, .int (K at2)), (1, .int (nI lv)), (0, .ref h0)]) hx hb dX12_level_111 rfl hl (by decide) rfl (fun ls hl => ?_)
                  refine lv_goto (tgt := 166) hx hb dX12_level_112 (by decide) ?_
                  refine lv_goto (tgt := 19) hx hb dX12_level_166 (by decide) ?_
                  refine lv_aload_n hx hb dX12_level_19 rfl (lv_at hl 5 rfl) ?_
                  refine r_get (v := .int (nI fa71)) hx hb hown hq hE hP 15 350 tFX12_15 (by decide) pw_1594 rfl dX12_level_20 ?_
                  refine lv_if_ne (tgt := 169) hx hb dX12_level_23 (by decide) (fun c534 => ?_) (fun c534 => (by have n535 : fa71 = 0 := (nI_eq (a := fa71) (b := 0) (by omega) (by omega)).mp c534; omega))
                  refine lv_iload_n hx hb dX12_level_169 rfl (lv_at hl 0 rfl) ?_
                  have hz536 : at0 ≤ (at2 + 1) := (by omega)
                  have hz537 : (at2 + 1) ≤ T := (by omega)
                  have hz538 : fa71 ≤ 100 := (by omega)
                  have hz539 : nd ≤ (nd2 + 1) := (by omega)
                  have hz540 : (nd2 + 1) + 2 * at0 ≤ nd + 2 * (at2 + 1) + 100000 * fa71 := (by omega)
                  have hz541 : (nd2 + 1) + 2 * at0 ≤ nd + 2 * (at2 + 1) + 40 * (21 - ne) := (by omega)
                  have hz542 : wr ≤ wr480 := (by omega)
                  have hz543 : wr480 + at0 ≤ wr + (at2 + 1) := (by omega)
                  have hz544 : lk ≤ (lk2 + 1) := (by omega)
                  have hz545 : (lk2 + 1) ≤ 60 + 100 * fa71 := (by omega)
                  have hz546 : at0 + 1 ≤ (at2 + 1) + fa71 := (by omega)
                  have hz547 : nd2 ≤ (nd2 + 1) := (by omega)
                  have hz548 : Kp B X531 wr480 T := hkp533
                  have hz549 : If (fa71 = 0) (Low B X531 nd wr ∧ Frs K T wr480 X531 nd (nd2 + 1) 20000 [(nd2, (210 + (lk2 + 1) - (10 * ne + lk)))] ∧ kcl 1 (X531 9 nd2) = true) := (fun e => absurd e (by omega))
                  have hP : va_P G.1 pCl (mW G h0 a (upd (upd (upd (upd (upd (upd (upd F 15 (nI fa71)) 16 pl479) 27 (nI (nd2 + 1))) 31 (nI wr480)) 64 (nI (at2 + 1))) 65 (nI ne)) 66 (nI (lk2 + 1))) (updA X531 2 K)) _ := hP
                  have hD : va_D A (mW G h0 a (upd (upd (upd (upd (upd (upd (upd F 15 (nI fa71)) 16 pl479) 27 (nI (nd2 + 1))) 31 (nI wr480)) 64 (nI (at2 + 1))) 65 (nI ne)) 66 (nI (lk2 + 1))) (updA X531 2 K)) := mW_D hD
                  exact W.iret (v := (nI nd2)) hx hb hr (fun t9 ht9 hW9 => ⟨⟨_, ((at2 + 1), fa71, pl479, (nd2 + 1), (lk2 + 1), wr480, nd2, X531), rfl, ⟨rfl, hz536, hz537, hz538, hz539, hz540, hz541, hz542, hz543, hz544, hz545, hz546, hz547, hz548, hz549⟩, by rw [ht9]; exact hP, hD⟩, hS.F ht9⟩) hS.2.2 dX12_level_170
              · refine lv_iload_n hx hb dX12_level_69 rfl (lv_at hl 1 rfl) ?_
                refine lv_sipush (v := 310) hx hb dX12_level_70 (by decide) ?_
                refine lv_icmp_ne (tgt := 115) hx hb dX12_level_73 (by decide) (fun c550 => ?_) (fun c550 => ?_)
                · refine lv_aload_n hx hb dX12_level_115 rfl (lv_at hl 4 rfl) ?_
                  refine lv_iload_n hx hb dX12_level_116 rfl (lv_at hl 3 rfl) ?_
                  refine lv_iconst (v := 1) hx hb dX12_level_117 (by decide) ?_
                  refine lv_iadd hx hb dX12_level_118 ?_
                  refine lv_topi (fun x551 e552 => ?_)
                  obtain rfl : x551 = nI (lv + 1) := e552.trans (nI_add (lv) (1))
                  have hP : va_P G.1 pCl (mW G h0 a (upd (upd (upd (upd (upd (upd (upd (upd (upd F 15 (nI fa71)) 16 pl72) 27 (nI nd2)) 31 (nI wr2)) 64 (nI (at2 + 1))) 65 (nI ne)) 66 (nI (lk2 + 1))) 15 (nI fa71)) 64 (nI (at2 + 1))) (updA (updA X2 2 K) 2 K)) _ := mW_to (F := F) (l1 := [(15, (nI fa71)), (16, pl72), (27, (nI nd2)), (31, (nI wr2)), (64, (nI at2)), (65, (nI ne)), (66, (nI (lk2 + 1))), (64, (nI (at2 + 1)))]) (l2 := [(15, (nI fa71)), (16, pl72), (27, (nI nd2)), (31, (nI wr2)), (64, (nI (at2 + 1))), (65, (nI ne)), (66, (nI (lk2 + 1))), (15, (nI fa71)), (64, (nI (at2 + 1)))]) (V := [(nI fa71), pl72, (nI nd2), (nI wr2), (nI (at2 + 1)), (nI ne), (nI (lk2 + 1)), (nI (at2 + 1)), (nI fa71), pl72, (nI nd2), (nI wr2), (nI (at2 + 1)), (nI ne), (nI (lk2 + 1)), (nI fa71), (nI (at2 + 1))]) rfl rfl (show (updA X2 2 K) = (updA (updA X2 2 K) 2 K) from updsA_eq2 (F := X2) (l1 := [(2, K)]) (l2 := [(2, K), (2, K)]) (V := [K, K, K]) rfl rfl) hP
                  have hD : va_D A (mW G h0 a (upd (upd (upd (upd (upd (upd (upd (upd (upd F 15 (nI fa71)) 16 pl72) 27 (nI nd2)) 31 (nI wr2)) 64 (nI (at2 + 1))) 65 (nI ne)) 66 (nI (lk2 + 1))) 15 (nI fa71)) 64 (nI (at2 + 1))) (updA (updA X2 2 K) 2 K)) := mW_D hD
                  refine pc_V0 (G := G) (As := [.int (nI (lv + 1))]) (rest := []) hx hb hml hown hq hE hX pX0_al hP hD hS hA hl.1 ((RF_levelA l G (10 - (lv + 1)) (lv + 1) (by omega)) h0 a (upd (upd (upd (upd (upd (upd (upd F 15 (nI fa71)) 16 pl72) 27 (nI nd2)) 31 (nI wr2)) 64 (nI (at2 + 1))) 65 (nI ne)) 66 (nI (lk2 + 1))) (updA X2 2 K) (at2 + 1) T fa71 K (by omega) (by omega) hK (by omega) e77 (by omega)) (gV pw_1657 pw_1658 pw_1659 pw_1523 pw_1667) hV_X12_level 0 9 rfl rfl rfl rfl (Nat.le_of_ble_eq_true rfl) dX12_level_119 ⟨Nat.le_of_ble_eq_true rfl, Nat.le_of_ble_eq_true rfl⟩ ⟨(by show (20 - (lv + 1)) + 1 ≤ (20 * n + (26 - lv)); omega), (by show 8 + (6 + 11) + (1000 - 50 * (lv + 1)) ≤ (1000 * n + 40 * (26 - lv)); omega)⟩ (fun v555 u553 H locs hw554 hP hD hS => ?_)
                  obtain rfl : v555 = some (.int 0) := hw554
                  have hP : va_P G.1 pCl (mW G h0 a (upd (upd (upd (upd (upd (upd (upd F 15 (nI fa71)) 16 pl72) 27 (nI nd2)) 31 (nI wr2)) 64 (nI (at2 + 1))) 65 (nI ne)) 66 (nI (lk2 + 1))) (updA X2 2 K)) _ := mW_to (F := F) (l1 := [(15, (nI fa71)), (16, pl72), (27, (nI nd2)), (31, (nI wr2)), (64, (nI (at2 + 1))), (65, (nI ne)), (66, (nI (lk2 + 1))), (15, (nI fa71)), (64, (nI (at2 + 1)))]) (l2 := [(15, (nI fa71)), (16, pl72), (27, (nI nd2)), (31, (nI wr2)), (64, (nI (at2 + 1))), (65, (nI ne)), (66, (nI (lk2 + 1)))]) (V := [(nI fa71), pl72, (nI nd2), (nI wr2), (nI (at2 + 1)), (nI ne), (nI (lk2 + 1)), (nI fa71), (nI (at2 + 1)), (nI fa71), pl72, (nI nd2), (nI wr2), (nI (at2 + 1)), (nI ne), (nI (lk2 + 1))]) rfl rfl (show (updA (updA X2 2 K) 2 K) = (updA X2 2 K) from updsA_eq2 (F := X2) (l1 := [(2, K), (2, K)]) (l2 := [(2, K)]) (V := [K, K, K]) rfl rfl) hP
                  have hD : va_D A (mW G h0 a (upd (upd (upd (upd (upd (upd (upd F 15 (nI fa71)) 16 pl72) 27 (nI nd2)) 31 (nI wr2)) 64 (nI (at2 + 1))) 65 (nI ne)) 66 (nI (lk2 + 1))) (updA X2 2 K)) := mW_D hD
                  refine W.widen (k := 0) (n := 0) (Nat.le_of_ble_eq_true rfl) (Nat.le_of_ble_eq_true rfl) ?_
                  refine W.eq (g2 := F0 m 122 ls [.int 0]) rfl ?_
                  refine lv_istore (lv' := [(5, .int 0), (4, .int (nI at2)), (3, .int (K at2)), (2, .int (nI r2)), (1, .int (nI lv)), (0, .ref h0)]) hx hb dX12_level_122 hl (by decide) rfl (fun ls hl => ?_)
                  refine lv_aload_n hx hb dX12_level_124 rfl (lv_at hl 5 rfl) ?_
                  refine lv_iload_n hx hb dX12_level_125 rfl (lv_at hl 2 rfl) ?_
                  refine lv_sipush (v := 261) hx hb dX12_level_126 (by decide) ?_
                  refine lv_icmp_ne (tgt := 137) hx hb dX12_level_129 (by decide) (fun c556 => ?_) (fun c556 => ?_)
                  · refine lv_iload_n hx hb dX12_level_137 rfl (lv_at hl 2 rfl) ?_
                    refine lv_sipush (v := 260) hx hb dX12_level_138 (by decide) ?_
                    refine lv_icmp_ne (tgt := 149) hx hb dX12_level_141 (by decide) (fun c557 => ?_) (fun c557 => ?_)
                    · refine lv_bipush (v := 18) hx hb dX12_level_149 (by decide) ?_
                      refine lv_aload_n hx hb dX12_level_151 rfl (lv_at hl 5 rfl) ?_
                      refine r_get (v := .ref (a 10)) hx hb hown hq hE hP 18 41 tFX12_18 (by decide) pw_1440 rfl dX12_level_152 ?_
                      refine lv_iload_n hx hb dX12_level_155 rfl (lv_at hl 3 rfl) ?_
                      refine r_ldi (f := (X2 10)) (j := r2) hx hb hE hP 10 (ma_10 G a _) rfl (by omega) (by decide) dX12_level_156 ?_
                      refine lv_topi (fun x558 e559 => ?_)
                      refine lv_iload hx hb dX12_level_157 (lv_at hl 1 rfl) ?_
                      refine lv_iload_n hx hb dX12_level_159 rfl (lv_at hl 3 rfl) ?_
                      refine lv_iload hx hb dX12_level_160 (lv_at hl 0 rfl) ?_
                      have hP : va_P G.1 pCl (mW G h0 a (upd (upd (upd (upd (upd (upd (upd (upd F 15 (nI fa71)) 16 pl72) 27 (nI nd2)) 31 (nI wr2)) 64 (nI (at2 + 1))) 65 (nI ne)) 66 (nI (lk2 + 1))) 27 (nI nd2)) (updA X2 2 K)) _ := mW_to (F := F) (l1 := [(15, (nI fa71)), (16, pl72), (27, (nI nd2)), (31, (nI wr2)), (64, (nI (at2 + 1))), (65, (nI ne)), (66, (nI (lk2 + 1)))]) (l2 := [(15, (nI fa71)), (16, pl72), (27, (nI nd2)), (31, (nI wr2)), (64, (nI (at2 + 1))), (65, (nI ne)), (66, (nI (lk2 + 1))), (27, (nI nd2))]) (V := [(nI fa71), pl72, (nI nd2), (nI wr2), (nI (at2 + 1)), (nI ne), (nI (lk2 + 1)), (nI fa71), pl72, (nI nd2), (nI wr2), (nI (at2 + 1)), (nI ne), (nI (lk2 + 1)), (nI nd2)]) rfl rfl rfl hP
                      have hD : va_D A (mW G h0 a (upd (upd (upd (upd (upd (upd (upd (upd F 15 (nI fa71)) 16 pl72) 27 (nI nd2)) 31 (nI wr2)) 64 (nI (at2 + 1))) 65 (nI ne)) 66 (nI (lk2 + 1))) 27 (nI nd2)) (updA X2 2 K)) := mW_D hD
                      refine pc_V0 (G := G) (As := [.int 18, .int x558, .int (nI at2), .int (nI r2), .int 0]) (rest := []) hx hb hml hown hq hE hX pX0_al hP hD hS hA hl.1 (R_nodeB l G h0 a (upd (upd (upd (upd (upd (upd (upd F 15 (nI fa71)) 16 pl72) 27 (nI nd2)) 31 (nI wr2)) 64 (nI (at2 + 1))) 65 (nI ne)) 66 (nI (lk2 + 1))) X2 18 x558 (nI at2) (nI r2) 0 nd2 K (by omega)) (gV pw_1650 pw_1651 pw_1652 pw_1523 pw_1589) hV_X12_node 0 9 rfl rfl rfl rfl (Nat.le_of_ble_eq_true rfl) dX12_level_162 ⟨Nat.le_of_ble_eq_true rfl, Nat.le_of_ble_eq_true rfl⟩ ⟨(by show 2 + 1 ≤ (20 * n + (26 - lv)); omega), (by show 8 + (7 + 11) + 60 ≤ (1000 * n + 40 * (26 - lv)); omega)⟩ (fun v562 u560 H locs hw561 hP hD hS => ?_)
                      obtain ⟨X563, rfl⟩ : ∃ z, z = u560 := ⟨_, rfl⟩
                      obtain ⟨hw561, h564⟩ := hw561
                      have h564 : NewN X2 X563 nd2 18 x558 (nI at2) (nI r2) 0 := h564
                      obtain rfl : v562 = some (.int (nI nd2)) := hw561
                      have hP : va_P G.1 pCl (mW G h0 a (upd (upd (upd (upd (upd (upd (upd F 15 (nI fa71)) 16 pl72) 27 (nI (nd2 + 1))) 31 (nI wr2)) 64 (nI (at2 + 1))) 65 (nI ne)) 66 (nI (lk2 + 1))) (updA X563 2 K)) _ := mW_to (F := F) (l1 := [(15, (nI fa71)), (16, pl72), (27, (nI nd2)), (31, (nI wr2)), (64, (nI (at2 + 1))), (65, (nI ne)), (66, (nI (lk2 + 1))), (27, (nI (nd2 + 1)))]) (l2 := [(15, (nI fa71)), (16, pl72), (27, (nI (nd2 + 1))), (31, (nI wr2)), (64, (nI (at2 + 1))), (65, (nI ne)), (66, (nI (lk2 + 1)))]) (V := [(nI fa71), pl72, (nI (nd2 + 1)), (nI wr2), (nI (at2 + 1)), (nI ne), (nI (lk2 + 1)), (nI (nd2 + 1)), (nI fa71), pl72, (nI (nd2 + 1)), (nI wr2), (nI (at2 + 1)), (nI ne), (nI (lk2 + 1))]) rfl rfl rfl hP
                      have hD : va_D A (mW G h0 a (upd (upd (upd (upd (upd (upd (upd F 15 (nI fa71)) 16 pl72) 27 (nI (nd2 + 1))) 31 (nI wr2)) 64 (nI (at2 + 1))) 65 (nI ne)) 66 (nI (lk2 + 1))) (updA X563 2 K)) := mW_D hD
                      refine W.widen (k := 0) (n := 0) (Nat.le_of_ble_eq_true rfl) (Nat.le_of_ble_eq_true rfl) ?_
                      refine W.eq (g2 := F0 m 165 ls [.int (nI nd2)]) rfl ?_
                      have hkp565 : Kp B X563 wr2 T := (Kp.new hkp2 h564)
                      refine lv_istore_n (lv' := [(2, .int (nI nd2)), (5, .int 0), (4, .int (nI at2)), (3, .int (K at2)), (1, .int (nI lv)), (0, .ref h0)]) hx hb dX12_level_165 rfl hl (by decide) rfl (fun ls hl => ?_)
                      refine lv_goto (tgt := 19) hx hb dX12_level_166 (by decide) ?_
                      refine lv_aload_n hx hb dX12_level_19 rfl (lv_at hl 5 rfl) ?_
                      refine r_get (v := .int (nI fa71)) hx hb hown hq hE hP 15 350 tFX12_15 (by decide) pw_1594 rfl dX12_level_20 ?_
                      refine lv_if_ne (tgt := 169) hx hb dX12_level_23 (by decide) (fun c566 => ?_) (fun c566 => (by have n567 : fa71 = 0 := (nI_eq (a := fa71) (b := 0) (by omega) (by omega)).mp c566; omega))
                      refine lv_iload_n hx hb dX12_level_169 rfl (lv_at hl 0 rfl) ?_
                      have hz568 : at0 ≤ (at2 + 1) := (by omega)
                      have hz569 : (at2 + 1) ≤ T := (by omega)
                      have hz570 : fa71 ≤ 100 := (by omega)
                      have hz571 : nd ≤ (nd2 + 1) := (by omega)
                      have hz572 : (nd2 + 1) + 2 * at0 ≤ nd + 2 * (at2 + 1) + 100000 * fa71 := (by omega)
                      have hz573 : (nd2 + 1) + 2 * at0 ≤ nd + 2 * (at2 + 1) + 40 * (21 - ne) := (by omega)
                      have hz574 : wr ≤ wr2 := (by omega)
                      have hz575 : wr2 + at0 ≤ wr + (at2 + 1) := (by omega)
                      have hz576 : lk ≤ (lk2 + 1) := (by omega)
                      have hz577 : (lk2 + 1) ≤ 60 + 100 * fa71 := (by omega)
                      have hz578 : at0 + 1 ≤ (at2 + 1) + fa71 := (by omega)
                      have hz579 : nd2 ≤ (nd2 + 1) := (by omega)
                      have hz580 : Kp B X563 wr2 T := hkp565
                      have hz581 : If (fa71 = 0) (Low B X563 nd wr ∧ Frs K T wr2 X563 nd (nd2 + 1) 20000 [(nd2, (210 + (lk2 + 1) - (10 * ne + lk)))] ∧ kcl 1 (X563 9 nd2) = true) := (fun e => absurd e (by omega))
                      have hP : va_P G.1 pCl (mW G h0 a (upd (upd (upd (upd (upd (upd (upd F 15 (nI fa71)) 16 pl72) 27 (nI (nd2 + 1))) 31 (nI wr2)) 64 (nI (at2 + 1))) 65 (nI ne)) 66 (nI (lk2 + 1))) (updA X563 2 K)) _ := hP
                      have hD : va_D A (mW G h0 a (upd (upd (upd (upd (upd (upd (upd F 15 (nI fa71)) 16 pl72) 27 (nI (nd2 + 1))) 31 (nI wr2)) 64 (nI (at2 + 1))) 65 (nI ne)) 66 (nI (lk2 + 1))) (updA X563 2 K)) := mW_D hD
                      exact W.iret (v := (nI nd2)) hx hb hr (fun t9 ht9 hW9 => ⟨⟨_, ((at2 + 1), fa71, pl72, (nd2 + 1), (lk2 + 1), wr2, nd2, X563), rfl, ⟨rfl, hz568, hz569, hz570, hz571, hz572, hz573, hz574, hz575, hz576, hz577, hz578, hz579, hz580, hz581⟩, by rw [ht9]; exact hP, hD⟩, hS.F ht9⟩) hS.2.2 dX12_level_170
                    · refine lv_bipush (v := 19) hx hb dX12_level_144 (by decide) ?_
                      refine lv_goto (tgt := 151) hx hb dX12_level_146 (by decide) ?_
                      refine lv_aload_n hx hb dX12_level_151 rfl (lv_at hl 5 rfl) ?_
                      refine r_get (v := .ref (a 10)) hx hb hown hq hE hP 18 41 tFX12_18 (by decide) pw_1440 rfl dX12_level_152 ?_
                      refine lv_iload_n hx hb dX12_level_155 rfl (lv_at hl 3 rfl) ?_
                      refine r_ldi (f := (X2 10)) (j := r2) hx hb hE hP 10 (ma_10 G a _) rfl (by omega) (by decide) dX12_level_156 ?_
                      refine lv_topi (fun x582 e583 => ?_)
                      refine lv_iload hx hb dX12_level_157 (lv_at hl 1 rfl) ?_
                      refine lv_iload_n hx hb dX12_level_159 rfl (lv_at hl 3 rfl) ?_
                      refine lv_iload hx hb dX12_level_160 (lv_at hl 0 rfl) ?_
                      have hP : va_P G.1 pCl (mW G h0 a (upd (upd (upd (upd (upd (upd (upd (upd F 15 (nI fa71)) 16 pl72) 27 (nI nd2)) 31 (nI wr2)) 64 (nI (at2 + 1))) 65 (nI ne)) 66 (nI (lk2 + 1))) 27 (nI nd2)) (updA X2 2 K)) _ := mW_to (F := F) (l1 := [(15, (nI fa71)), (16, pl72), (27, (nI nd2)), (31, (nI wr2)), (64, (nI (at2 + 1))), (65, (nI ne)), (66, (nI (lk2 + 1)))]) (l2 := [(15, (nI fa71)), (16, pl72), (27, (nI nd2)), (31, (nI wr2)), (64, (nI (at2 + 1))), (65, (nI ne)), (66, (nI (lk2 + 1))), (27, (nI nd2))]) (V := [(nI fa71), pl72, (nI nd2), (nI wr2), (nI (at2 + 1)), (nI ne), (nI (lk2 + 1)), (nI fa71), pl72, (nI nd2), (nI wr2), (nI (at2 + 1)), (nI ne), (nI (lk2 + 1)), (nI nd2)]) rfl rfl rfl hP
                      have hD : va_D A (mW G h0 a (upd (upd (upd (upd (upd (upd (upd (upd F 15 (nI fa71)) 16 pl72) 27 (nI nd2)) 31 (nI wr2)) 64 (nI (at2 + 1))) 65 (nI ne)) 66 (nI (lk2 + 1))) 27 (nI nd2)) (updA X2 2 K)) := mW_D hD
                      refine pc_V0 (G := G) (As := [.int 19, .int x582, .int (nI at2), .int (nI r2), .int 0]) (rest := []) hx hb hml hown hq hE hX pX0_al hP hD hS hA hl.1 (R_nodeB l G h0 a (upd (upd (upd (upd (upd (upd (upd F 15 (nI fa71)) 16 pl72) 27 (nI nd2)) 31 (nI wr2)) 64 (nI (at2 + 1))) 65 (nI ne)) 66 (nI (lk2 + 1))) X2 19 x582 (nI at2) (nI r2) 0 nd2 K (by omega)) (gV pw_1650 pw_1651 pw_1652 pw_1523 pw_1589) hV_X12_node 0 9 rfl rfl rfl rfl (Nat.le_of_ble_eq_true rfl) dX12_level_162 ⟨Nat.le_of_ble_eq_true rfl, Nat.le_of_ble_eq_true rfl⟩ ⟨(by show 2 + 1 ≤ (20 * n + (26 - lv)); omega), (by show 8 + (7 + 11) + 60 ≤ (1000 * n + 40 * (26 - lv)); omega)⟩ (fun v586 u584 H locs hw585 hP hD hS => ?_)
                      obtain ⟨X587, rfl⟩ : ∃ z, z = u584 := ⟨_, rfl⟩
                      obtain ⟨hw585, h588⟩ := hw585
                      have h588 : NewN X2 X587 nd2 19 x582 (nI at2) (nI r2) 0 := h588
                      obtain rfl : v586 = some (.int (nI nd2)) := hw585
                      have hP : va_P G.1 pCl (mW G h0 a (upd (upd (upd (upd (upd (upd (upd F 15 (nI fa71)) 16 pl72) 27 (nI (nd2 + 1))) 31 (nI wr2)) 64 (nI (at2 + 1))) 65 (nI ne)) 66 (nI (lk2 + 1))) (updA X587 2 K)) _ := mW_to (F := F) (l1 := [(15, (nI fa71)), (16, pl72), (27, (nI nd2)), (31, (nI wr2)), (64, (nI (at2 + 1))), (65, (nI ne)), (66, (nI (lk2 + 1))), (27, (nI (nd2 + 1)))]) (l2 := [(15, (nI fa71)), (16, pl72), (27, (nI (nd2 + 1))), (31, (nI wr2)), (64, (nI (at2 + 1))), (65, (nI ne)), (66, (nI (lk2 + 1)))]) (V := [(nI fa71), pl72, (nI (nd2 + 1)), (nI wr2), (nI (at2 + 1)), (nI ne), (nI (lk2 + 1)), (nI (nd2 + 1)), (nI fa71), pl72, (nI (nd2 + 1)), (nI wr2), (nI (at2 + 1)), (nI ne), (nI (lk2 + 1))]) rfl rfl rfl hP
                      have hD : va_D A (mW G h0 a (upd (upd (upd (upd (upd (upd (upd F 15 (nI fa71)) 16 pl72) 27 (nI (nd2 + 1))) 31 (nI wr2)) 64 (nI (at2 + 1))) 65 (nI ne)) 66 (nI (lk2 + 1))) (updA X587 2 K)) := mW_D hD
                      refine W.widen (k := 0) (n := 0) (Nat.le_of_ble_eq_true rfl) (Nat.le_of_ble_eq_true rfl) ?_
                      refine W.eq (g2 := F0 m 165 ls [.int (nI nd2)]) rfl ?_
                      have hkp589 : Kp B X587 wr2 T := (Kp.new hkp2 h588)
                      refine lv_istore_n (lv' := [(2, .int (nI nd2)), (5, .int 0), (4, .int (nI at2)), (3, .int (K at2)), (1, .int (nI lv)), (0, .ref h0)]) hx hb dX12_level_165 rfl hl (by decide) rfl (fun ls hl => ?_)
                      refine lv_goto (tgt := 19) hx hb dX12_level_166 (by decide) ?_
                      refine lv_aload_n hx hb dX12_level_19 rfl (lv_at hl 5 rfl) ?_
                      refine r_get (v := .int (nI fa71)) hx hb hown hq hE hP 15 350 tFX12_15 (by decide) pw_1594 rfl dX12_level_20 ?_
                      refine lv_if_ne (tgt := 169) hx hb dX12_level_23 (by decide) (fun c590 => ?_) (fun c590 => (by have n591 : fa71 = 0 := (nI_eq (a := fa71) (b := 0) (by omega) (by omega)).mp c590; omega))
                      refine lv_iload_n hx hb dX12_level_169 rfl (lv_at hl 0 rfl) ?_
                      have hz592 : at0 ≤ (at2 + 1) := (by omega)
                      have hz593 : (at2 + 1) ≤ T := (by omega)
                      have hz594 : fa71 ≤ 100 := (by omega)
                      have hz595 : nd ≤ (nd2 + 1) := (by omega)
                      have hz596 : (nd2 + 1) + 2 * at0 ≤ nd + 2 * (at2 + 1) + 100000 * fa71 := (by omega)
                      have hz597 : (nd2 + 1) + 2 * at0 ≤ nd + 2 * (at2 + 1) + 40 * (21 - ne) := (by omega)
                      have hz598 : wr ≤ wr2 := (by omega)
                      have hz599 : wr2 + at0 ≤ wr + (at2 + 1) := (by omega)
                      have hz600 : lk ≤ (lk2 + 1) := (by omega)
                      have hz601 : (lk2 + 1) ≤ 60 + 100 * fa71 := (by omega)
                      have hz602 : at0 + 1 ≤ (at2 + 1) + fa71 := (by omega)
                      have hz603 : nd2 ≤ (nd2 + 1) := (by omega)
                      have hz604 : Kp B X587 wr2 T := hkp589
                      have hz605 : If (fa71 = 0) (Low B X587 nd wr ∧ Frs K T wr2 X587 nd (nd2 + 1) 20000 [(nd2, (210 + (lk2 + 1) - (10 * ne + lk)))] ∧ kcl 1 (X587 9 nd2) = true) := (fun e => absurd e (by omega))
                      have hP : va_P G.1 pCl (mW G h0 a (upd (upd (upd (upd (upd (upd (upd F 15 (nI fa71)) 16 pl72) 27 (nI (nd2 + 1))) 31 (nI wr2)) 64 (nI (at2 + 1))) 65 (nI ne)) 66 (nI (lk2 + 1))) (updA X587 2 K)) _ := hP
                      have hD : va_D A (mW G h0 a (upd (upd (upd (upd (upd (upd (upd F 15 (nI fa71)) 16 pl72) 27 (nI (nd2 + 1))) 31 (nI wr2)) 64 (nI (at2 + 1))) 65 (nI ne)) 66 (nI (lk2 + 1))) (updA X587 2 K)) := mW_D hD
                      exact W.iret (v := (nI nd2)) hx hb hr (fun t9 ht9 hW9 => ⟨⟨_, ((at2 + 1), fa71, pl72, (nd2 + 1), (lk2 + 1), wr2, nd2, X587), rfl, ⟨rfl, hz592, hz593, hz594, hz595, hz596, hz597, hz598, hz599, hz600, hz601, hz602, hz603, hz604, hz605⟩, by rw [ht9]; exact hP, hD⟩, hS.F ht9⟩) hS.2.2 dX12_level_170
                  · refine lv_bipush (v := 20) hx hb dX12_level_132 (by decide) ?_
                    refine lv_goto (tgt := 151) hx hb dX12_level_134 (by decide) ?_
                    refine lv_aload_n hx hb dX12_level_151 rfl (lv_at hl 5 rfl) ?_
                    refine r_get (v := .ref (a 10)) hx hb hown hq hE hP 18 41 tFX12_18 (by decide) pw_1440 rfl dX12_level_152 ?_
                    refine lv_iload_n hx hb dX12_level_155 rfl (lv_at hl 3 rfl) ?_
                    refine r_ldi (f := (X2 10)) (j := r2) hx hb hE hP 10 (ma_10 G a _) rfl (by omega) (by decide) dX12_level_156 ?_
                    refine lv_topi (fun x606 e607 => ?_)
                    refine lv_iload hx hb dX12_level_157 (lv_at hl 1 rfl) ?_
                    refine lv_iload_n hx hb dX12_level_159 rfl (lv_at hl 3 rfl) ?_
                    refine lv_iload hx hb dX12_level_160 (lv_at hl 0 rfl) ?_
                    have hP : va_P G.1 pCl (mW G h0 a (upd (upd (upd (upd (upd (upd (upd (upd F 15 (nI fa71)) 16 pl72) 27 (nI nd2)) 31 (nI wr2)) 64 (nI (at2 + 1))) 65 (nI ne)) 66 (nI (lk2 + 1))) 27 (nI nd2)) (updA X2 2 K)) _ := mW_to (F := F) (l1 := [(15, (nI fa71)), (16, pl72), (27, (nI nd2)), (31, (nI wr2)), (64, (nI (at2 + 1))), (65, (nI ne)), (66, (nI (lk2 + 1)))]) (l2 := [(15, (nI fa71)), (16, pl72), (27, (nI nd2)), (31, (nI wr2)), (64, (nI (at2 + 1))), (65, (nI ne)), (66, (nI (lk2 + 1))), (27, (nI nd2))]) (V := [(nI fa71), pl72, (nI nd2), (nI wr2), (nI (at2 + 1)), (nI ne), (nI (lk2 + 1)), (nI fa71), pl72, (nI nd2), (nI wr2), (nI (at2 + 1)), (nI ne), (nI (lk2 + 1)), (nI nd2)]) rfl rfl rfl hP
                    have hD : va_D A (mW G h0 a (upd (upd (upd (upd (upd (upd (upd (upd F 15 (nI fa71)) 16 pl72) 27 (nI nd2)) 31 (nI wr2)) 64 (nI (at2 + 1))) 65 (nI ne)) 66 (nI (lk2 + 1))) 27 (nI nd2)) (updA X2 2 K)) := mW_D hD
                    refine pc_V0 (G := G) (As := [.int 20, .int x606, .int (nI at2), .int (nI r2), .int 0]) (rest := []) hx hb hml hown hq hE hX pX0_al hP hD hS hA hl.1 (R_nodeB l G h0 a (upd (upd (upd (upd (upd (upd (upd F 15 (nI fa71)) 16 pl72) 27 (nI nd2)) 31 (nI wr2)) 64 (nI (at2 + 1))) 65 (nI ne)) 66 (nI (lk2 + 1))) X2 20 x606 (nI at2) (nI r2) 0 nd2 K (by omega)) (gV pw_1650 pw_1651 pw_1652 pw_1523 pw_1589) hV_X12_node 0 9 rfl rfl rfl rfl (Nat.le_of_ble_eq_true rfl) dX12_level_162 ⟨Nat.le_of_ble_eq_true rfl, Nat.le_of_ble_eq_true rfl⟩ ⟨(by show 2 + 1 ≤ (20 * n + (26 - lv)); omega), (by show 8 + (7 + 11) + 60 ≤ (1000 * n + 40 * (26 - lv)); omega)⟩ (fun v610 u608 H locs hw609 hP hD hS => ?_)
                    obtain ⟨X611, rfl⟩ : ∃ z, z = u608 := ⟨_, rfl⟩
                    obtain ⟨hw609, h612⟩ := hw609
                    have h612 : NewN X2 X611 nd2 20 x606 (nI at2) (nI r2) 0 := h612
                    obtain rfl : v610 = some (.int (nI nd2)) := hw609
                    have hP : va_P G.1 pCl (mW G h0 a (upd (upd (upd (upd (upd (upd (upd F 15 (nI fa71)) 16 pl72) 27 (nI (nd2 + 1))) 31 (nI wr2)) 64 (nI (at2 + 1))) 65 (nI ne)) 66 (nI (lk2 + 1))) (updA X611 2 K)) _ := mW_to (F := F) (l1 := [(15, (nI fa71)), (16, pl72), (27, (nI nd2)), (31, (nI wr2)), (64, (nI (at2 + 1))), (65, (nI ne)), (66, (nI (lk2 + 1))), (27, (nI (nd2 + 1)))]) (l2 := [(15, (nI fa71)), (16, pl72), (27, (nI (nd2 + 1))), (31, (nI wr2)), (64, (nI (at2 + 1))), (65, (nI ne)), (66, (nI (lk2 + 1)))]) (V := [(nI fa71), pl72, (nI (nd2 + 1)), (nI wr2), (nI (at2 + 1)), (nI ne), (nI (lk2 + 1)), (nI (nd2 + 1)), (nI fa71), pl72, (nI (nd2 + 1)), (nI wr2), (nI (at2 + 1)), (nI ne), (nI (lk2 + 1))]) rfl rfl rfl hP
                    have hD : va_D A (mW G h0 a (upd (upd (upd (upd (upd (upd (upd F 15 (nI fa71)) 16 pl72) 27 (nI (nd2 + 1))) 31 (nI wr2)) 64 (nI (at2 + 1))) 65 (nI ne)) 66 (nI (lk2 + 1))) (updA X611 2 K)) := mW_D hD
                    refine W.widen (k := 0) (n := 0) (Nat.le_of_ble_eq_true rfl) (Nat.le_of_ble_eq_true rfl) ?_
                    refine W.eq (g2 := F0 m 165 ls [.int (nI nd2)]) rfl ?_
                    have hkp613 : Kp B X611 wr2 T := (Kp.new hkp2 h612)
                    refine lv_istore_n (lv' := [(2, .int (nI nd2)), (5, .int 0), (4, .int (nI at2)), (3, .int (K at2)), (1, .int (nI lv)), (0, .ref h0)]) hx hb dX12_level_165 rfl hl (by decide) rfl (fun ls hl => ?_)
                    refine lv_goto (tgt := 19) hx hb dX12_level_166 (by decide) ?_
                    refine lv_aload_n hx hb dX12_level_19 rfl (lv_at hl 5 rfl) ?_
                    refine r_get (v := .int (nI fa71)) hx hb hown hq hE hP 15 350 tFX12_15 (by decide) pw_1594 rfl dX12_level_20 ?_
                    refine lv_if_ne (tgt := 169) hx hb dX12_level_23 (by decide) (fun c614 => ?_) (fun c614 => (by have n615 : fa71 = 0 := (nI_eq (a := fa71) (b := 0) (by omega) (by omega)).mp c614; omega))
                    refine lv_iload_n hx hb dX12_level_169 rfl (lv_at hl 0 rfl) ?_
                    have hz616 : at0 ≤ (at2 + 1) := (by omega)
                    have hz617 : (at2 + 1) ≤ T := (by omega)
                    have hz618 : fa71 ≤ 100 := (by omega)
                    have hz619 : nd ≤ (nd2 + 1) := (by omega)
                    have hz620 : (nd2 + 1) + 2 * at0 ≤ nd + 2 * (at2 + 1) + 100000 * fa71 := (by omega)
                    have hz621 : (nd2 + 1) + 2 * at0 ≤ nd + 2 * (at2 + 1) + 40 * (21 - ne) := (by omega)
                    have hz622 : wr ≤ wr2 := (by omega)
                    have hz623 : wr2 + at0 ≤ wr + (at2 + 1) := (by omega)
                    have hz624 : lk ≤ (lk2 + 1) := (by omega)
                    have hz625 : (lk2 + 1) ≤ 60 + 100 * fa71 := (by omega)
                    have hz626 : at0 + 1 ≤ (at2 + 1) + fa71 := (by omega)
                    have hz627 : nd2 ≤ (nd2 + 1) := (by omega)
                    have hz628 : Kp B X611 wr2 T := hkp613
                    have hz629 : If (fa71 = 0) (Low B X611 nd wr ∧ Frs K T wr2 X611 nd (nd2 + 1) 20000 [(nd2, (210 + (lk2 + 1) - (10 * ne + lk)))] ∧ kcl 1 (X611 9 nd2) = true) := (fun e => absurd e (by omega))
                    have hP : va_P G.1 pCl (mW G h0 a (upd (upd (upd (upd (upd (upd (upd F 15 (nI fa71)) 16 pl72) 27 (nI (nd2 + 1))) 31 (nI wr2)) 64 (nI (at2 + 1))) 65 (nI ne)) 66 (nI (lk2 + 1))) (updA X611 2 K)) _ := hP
                    have hD : va_D A (mW G h0 a (upd (upd (upd (upd (upd (upd (upd F 15 (nI fa71)) 16 pl72) 27 (nI (nd2 + 1))) 31 (nI wr2)) 64 (nI (at2 + 1))) 65 (nI ne)) 66 (nI (lk2 + 1))) (updA X611 2 K)) := mW_D hD
                    exact W.iret (v := (nI nd2)) hx hb hr (fun t9 ht9 hW9 => ⟨⟨_, ((at2 + 1), fa71, pl72, (nd2 + 1), (lk2 + 1), wr2, nd2, X611), rfl, ⟨rfl, hz616, hz617, hz618, hz619, hz620, hz621, hz622, hz623, hz624, hz625, hz626, hz627, hz628, hz629⟩, by rw [ht9]; exact hP, hD⟩, hS.F ht9⟩) hS.2.2 dX12_level_170
                · refine lv_aload_n hx hb dX12_level_76 rfl (lv_at hl 4 rfl) ?_
                  have hP : va_P G.1 pCl (mW G h0 a (upd (upd (upd (upd (upd (upd (upd (upd (upd (upd F 15 (nI fa71)) 16 pl72) 27 (nI nd2)) 31 (nI wr2)) 64 (nI (at2 + 1))) 65 (nI ne)) 66 (nI (lk2 + 1))) 15 (nI fa71)) 31 (nI wr2)) 64 (nI (at2 + 1))) (updA (updA (updA X2 2 K) 2 K) 19 (X2 19))) _ := mW_to (F := F) (l1 := [(15, (nI fa71)), (16, pl72), (27, (nI nd2)), (31, (nI wr2)), (64, (nI at2)), (65, (nI ne)), (66, (nI (lk2 + 1))), (64, (nI (at2 + 1)))]) (l2 := [(15, (nI fa71)), (16, pl72), (27, (nI nd2)), (31, (nI wr2)), (64, (nI (at2 + 1))), (65, (nI ne)), (66, (nI (lk2 + 1))), (15, (nI fa71)), (31, (nI wr2)), (64, (nI (at2 + 1)))]) (V := [(nI fa71), pl72, (nI nd2), (nI wr2), (nI (at2 + 1)), (nI ne), (nI (lk2 + 1)), (nI (at2 + 1)), (nI fa71), pl72, (nI nd2), (nI wr2), (nI (at2 + 1)), (nI ne), (nI (lk2 + 1)), (nI fa71), (nI wr2), (nI (at2 + 1))]) rfl rfl (show (updA X2 2 K) = (updA (updA (updA X2 2 K) 2 K) 19 (X2 19)) from updsA_eq2 (F := X2) (l1 := [(2, K)]) (l2 := [(2, K), (2, K), (19, (X2 19))]) (V := [K, K, K, (X2 19)]) rfl rfl) hP
                  have hD : va_D A (mW G h0 a (upd (upd (upd (upd (upd (upd (upd (upd (upd (upd F 15 (nI fa71)) 16 pl72) 27 (nI nd2)) 31 (nI wr2)) 64 (nI (at2 + 1))) 65 (nI ne)) 66 (nI (lk2 + 1))) 15 (nI fa71)) 31 (nI wr2)) 64 (nI (at2 + 1))) (updA (updA (updA X2 2 K) 2 K) 19 (X2 19))) := mW_D hD
                  refine pc_V0 (G := G) (As := []) (rest := []) hx hb hml hown hq hE hX pX0_al hP hD hS hA hl.1 (R_typeHere l G h0 a (upd (upd (upd (upd (upd (upd (upd F 15 (nI fa71)) 16 pl72) 27 (nI nd2)) 31 (nI wr2)) 64 (nI (at2 + 1))) 65 (nI ne)) 66 (nI (lk2 + 1))) (updA X2 2 K) (at2 + 1) T fa71 K wr2 (X2 19) (by omega) (by omega) hK (by omega) (by omega) (hkp2).2) (gV pw_1670 pw_1671 pw_1672 pw_1523 pw_1633) hV_X12_typeHere 0 9 rfl rfl rfl rfl (Nat.le_of_ble_eq_true rfl) dX12_level_77 ⟨Nat.le_of_ble_eq_true rfl, Nat.le_of_ble_eq_true rfl⟩ ⟨(by show 5 + 1 ≤ (20 * n + (26 - lv)); omega), (by show 8 + (2 + 11) + 124 ≤ (1000 * n + 40 * (26 - lv)); omega)⟩ (fun v632 u630 H locs hw631 hP hD hS => ?_)
                  obtain ⟨at633, fa634, pl635, wr636, r637, yt638, yr639⟩ := u630
                  obtain ⟨hw631, h640, h641, h642, h643, h644, h645, h646, h647, h648, h649, h650, h651, h652, h653⟩ := hw631
                  have h640 : (at2 + 1) ≤ at633 := h640
                  have h641 : at633 ≤ T := h641
                  have h642 : fa71 ≤ fa634 := h642
                  have h643 : fa634 ≤ 100 := h643
                  have h644 : If (0 < fa71) (at633 = (at2 + 1) ∧ fa634 = fa71) := h644
                  have h645 : wr2 ≤ wr636 := h645
                  have h646 : wr636 + (at2 + 1) ≤ wr2 + at633 := h646
                  have h647 : If (0 < fa71) (wr636 = wr2) := h647
                  have h648 : r637 + 1 ≤ wr636 + 6000 * fa634 := h648
                  have h649 : (at2 + 1) + 1 ≤ at633 + fa634 := h649
                  have h650 : tkRow yt638 wr636 T := h650
                  have h651 : ∀ i : Nat, i < wr2 → yt638 i = (X2 19) i := h651
                  have h652 : ∀ i : Nat, i < wr2 → yr639 i = (X2 20) i := h652
                  have h653 : r637 ≤ wr2 := h653
                  obtain rfl : v632 = some (.int (nI r637)) := hw631
                  have hP : va_P G.1 pCl (mW G h0 a (upd (upd (upd (upd (upd (upd (upd F 15 (nI fa634)) 16 pl635) 27 (nI nd2)) 31 (nI wr636)) 64 (nI at633)) 65 (nI ne)) 66 (nI (lk2 + 1))) (updA (updA (updA X2 2 K) 19 yt638) 20 yr639)) _ := mW_to (F := F) (l1 := [(15, (nI fa71)), (16, pl72), (27, (nI nd2)), (31, (nI wr2)), (64, (nI (at2 + 1))), (65, (nI ne)), (66, (nI (lk2 + 1))), (15, (nI fa634)), (16, pl635), (31, (nI wr636)), (64, (nI at633))]) (l2 := [(15, (nI fa634)), (16, pl635), (27, (nI nd2)), (31, (nI wr636)), (64, (nI at633)), (65, (nI ne)), (66, (nI (lk2 + 1)))]) (V := [(nI fa634), pl635, (nI nd2), (nI wr636), (nI at633), (nI ne), (nI (lk2 + 1)), (nI fa634), pl635, (nI wr636), (nI at633), (nI fa634), pl635, (nI nd2), (nI wr636), (nI at633), (nI ne), (nI (lk2 + 1))]) rfl rfl (show (updA (updA (updA (updA X2 2 K) 2 K) 19 yt638) 20 yr639) = (updA (updA (updA X2 2 K) 19 yt638) 20 yr639) from updsA_eq2 (F := X2) (l1 := [(2, K), (2, K), (19, yt638), (20, yr639)]) (l2 := [(2, K), (19, yt638), (20, yr639)]) (V := [K, K, yt638, yr639, K, yt638, yr639]) rfl rfl) hP
                  have hD : va_D A (mW G h0 a (upd (upd (upd (upd (upd (upd (upd F 15 (nI fa634)) 16 pl635) 27 (nI nd2)) 31 (nI wr636)) 64 (nI at633)) 65 (nI ne)) 66 (nI (lk2 + 1))) (updA (updA (updA X2 2 K) 19 yt638) 20 yr639)) := mW_D hD
                  refine W.widen (k := 0) (n := 0) (Nat.le_of_ble_eq_true rfl) (Nat.le_of_ble_eq_true rfl) ?_
                  refine W.eq (g2 := F0 m 80 ls [.int (nI r637)]) rfl ?_
                  have hP : va_P G.1 pCl (mW G h0 a (upd (upd (upd (upd (upd (upd (upd F 15 (nI fa634)) 16 pl635) 27 (nI nd2)) 31 (nI wr636)) 64 (nI at633)) 65 (nI ne)) 66 (nI (lk2 + 1))) (updA (updA (updA X2 19 yt638) 20 yr639) 2 K)) _ := mW_to (F := F) (l1 := [(15, (nI fa634)), (16, pl635), (27, (nI nd2)), (31, (nI wr636)), (64, (nI at633)), (65, (nI ne)), (66, (nI (lk2 + 1)))]) (l2 := [(15, (nI fa634)), (16, pl635), (27, (nI nd2)), (31, (nI wr636)), (64, (nI at633)), (65, (nI ne)), (66, (nI (lk2 + 1)))]) (V := [(nI fa634), pl635, (nI nd2), (nI wr636), (nI at633), (nI ne), (nI (lk2 + 1)), (nI fa634), pl635, (nI nd2), (nI wr636), (nI at633), (nI ne), (nI (lk2 + 1))]) rfl rfl (show (updA (updA (updA X2 2 K) 19 yt638) 20 yr639) = (updA (updA (updA X2 19 yt638) 20 yr639) 2 K) from updsA_eq2 (F := X2) (l1 := [(2, K), (19, yt638), (20, yr639)]) (l2 := [(19, yt638), (20, yr639), (2, K)]) (V := [K, yt638, yr639, yt638, yr639, K]) rfl rfl) hP
                  have hD : va_D A (mW G h0 a (upd (upd (upd (upd (upd (upd (upd F 15 (nI fa634)) 16 pl635) 27 (nI nd2)) 31 (nI wr636)) 64 (nI at633)) 65 (nI ne)) 66 (nI (lk2 + 1))) (updA (updA (updA X2 19 yt638) 20 yr639) 2 K)) := mW_D hD
                  have hkp654 : Kp B (updA (updA X2 19 yt638) 20 yr639) wr636 T := (Kp.y hkp2 h650)
                  obtain ⟨n656, n655⟩ := h644 e77
                  replace n656 := n656.symm
                  subst n656
                  replace n655 := n655.symm
                  subst n655
                  refine lv_istore (lv' := [(5, .int (nI r637)), (4, .int (nI at2)), (3, .int (K at2)), (2, .int (nI r2)), (1, .int (nI lv)), (0, .ref h0)]) hx hb dX12_level_80 hl (by decide) rfl (fun ls hl => ?_)
                  refine lv_aload_n hx hb dX12_level_82 rfl (lv_at hl 5 rfl) ?_
                  refine lv_iload_n hx hb dX12_level_83 rfl (lv_at hl 2 rfl) ?_
                  refine lv_sipush (v := 325) hx hb dX12_level_84 (by decide) ?_
                  refine lv_icmp_ne (tgt := 95) hx hb dX12_level_87 (by decide) (fun c657 => ?_) (fun c657 => ?_)
                  · refine lv_bipush (v := 22) hx hb dX12_level_95 (by decide) ?_
                    refine lv_aload_n hx hb dX12_level_97 rfl (lv_at hl 5 rfl) ?_
                    refine r_get (v := .ref (a 10)) hx hb hown hq hE hP 18 41 tFX12_18 (by decide) pw_1440 rfl dX12_level_98 ?_
                    refine lv_iload_n hx hb dX12_level_101 rfl (lv_at hl 3 rfl) ?_
                    refine r_ldi (f := ((updA (updA X2 19 yt638) 20 yr639) 10)) (j := r2) hx hb hE hP 10 (ma_10 G a _) rfl (by omega) (by decide) dX12_level_102 ?_
                    refine lv_topi (fun x658 e659 => ?_)
                    refine lv_iload hx hb dX12_level_103 (lv_at hl 1 rfl) ?_
                    refine lv_iload_n hx hb dX12_level_105 rfl (lv_at hl 3 rfl) ?_
                    refine lv_iload hx hb dX12_level_106 (lv_at hl 0 rfl) ?_
                    have hP : va_P G.1 pCl (mW G h0 a (upd (upd (upd (upd (upd (upd (upd (upd F 15 (nI fa71)) 16 pl635) 27 (nI nd2)) 31 (nI wr636)) 64 (nI (at2 + 1))) 65 (nI ne)) 66 (nI (lk2 + 1))) 27 (nI nd2)) (updA (updA (updA X2 19 yt638) 20 yr639) 2 K)) _ := hP
                    have hD : va_D A (mW G h0 a (upd (upd (upd (upd (upd (upd (upd (upd F 15 (nI fa71)) 16 pl635) 27 (nI nd2)) 31 (nI wr636)) 64 (nI (at2 + 1))) 65 (nI ne)) 66 (nI (lk2 + 1))) 27 (nI nd2)) (updA (updA (updA X2 19 yt638) 20 yr639) 2 K)) := mW_D hD
                    refine pc_V0 (G := G) (As := [.int 22, .int x658, .int (nI at2), .int (nI r2), .int (nI r637)]) (rest := []) hx hb hml hown hq hE hX pX0_al hP hD hS hA hl.1 (R_nodeB l G h0 a (upd (upd (upd (upd (upd (upd (upd F 15 (nI fa71)) 16 pl635) 27 (nI nd2)) 31 (nI wr636)) 64 (nI (at2 + 1))) 65 (nI ne)) 66 (nI (lk2 + 1))) (updA (updA X2 19 yt638) 20 yr639) 22 x658 (nI at2) (nI r2) (nI r637) nd2 K (by omega)) (gV pw_1650 pw_1651 pw_1652 pw_1523 pw_1589) hV_X12_node 0 9 rfl rfl rfl rfl (Nat.le_of_ble_eq_true rfl) dX12_level_108 ⟨Nat.le_of_ble_eq_true rfl, Nat.le_of_ble_eq_true rfl⟩ ⟨(by show 2 + 1 ≤ (20 * n + (26 - lv)); omega), (by show 8 + (7 + 11) + 60 ≤ (1000 * n + 40 * (26 - lv)); omega)⟩ (fun v662 u660 H locs hw661 hP hD hS => ?_)
                    obtain ⟨X663, rfl⟩ : ∃ z, z = u660 := ⟨_, rfl⟩
                    obtain ⟨hw661, h664⟩ := hw661
                    have h664 : NewN (updA (updA X2 19 yt638) 20 yr639) X663 nd2 22 x658 (nI at2) (nI r2) (nI r637) := h664
                    obtain rfl : v662 = some (.int (nI nd2)) := hw661
                    have hP : va_P G.1 pCl (mW G h0 a (upd (upd (upd (upd (upd (upd (upd F 15 (nI fa71)) 16 pl635) 27 (nI (nd2 + 1))) 31 (nI wr636)) 64 (nI (at2 + 1))) 65 (nI ne)) 66 (nI (lk2 + 1))) (updA X663 2 K)) _ := mW_to (F := F) (l1 := [(15, (nI fa71)), (16, pl635), (27, (nI nd2)), (31, (nI wr636)), (64, (nI (at2 + 1))), (65, (nI ne)), (66, (nI (lk2 + 1))), (27, (nI (nd2 + 1)))]) (l2 := [(15, (nI fa71)), (16, pl635), (27, (nI (nd2 + 1))), (31, (nI wr636)), (64, (nI (at2 + 1))), (65, (nI ne)), (66, (nI (lk2 + 1)))]) (V := [(nI fa71), pl635, (nI (nd2 + 1)), (nI wr636), (nI (at2 + 1)), (nI ne), (nI (lk2 + 1)), (nI (nd2 + 1)), (nI fa71), pl635, (nI (nd2 + 1)), (nI wr636), (nI (at2 + 1)), (nI ne), (nI (lk2 + 1))]) rfl rfl rfl hP
                    have hD : va_D A (mW G h0 a (upd (upd (upd (upd (upd (upd (upd F 15 (nI fa71)) 16 pl635) 27 (nI (nd2 + 1))) 31 (nI wr636)) 64 (nI (at2 + 1))) 65 (nI ne)) 66 (nI (lk2 + 1))) (updA X663 2 K)) := mW_D hD
                    refine W.widen (k := 0) (n := 0) (Nat.le_of_ble_eq_true rfl) (Nat.le_of_ble_eq_true rfl) ?_
                    refine W.eq (g2 := F0 m 111 ls [.int (nI nd2)]) rfl ?_
                    have hkp665 : Kp B X663 wr636 T := (Kp.new hkp654 h664)
                    refine lv_istore_n (lv' := [(2, .int (nI nd2)), (5, .int (nI r637)), (4, .int (nI at2)), (3, .int (K at2)), (1, .int (nI lv)), (0, .ref h0)]) hx hb dX12_level_111 rfl hl (by decide) rfl (fun ls hl => ?_)
                    refine lv_goto (tgt := 166) hx hb dX12_level_112 (by decide) ?_
                    refine lv_goto (tgt := 19) hx hb dX12_level_166 (by decide) ?_
                    refine lv_aload_n hx hb dX12_level_19 rfl (lv_at hl 5 rfl) ?_
                    refine r_get (v := .int (nI fa71)) hx hb hown hq hE hP 15 350 tFX12_15 (by decide) pw_1594 rfl dX12_level_20 ?_
                    refine lv_if_ne (tgt := 169) hx hb dX12_level_23 (by decide) (fun c666 => ?_) (fun c666 => (by have n667 : fa71 = 0 := (nI_eq (a := fa71) (b := 0) (by omega) (by omega)).mp c666; omega))
                    refine lv_iload_n hx hb dX12_level_169 rfl (lv_at hl 0 rfl) ?_
                    have hz668 : at0 ≤ (at2 + 1) := (by omega)
                    have hz669 : (at2 + 1) ≤ T := (by omega)
                    have hz670 : fa71 ≤ 100 := (by omega)
                    have hz671 : nd ≤ (nd2 + 1) := (by omega)
                    have hz672 : (nd2 + 1) + 2 * at0 ≤ nd + 2 * (at2 + 1) + 100000 * fa71 := (by omega)
                    have hz673 : (nd2 + 1) + 2 * at0 ≤ nd + 2 * (at2 + 1) + 40 * (21 - ne) := (by omega)
                    have hz674 : wr ≤ wr636 := (by omega)
                    have hz675 : wr636 + at0 ≤ wr + (at2 + 1) := (by omega)
                    have hz676 : lk ≤ (lk2 + 1) := (by omega)
                    have hz677 : (lk2 + 1) ≤ 60 + 100 * fa71 := (by omega)
                    have hz678 : at0 + 1 ≤ (at2 + 1) + fa71 := (by omega)
                    have hz679 : nd2 ≤ (nd2 + 1) := (by omega)
                    have hz680 : Kp B X663 wr636 T := hkp665
                    have hz681 : If (fa71 = 0) (Low B X663 nd wr ∧ Frs K T wr636 X663 nd (nd2 + 1) 20000 [(nd2, (210 + (lk2 + 1) - (10 * ne + lk)))] ∧ kcl 1 (X663 9 nd2) = true) := (fun e => absurd e (by omega))
                    have hP : va_P G.1 pCl (mW G h0 a (upd (upd (upd (upd (upd (upd (upd F 15 (nI fa71)) 16 pl635) 27 (nI (nd2 + 1))) 31 (nI wr636)) 64 (nI (at2 + 1))) 65 (nI ne)) 66 (nI (lk2 + 1))) (updA X663 2 K)) _ := hP
                    have hD : va_D A (mW G h0 a (upd (upd (upd (upd (upd (upd (upd F 15 (nI fa71)) 16 pl635) 27 (nI (nd2 + 1))) 31 (nI wr636)) 64 (nI (at2 + 1))) 65 (nI ne)) 66 (nI (lk2 + 1))) (updA X663 2 K)) := mW_D hD
                    exact W.iret (v := (nI nd2)) hx hb hr (fun t9 ht9 hW9 => ⟨⟨_, ((at2 + 1), fa71, pl635, (nd2 + 1), (lk2 + 1), wr636, nd2, X663), rfl, ⟨rfl, hz668, hz669, hz670, hz671, hz672, hz673, hz674, hz675, hz676, hz677, hz678, hz679, hz680, hz681⟩, by rw [ht9]; exact hP, hD⟩, hS.F ht9⟩) hS.2.2 dX12_level_170
                  · refine lv_bipush (v := 21) hx hb dX12_level_90 (by decide) ?_
                    refine lv_goto (tgt := 97) hx hb dX12_level_92 (by decide) ?_
                    refine lv_aload_n hx hb dX12_level_97 rfl (lv_at hl 5 rfl) ?_
                    refine r_get (v := .ref (a 10)) hx hb hown hq hE hP 18 41 tFX12_18 (by decide) pw_1440 rfl dX12_level_98 ?_
                    refine lv_iload_n hx hb dX12_level_101 rfl (lv_at hl 3 rfl) ?_
                    refine r_ldi (f := ((updA (updA X2 19 yt638) 20 yr639) 10)) (j := r2) hx hb hE hP 10 (ma_10 G a _) rfl (by omega) (by decide) dX12_level_102 ?_
                    refine lv_topi (fun x682 e683 => ?_)
                    refine lv_iload hx hb dX12_level_103 (lv_at hl 1 rfl) ?_
                    refine lv_iload_n hx hb dX12_level_105 rfl (lv_at hl 3 rfl) ?_
                    refine lv_iload hx hb dX12_level_106 (lv_at hl 0 rfl) ?_
                    have hP : va_P G.1 pCl (mW G h0 a (upd (upd (upd (upd (upd (upd (upd (upd F 15 (nI fa71)) 16 pl635) 27 (nI nd2)) 31 (nI wr636)) 64 (nI (at2 + 1))) 65 (nI ne)) 66 (nI (lk2 + 1))) 27 (nI nd2)) (updA (updA (updA X2 19 yt638) 20 yr639) 2 K)) _ := hP
                    have hD : va_D A (mW G h0 a (upd (upd (upd (upd (upd (upd (upd (upd F 15 (nI fa71)) 16 pl635) 27 (nI nd2)) 31 (nI wr636)) 64 (nI (at2 + 1))) 65 (nI ne)) 66 (nI (lk2 + 1))) 27 (nI nd2)) (updA (updA (updA X2 19 yt638) 20 yr639) 2 K)) := mW_D hD
                    refine pc_V0 (G := G) (As := [.int 21, .int x682, .int (nI at2), .int (nI r2), .int (nI r637)]) (rest := []) hx hb hml hown hq hE hX pX0_al hP hD hS hA hl.1 (R_nodeB l G h0 a (upd (upd (upd (upd (upd (upd (upd F 15 (nI fa71)) 16 pl635) 27 (nI nd2)) 31 (nI wr636)) 64 (nI (at2 + 1))) 65 (nI ne)) 66 (nI (lk2 + 1))) (updA (updA X2 19 yt638) 20 yr639) 21 x682 (nI at2) (nI r2) (nI r637) nd2 K (by omega)) (gV pw_1650 pw_1651 pw_1652 pw_1523 pw_1589) hV_X12_node 0 9 rfl rfl rfl rfl (Nat.le_of_ble_eq_true rfl) dX12_level_108 ⟨Nat.le_of_ble_eq_true rfl, Nat.le_of_ble_eq_true rfl⟩ ⟨(by show 2 + 1 ≤ (20 * n + (26 - lv)); omega), (by show 8 + (7 + 11) + 60 ≤ (1000 * n + 40 * (26 - lv)); omega)⟩ (fun v686 u684 H locs hw685 hP hD hS => ?_)
                    obtain ⟨X687, rfl⟩ : ∃ z, z = u684 := ⟨_, rfl⟩
                    obtain ⟨hw685, h688⟩ := hw685
                    have h688 : NewN (updA (updA X2 19 yt638) 20 yr639) X687 nd2 21 x682 (nI at2) (nI r2) (nI r637) := h688
                    obtain rfl : v686 = some (.int (nI nd2)) := hw685
                    have hP : va_P G.1 pCl (mW G h0 a (upd (upd (upd (upd (upd (upd (upd F 15 (nI fa71)) 16 pl635) 27 (nI (nd2 + 1))) 31 (nI wr636)) 64 (nI (at2 + 1))) 65 (nI ne)) 66 (nI (lk2 + 1))) (updA X687 2 K)) _ := mW_to (F := F) (l1 := [(15, (nI fa71)), (16, pl635), (27, (nI nd2)), (31, (nI wr636)), (64, (nI (at2 + 1))), (65, (nI ne)), (66, (nI (lk2 + 1))), (27, (nI (nd2 + 1)))]) (l2 := [(15, (nI fa71)), (16, pl635), (27, (nI (nd2 + 1))), (31, (nI wr636)), (64, (nI (at2 + 1))), (65, (nI ne)), (66, (nI (lk2 + 1)))]) (V := [(nI fa71), pl635, (nI (nd2 + 1)), (nI wr636), (nI (at2 + 1)), (nI ne), (nI (lk2 + 1)), (nI (nd2 + 1)), (nI fa71), pl635, (nI (nd2 + 1)), (nI wr636), (nI (at2 + 1)), (nI ne), (nI (lk2 + 1))]) rfl rfl rfl hP
                    have hD : va_D A (mW G h0 a (upd (upd (upd (upd (upd (upd (upd F 15 (nI fa71)) 16 pl635) 27 (nI (nd2 + 1))) 31 (nI wr636)) 64 (nI (at2 + 1))) 65 (nI ne)) 66 (nI (lk2 + 1))) (updA X687 2 K)) := mW_D hD
                    refine W.widen (k := 0) (n := 0) (Nat.le_of_ble_eq_true rfl) (Nat.le_of_ble_eq_true rfl) ?_
                    refine W.eq (g2 := F0 m 111 ls [.int (nI nd2)]) rfl ?_
                    have hkp689 : Kp B X687 wr636 T := (Kp.new hkp654 h688)
                    refine lv_istore_n (lv' := [(2, .int (nI nd2)), (5, .int (nI r637)), (4, .int (nI at2)), (3, .int (K at2)), (1, .int (nI lv)), (0, .ref h0)]) hx hb dX12_level_111 rfl hl (by decide) rfl (fun ls hl => ?_)
                    refine lv_goto (tgt := 166) hx hb dX12_level_112 (by decide) ?_
                    refine lv_goto (tgt := 19) hx hb dX12_level_166 (by decide) ?_
                    refine lv_aload_n hx hb dX12_level_19 rfl (lv_at hl 5 rfl) ?_
                    refine r_get (v := .int (nI fa71)) hx hb hown hq hE hP 15 350 tFX12_15 (by decide) pw_1594 rfl dX12_level_20 ?_
                    refine lv_if_ne (tgt := 169) hx hb dX12_level_23 (by decide) (fun c690 => ?_) (fun c690 => (by have n691 : fa71 = 0 := (nI_eq (a := fa71) (b := 0) (by omega) (by omega)).mp c690; omega))
                    refine lv_iload_n hx hb dX12_level_169 rfl (lv_at hl 0 rfl) ?_
                    have hz692 : at0 ≤ (at2 + 1) := (by omega)
                    have hz693 : (at2 + 1) ≤ T := (by omega)
                    have hz694 : fa71 ≤ 100 := (by omega)
                    have hz695 : nd ≤ (nd2 + 1) := (by omega)
                    have hz696 : (nd2 + 1) + 2 * at0 ≤ nd + 2 * (at2 + 1) + 100000 * fa71 := (by omega)
                    have hz697 : (nd2 + 1) + 2 * at0 ≤ nd + 2 * (at2 + 1) + 40 * (21 - ne) := (by omega)
                    have hz698 : wr ≤ wr636 := (by omega)
                    have hz699 : wr636 + at0 ≤ wr + (at2 + 1) := (by omega)
                    have hz700 : lk ≤ (lk2 + 1) := (by omega)
                    have hz701 : (lk2 + 1) ≤ 60 + 100 * fa71 := (by omega)
                    have hz702 : at0 + 1 ≤ (at2 + 1) + fa71 := (by omega)
                    have hz703 : nd2 ≤ (nd2 + 1) := (by omega)
                    have hz704 : Kp B X687 wr636 T := hkp689
                    have hz705 : If (fa71 = 0) (Low B X687 nd wr ∧ Frs K T wr636 X687 nd (nd2 + 1) 20000 [(nd2, (210 + (lk2 + 1) - (10 * ne + lk)))] ∧ kcl 1 (X687 9 nd2) = true) := (fun e => absurd e (by omega))
                    have hP : va_P G.1 pCl (mW G h0 a (upd (upd (upd (upd (upd (upd (upd F 15 (nI fa71)) 16 pl635) 27 (nI (nd2 + 1))) 31 (nI wr636)) 64 (nI (at2 + 1))) 65 (nI ne)) 66 (nI (lk2 + 1))) (updA X687 2 K)) _ := hP
                    have hD : va_D A (mW G h0 a (upd (upd (upd (upd (upd (upd (upd F 15 (nI fa71)) 16 pl635) 27 (nI (nd2 + 1))) 31 (nI wr636)) 64 (nI (at2 + 1))) 65 (nI ne)) 66 (nI (lk2 + 1))) (updA X687 2 K)) := mW_D hD
                    exact W.iret (v := (nI nd2)) hx hb hr (fun t9 ht9 hW9 => ⟨⟨_, ((at2 + 1), fa71, pl635, (nd2 + 1), (lk2 + 1), wr636, nd2, X687), rfl, ⟨rfl, hz692, hz693, hz694, hz695, hz696, hz697, hz698, hz699, hz700, hz701, hz702, hz703, hz704, hz705⟩, by rw [ht9]; exact hP, hD⟩, hS.F ht9⟩) hS.2.2 dX12_level_170
      have hP : va_P G.1 pCl (mW G h0 a (upd (upd (upd (upd (upd (upd (upd F 15 0) 16 pl12) 27 (nI nd13)) 31 (nI wr15)) 64 (nI at10)) 65 (nI ne)) 66 (nI lk14)) (updA X17 2 K)) _ := hP
      have hD : va_D A (mW G h0 a (upd (upd (upd (upd (upd (upd (upd F 15 0) 16 pl12) 27 (nI nd13)) 31 (nI wr15)) 64 (nI at10)) 65 (nI ne)) 66 (nI lk14)) (updA X17 2 K)) := mW_D hD
      exact loop_o (T + 1) at10 nd13 wr15 lk14 pl12 X17 r16 _ _ _ (by omega) (by omega) (by omega) (by omega) (by omega) (by omega) (by omega) (by omega) (by omega) (by omega) hkp32 hlo37 (by omega) (Frs.up hf35 (by omega)) hc36 hP hD hS (lv_sub hl [0, 2, 1] rfl)
    · have e33 := e33
      refine lv_istore_n (lv' := [(2, .int (nI r16)), (0, .ref h0), (1, .int (nI lv))]) hx hb dX12_level_18 rfl hl (by decide) rfl (fun ls hl => ?_)
      refine lv_aload_n hx hb dX12_level_19 rfl (lv_at hl 1 rfl) ?_
      refine r_get (v := .int (nI fa11)) hx hb hown hq hE hP 15 350 tFX12_15 (by decide) pw_1594 rfl dX12_level_20 ?_
      refine lv_if_ne (tgt := 169) hx hb dX12_level_23 (by decide) (fun c706 => ?_) (fun c706 => (by have n707 : fa11 = 0 := (nI_eq (a := fa11) (b := 0) (by omega) (by omega)).mp c706; omega))
      refine lv_iload_n hx hb dX12_level_169 rfl (lv_at hl 0 rfl) ?_
      have hz708 : at0 ≤ at10 := (by omega)
      have hz709 : at10 ≤ T := (by omega)
      have hz710 : fa11 ≤ 100 := (by omega)
      have hz711 : nd ≤ nd13 := (by omega)
      have hz712 : nd13 + 2 * at0 ≤ nd + 2 * at10 + 100000 * fa11 := (by omega)
      have hz713 : nd13 + 2 * at0 ≤ nd + 2 * at10 + 40 * (21 - ne) := (by omega)
      have hz714 : wr ≤ wr15 := (by omega)
      have hz715 : wr15 + at0 ≤ wr + at10 := (by omega)
      have hz716 : lk ≤ lk14 := (by omega)
      have hz717 : lk14 ≤ 60 + 100 * fa11 := (by omega)
      have hz718 : at0 + 1 ≤ at10 + fa11 := (by omega)
      have hz719 : r16 ≤ nd13 := (by omega)
      have hz720 : Kp B X17 wr15 T := hkp32
      have hz721 : If (fa11 = 0) (Low B X17 nd wr ∧ Frs K T wr15 X17 nd nd13 20000 [(r16, (210 + lk14 - (10 * ne + lk)))] ∧ kcl 1 (X17 9 r16) = true) := (fun e => absurd e (by omega))
      have hP : va_P G.1 pCl (mW G h0 a (upd (upd (upd (upd (upd (upd (upd F 15 (nI fa11)) 16 pl12) 27 (nI nd13)) 31 (nI wr15)) 64 (nI at10)) 65 (nI ne)) 66 (nI lk14)) (updA X17 2 K)) _ := hP
      have hD : va_D A (mW G h0 a (upd (upd (upd (upd (upd (upd (upd F 15 (nI fa11)) 16 pl12) 27 (nI nd13)) 31 (nI wr15)) 64 (nI at10)) 65 (nI ne)) 66 (nI lk14)) (updA X17 2 K)) := mW_D hD
      exact W.iret (v := (nI r16)) hx hb hr (fun t9 ht9 hW9 => ⟨⟨_, (at10, fa11, pl12, nd13, lk14, wr15, r16, X17), rfl, ⟨rfl, hz708, hz709, hz710, hz711, hz712, hz713, hz714, hz715, hz716, hz717, hz718, hz719, hz720, hz721⟩, by rw [ht9]; exact hP, hD⟩, hS.F ht9⟩) hS.2.2 dX12_level_170
  · have n722 : lv = 10 := (nI_eq (a := lv) (b := 10) (by omega) (by omega)).mp c3
    refine lv_aload_n hx hb dX12_level_6 rfl (lv_at hl 0 rfl) ?_
    have hP : va_P G.1 pCl (mW G h0 a (upd (upd (upd (upd (upd (upd (upd (upd (upd (upd (upd (upd F 15 0) 27 (nI nd)) 31 (nI wr)) 64 (nI at0)) 65 (nI ne)) 66 (nI lk)) 15 0) 27 (nI nd)) 31 (nI wr)) 64 (nI at0)) 65 (nI ne)) 66 (nI lk)) (updA B 2 K)) _ := mW_to (F := F) (l1 := [(15, 0), (27, (nI nd)), (31, (nI wr)), (64, (nI at0)), (65, (nI ne)), (66, (nI lk))]) (l2 := [(15, 0), (27, (nI nd)), (31, (nI wr)), (64, (nI at0)), (65, (nI ne)), (66, (nI lk)), (15, 0), (27, (nI nd)), (31, (nI wr)), (64, (nI at0)), (65, (nI ne)), (66, (nI lk))]) (V := [0, (nI nd), (nI wr), (nI at0), (nI ne), (nI lk), 0, (nI nd), (nI wr), (nI at0), (nI ne), (nI lk), 0, (nI nd), (nI wr), (nI at0), (nI ne), (nI lk)]) rfl rfl rfl hP
    have hD : va_D A (mW G h0 a (upd (upd (upd (upd (upd (upd (upd (upd (upd (upd (upd (upd F 15 0) 27 (nI nd)) 31 (nI wr)) 64 (nI at0)) 65 (nI ne)) 66 (nI lk)) 15 0) 27 (nI nd)) 31 (nI wr)) 64 (nI at0)) 65 (nI ne)) 66 (nI lk)) (updA B 2 K)) := mW_D hD
    refine pc_V0 (G := G) (As := []) (rest := []) hx hb hml hown hq hE hX pX0_al hP hD hS hA hl.1 (hf h0 a (upd (upd (upd (upd (upd (upd F 15 0) 27 (nI nd)) 31 (nI wr)) 64 (nI at0)) 65 (nI ne)) 66 (nI lk)) B at0 T ne nd wr lk K (by omega) (by omega) hK (by omega) (by omega) (by omega) (by omega) (hkp1).2 (by omega)) (gV pw_1664 pw_1665 pw_1666 pw_1523 pw_1660) hV_X12_front 0 9 rfl rfl rfl rfl (Nat.le_of_ble_eq_true rfl) dX12_level_7 ⟨Nat.le_of_ble_eq_true rfl, Nat.le_of_ble_eq_true rfl⟩ ⟨(by show (20 * n + 14) + 1 ≤ (20 * n + (26 - lv)); omega), (by show 8 + (4 + 11) + (1000 * n + 40 * 14) ≤ (1000 * n + 40 * (26 - lv)); omega)⟩ (fun v725 u723 H locs hw724 hP hD hS => ?_)
    obtain ⟨at726, fa727, pl728, nd729, lk730, wr731, r732, X733⟩ := u723
    obtain ⟨hw724, h734, h735, h736, h737, h738, h739, h740, h741, h742, h743, h744, h745, h746, h747⟩ := hw724
    have h734 : at0 ≤ at726 := h734
    have h735 : at726 ≤ T := h735
    have h736 : fa727 ≤ 100 := h736
    have h737 : nd ≤ nd729 := h737
    have h738 : nd729 + 2 * at0 ≤ nd + 2 * at726 + 100000 * fa727 := h738
    have h739 : nd729 + 2 * at0 ≤ nd + 2 * at726 + 40 * (21 - ne) := h739
    have h740 : wr ≤ wr731 := h740
    have h741 : wr731 + at0 ≤ wr + at726 := h741
    have h742 : lk ≤ lk730 := h742
    have h743 : lk730 ≤ 60 + 100 * fa727 := h743
    have h744 : at0 + 1 ≤ at726 + fa727 := h744
    have h745 : r732 ≤ nd729 := h745
    have h746 : Kp B X733 wr731 T := h746
    have h747 : If (fa727 = 0) (Low B X733 nd wr ∧ Frs K T wr731 X733 nd nd729 20000 [(r732, (210 + lk730 - (10 * ne + lk)))] ∧ kcl 1 (X733 9 r732) = true) := h747
    obtain rfl : v725 = some (.int (nI r732)) := hw724
    have hP : va_P G.1 pCl (mW G h0 a (upd (upd (upd (upd (upd (upd (upd F 15 (nI fa727)) 16 pl728) 27 (nI nd729)) 31 (nI wr731)) 64 (nI at726)) 65 (nI ne)) 66 (nI lk730)) (updA X733 2 K)) _ := mW_to (F := F) (l1 := [(15, 0), (27, (nI nd)), (31, (nI wr)), (64, (nI at0)), (65, (nI ne)), (66, (nI lk)), (15, (nI fa727)), (16, pl728), (27, (nI nd729)), (31, (nI wr731)), (64, (nI at726)), (65, (nI ne)), (66, (nI lk730))]) (l2 := [(15, (nI fa727)), (16, pl728), (27, (nI nd729)), (31, (nI wr731)), (64, (nI at726)), (65, (nI ne)), (66, (nI lk730))]) (V := [(nI fa727), (nI nd729), (nI wr731), (nI at726), (nI ne), (nI lk730), (nI fa727), pl728, (nI nd729), (nI wr731), (nI at726), (nI ne), (nI lk730), (nI fa727), pl728, (nI nd729), (nI wr731), (nI at726), (nI ne), (nI lk730)]) rfl rfl rfl hP
    have hD : va_D A (mW G h0 a (upd (upd (upd (upd (upd (upd (upd F 15 (nI fa727)) 16 pl728) 27 (nI nd729)) 31 (nI wr731)) 64 (nI at726)) 65 (nI ne)) 66 (nI lk730)) (updA X733 2 K)) := mW_D hD
    refine W.widen (k := 0) (n := 0) (Nat.le_of_ble_eq_true rfl) (Nat.le_of_ble_eq_true rfl) ?_
    refine W.eq (g2 := F0 m 10 ls [.int (nI r732)]) rfl ?_
    have hkp748 : Kp B X733 wr731 T := (Kp.trans hkp1 h746)
    rcases Nat.eq_zero_or_pos fa727 with e749 | e749
    · subst e749
      have hP : va_P G.1 pCl (mW G h0 a (upd (upd (upd (upd (upd (upd (upd F 15 0) 16 pl728) 27 (nI nd729)) 31 (nI wr731)) 64 (nI at726)) 65 (nI ne)) 66 (nI lk730)) (updA X733 2 K)) _ := hP
      have hD : va_D A (mW G h0 a (upd (upd (upd (upd (upd (upd (upd F 15 0) 16 pl728) 27 (nI nd729)) 31 (nI wr731)) 64 (nI at726)) 65 (nI ne)) 66 (nI lk730)) (updA X733 2 K)) := mW_D hD
      obtain ⟨hlw750, hf751, hc752⟩ := h747 rfl
      have hlo753 : Low B X733 nd wr := (Low.trans hlo2 hlw750 (by omega) (by omega))
      have hm754 := Frs.mem hf751
      have hz755 : at0 ≤ at726 := (by omega)
      have hz756 : at726 ≤ T := (by omega)
      have hz757 : 0 ≤ 100 := (by omega)
      have hz758 : nd ≤ nd729 := (by omega)
      have hz759 : nd729 + 2 * at0 ≤ nd + 2 * at726 + 100000 * 0 := (by omega)
      have hz760 : nd729 + 2 * at0 ≤ nd + 2 * at726 + 40 * (21 - ne) := (by omega)
      have hz761 : wr ≤ wr731 := (by omega)
      have hz762 : wr731 + at0 ≤ wr + at726 := (by omega)
      have hz763 : lk ≤ lk730 := (by omega)
      have hz764 : lk730 ≤ 60 + 100 * 0 := (by omega)
      have hz765 : at0 + 1 ≤ at726 + 0 := (by omega)
      have hz766 : r732 ≤ nd729 := (by omega)
      have hz767 : Kp B X733 wr731 T := hkp748
      have hz768 : If (0 = 0) (Low B X733 nd wr ∧ Frs K T wr731 X733 nd nd729 20000 [(r732, (210 + lk730 - (10 * ne + lk)))] ∧ kcl 1 (X733 9 r732) = true) := (fun _ => ⟨hlo753, Frs.up hf751 (by omega), hc752⟩)
      have hP : va_P G.1 pCl (mW G h0 a (upd (upd (upd (upd (upd (upd (upd F 15 (nI 0)) 16 pl728) 27 (nI nd729)) 31 (nI wr731)) 64 (nI at726)) 65 (nI ne)) 66 (nI lk730)) (updA X733 2 K)) _ := mW_to (F := F) (l1 := [(15, 0), (16, pl728), (27, (nI nd729)), (31, (nI wr731)), (64, (nI at726)), (65, (nI ne)), (66, (nI lk730))]) (l2 := [(15, (nI 0)), (16, pl728), (27, (nI nd729)), (31, (nI wr731)), (64, (nI at726)), (65, (nI ne)), (66, (nI lk730))]) (V := [(nI 0), pl728, (nI nd729), (nI wr731), (nI at726), (nI ne), (nI lk730), (nI 0), pl728, (nI nd729), (nI wr731), (nI at726), (nI ne), (nI lk730)]) rfl rfl rfl hP
      have hD : va_D A (mW G h0 a (upd (upd (upd (upd (upd (upd (upd F 15 (nI 0)) 16 pl728) 27 (nI nd729)) 31 (nI wr731)) 64 (nI at726)) 65 (nI ne)) 66 (nI lk730)) (updA X733 2 K)) := mW_D hD
      exact W.iret (v := (nI r732)) hx hb hr (fun t9 ht9 hW9 => ⟨⟨_, (at726, 0, pl728, nd729, lk730, wr731, r732, X733), rfl, ⟨rfl, hz755, hz756, hz757, hz758, hz759, hz760, hz761, hz762, hz763, hz764, hz765, hz766, hz767, hz768⟩, by rw [ht9]; exact hP, hD⟩, hS.F ht9⟩) hS.2.2 dX12_level_10
    · have e749 := e749
      have hz769 : at0 ≤ at726 := (by omega)
      have hz770 : at726 ≤ T := (by omega)
      have hz771 : fa727 ≤ 100 := (by omega)
      have hz772 : nd ≤ nd729 := (by omega)
      have hz773 : nd729 + 2 * at0 ≤ nd + 2 * at726 + 100000 * fa727 := (by omega)
      have hz774 : nd729 + 2 * at0 ≤ nd + 2 * at726 + 40 * (21 - ne) := (by omega)
      have hz775 : wr ≤ wr731 := (by omega)
      have hz776 : wr731 + at0 ≤ wr + at726 := (by omega)
      have hz777 : lk ≤ lk730 := (by omega)
      have hz778 : lk730 ≤ 60 + 100 * fa727 := (by omega)
      have hz779 : at0 + 1 ≤ at726 + fa727 := (by omega)
      have hz780 : r732 ≤ nd729 := (by omega)
      have hz781 : Kp B X733 wr731 T := hkp748
      have hz782 : If (fa727 = 0) (Low B X733 nd wr ∧ Frs K T wr731 X733 nd nd729 20000 [(r732, (210 + lk730 - (10 * ne + lk)))] ∧ kcl 1 (X733 9 r732) = true) := (fun e => absurd e (by omega))
      have hP : va_P G.1 pCl (mW G h0 a (upd (upd (upd (upd (upd (upd (upd F 15 (nI fa727)) 16 pl728) 27 (nI nd729)) 31 (nI wr731)) 64 (nI at726)) 65 (nI ne)) 66 (nI lk730)) (updA X733 2 K)) _ := hP
      have hD : va_D A (mW G h0 a (upd (upd (upd (upd (upd (upd (upd F 15 (nI fa727)) 16 pl728) 27 (nI nd729)) 31 (nI wr731)) 64 (nI at726)) 65 (nI ne)) 66 (nI lk730)) (updA X733 2 K)) := mW_D hD
      exact W.iret (v := (nI r732)) hx hb hr (fun t9 ht9 hW9 => ⟨⟨_, (at726, fa727, pl728, nd729, lk730, wr731, r732, X733), rfl, ⟨rfl, hz769, hz770, hz771, hz772, hz773, hz774, hz775, hz776, hz777, hz778, hz779, hz780, hz781, hz782⟩, by rw [ht9]; exact hP, hD⟩, hS.F ht9⟩) hS.2.2 dX12_level_10

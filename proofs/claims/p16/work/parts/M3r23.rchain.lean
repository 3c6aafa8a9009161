theorem dX12_chain_18 : decode cX12_chain 18 = .ok (.aload_n 0, 1) := by decide +kernel
theorem dX12_chain_19 : decode cX12_chain 19 = .ok (.bipush 91, 2) := by decide +kernel
theorem dX12_chain_21 : decode cX12_chain 21 = .ok (.invokevirtual 360, 3) := by decide +kernel
theorem dX12_chain_24 : decode cX12_chain 24 = .ok (.ifCond .eq 64, 3) := by decide +kernel
theorem dX12_chain_88 : decode cX12_chain 88 = .ok (.aload_n 0, 1) := by decide +kernel
theorem dX12_chain_89 : decode cX12_chain 89 = .ok (.bipush 46, 2) := by decide +kernel
theorem dX12_chain_91 : decode cX12_chain 91 = .ok (.invokevirtual 360, 3) := by decide +kernel
theorem dX12_chain_94 : decode cX12_chain 94 = .ok (.ifCond .eq 108, 3) := by decide +kernel
theorem dX12_chain_202 : decode cX12_chain 202 = .ok (.iconst 0, 1) := by decide +kernel
theorem dX12_chain_203 : decode cX12_chain 203 = .ok (.istore_n 2, 1) := by decide +kernel
theorem dX12_chain_204 : decode cX12_chain 204 = .ok (.goto (-197), 3) := by decide +kernel
theorem dX12_chain_97 : decode cX12_chain 97 = .ok (.aload_n 0, 1) := by decide +kernel
theorem dX12_chain_98 : decode cX12_chain 98 = .ok (.invokevirtual 481, 3) := by decide +kernel
theorem dX12_chain_101 : decode cX12_chain 101 = .ok (.aload_n 0, 1) := by decide +kernel
theorem dX12_chain_102 : decode cX12_chain 102 = .ok (.dup, 1) := by decide +kernel
theorem dX12_chain_103 : decode cX12_chain 103 = .ok (.getfield 343, 3) := by decide +kernel
theorem dX12_chain_106 : decode cX12_chain 106 = .ok (.iconst 1, 1) := by decide +kernel
theorem dX12_chain_107 : decode cX12_chain 107 = .ok (.iadd, 1) := by decide +kernel
theorem dX12_chain_108 : decode cX12_chain 108 = .ok (.putfield 343, 3) := by decide +kernel
theorem dX12_chain_111 : decode cX12_chain 111 = .ok (.aload_n 0, 1) := by decide +kernel
theorem dX12_chain_112 : decode cX12_chain 112 = .ok (.sipush 326, 3) := by decide +kernel
theorem dX12_chain_115 : decode cX12_chain 115 = .ok (.invokevirtual 378, 3) := by decide +kernel
theorem dX12_chain_118 : decode cX12_chain 118 = .ok (.ifCond .eq 27, 3) := by decide +kernel
theorem dX12_chain_145 : decode cX12_chain 145 = .ok (.aload_n 0, 1) := by decide +kernel
theorem dX12_chain_146 : decode cX12_chain 146 = .ok (.invokevirtual 375, 3) := by decide +kernel
theorem dX12_chain_149 : decode cX12_chain 149 = .ok (.istore_n 3, 1) := by decide +kernel
theorem dX12_chain_150 : decode cX12_chain 150 = .ok (.aload_n 0, 1) := by decide +kernel
theorem dX12_chain_151 : decode cX12_chain 151 = .ok (.bipush 40, 2) := by decide +kernel
theorem dX12_chain_153 : decode cX12_chain 153 = .ok (.invokevirtual 360, 3) := by decide +kernel
theorem dX12_chain_156 : decode cX12_chain 156 = .ok (.ifCond .eq 27, 3) := by decide +kernel
theorem dX12_chain_183 : decode cX12_chain 183 = .ok (.aload_n 0, 1) := by decide +kernel
theorem dX12_chain_184 : decode cX12_chain 184 = .ok (.bipush 12, 2) := by decide +kernel
theorem dX12_chain_186 : decode cX12_chain 186 = .ok (.aload_n 0, 1) := by decide +kernel
theorem dX12_chain_187 : decode cX12_chain 187 = .ok (.getfield 41, 3) := by decide +kernel
theorem dX12_chain_190 : decode cX12_chain 190 = .ok (.iload_n 1, 1) := by decide +kernel
theorem dX12_chain_191 : decode cX12_chain 191 = .ok (.iaload, 1) := by decide +kernel
theorem dX12_chain_192 : decode cX12_chain 192 = .ok (.iload_n 3, 1) := by decide +kernel
theorem dX12_chain_193 : decode cX12_chain 193 = .ok (.iload_n 1, 1) := by decide +kernel
theorem dX12_chain_194 : decode cX12_chain 194 = .ok (.iconst (-1), 1) := by decide +kernel
theorem dX12_chain_195 : decode cX12_chain 195 = .ok (.invokevirtual 428, 3) := by decide +kernel
theorem dX12_chain_198 : decode cX12_chain 198 = .ok (.istore_n 1, 1) := by decide +kernel
theorem dX12_chain_199 : decode cX12_chain 199 = .ok (.goto (-192), 3) := by decide +kernel
theorem dX12_chain_159 : decode cX12_chain 159 = .ok (.aload_n 0, 1) := by decide +kernel
theorem dX12_chain_160 : decode cX12_chain 160 = .ok (.bipush 14, 2) := by decide +kernel
theorem dX12_chain_162 : decode cX12_chain 162 = .ok (.aload_n 0, 1) := by decide +kernel
theorem dX12_chain_163 : decode cX12_chain 163 = .ok (.getfield 41, 3) := by decide +kernel
theorem dX12_chain_166 : decode cX12_chain 166 = .ok (.iload_n 1, 1) := by decide +kernel
theorem dX12_chain_167 : decode cX12_chain 167 = .ok (.iaload, 1) := by decide +kernel
theorem dX12_chain_168 : decode cX12_chain 168 = .ok (.iload_n 3, 1) := by decide +kernel
theorem dX12_chain_169 : decode cX12_chain 169 = .ok (.iload_n 1, 1) := by decide +kernel
theorem dX12_chain_170 : decode cX12_chain 170 = .ok (.iconst (-1), 1) := by decide +kernel
theorem dX12_chain_171 : decode cX12_chain 171 = .ok (.invokevirtual 428, 3) := by decide +kernel
theorem dX12_chain_174 : decode cX12_chain 174 = .ok (.istore_n 1, 1) := by decide +kernel
theorem dX12_chain_175 : decode cX12_chain 175 = .ok (.aload_n 0, 1) := by decide +kernel
theorem dX12_chain_176 : decode cX12_chain 176 = .ok (.iload_n 1, 1) := by decide +kernel
theorem dX12_chain_177 : decode cX12_chain 177 = .ok (.invokevirtual 487, 3) := by decide +kernel
theorem dX12_chain_180 : decode cX12_chain 180 = .ok (.goto 19, 3) := by decide +kernel
theorem dX12_chain_121 : decode cX12_chain 121 = .ok (.aload_n 0, 1) := by decide +kernel
theorem dX12_chain_122 : decode cX12_chain 122 = .ok (.bipush 13, 2) := by decide +kernel
theorem dX12_chain_124 : decode cX12_chain 124 = .ok (.aload_n 0, 1) := by decide +kernel
theorem dX12_chain_125 : decode cX12_chain 125 = .ok (.getfield 41, 3) := by decide +kernel
theorem dX12_chain_128 : decode cX12_chain 128 = .ok (.iload_n 1, 1) := by decide +kernel
theorem dX12_chain_129 : decode cX12_chain 129 = .ok (.iaload, 1) := by decide +kernel
theorem dX12_chain_130 : decode cX12_chain 130 = .ok (.aload_n 0, 1) := by decide +kernel
theorem dX12_chain_131 : decode cX12_chain 131 = .ok (.getfield 343, 3) := by decide +kernel
theorem dX12_chain_134 : decode cX12_chain 134 = .ok (.iconst 1, 1) := by decide +kernel
theorem dX12_chain_135 : decode cX12_chain 135 = .ok (.isub, 1) := by decide +kernel
theorem dX12_chain_136 : decode cX12_chain 136 = .ok (.iload_n 1, 1) := by decide +kernel
theorem dX12_chain_137 : decode cX12_chain 137 = .ok (.iconst (-1), 1) := by decide +kernel
theorem dX12_chain_138 : decode cX12_chain 138 = .ok (.invokevirtual 428, 3) := by decide +kernel
theorem dX12_chain_141 : decode cX12_chain 141 = .ok (.istore_n 1, 1) := by decide +kernel
theorem dX12_chain_142 : decode cX12_chain 142 = .ok (.goto (-135), 3) := by decide +kernel
theorem dX12_chain_27 : decode cX12_chain 27 = .ok (.aload_n 0, 1) := by decide +kernel
theorem dX12_chain_28 : decode cX12_chain 28 = .ok (.invokevirtual 481, 3) := by decide +kernel
theorem dX12_chain_31 : decode cX12_chain 31 = .ok (.aload_n 0, 1) := by decide +kernel
theorem dX12_chain_32 : decode cX12_chain 32 = .ok (.invokevirtual 441, 3) := by decide +kernel
theorem dX12_chain_35 : decode cX12_chain 35 = .ok (.aload_n 0, 1) := by decide +kernel
theorem dX12_chain_36 : decode cX12_chain 36 = .ok (.dup, 1) := by decide +kernel
theorem dX12_chain_37 : decode cX12_chain 37 = .ok (.getfield 343, 3) := by decide +kernel
theorem dX12_chain_40 : decode cX12_chain 40 = .ok (.iconst 1, 1) := by decide +kernel
theorem dX12_chain_41 : decode cX12_chain 41 = .ok (.iadd, 1) := by decide +kernel
theorem dX12_chain_42 : decode cX12_chain 42 = .ok (.putfield 343, 3) := by decide +kernel
theorem dX12_chain_45 : decode cX12_chain 45 = .ok (.aload_n 0, 1) := by decide +kernel
theorem dX12_chain_46 : decode cX12_chain 46 = .ok (.bipush 15, 2) := by decide +kernel
theorem dX12_chain_48 : decode cX12_chain 48 = .ok (.aload_n 0, 1) := by decide +kernel
theorem dX12_chain_49 : decode cX12_chain 49 = .ok (.getfield 41, 3) := by decide +kernel
theorem dX12_chain_52 : decode cX12_chain 52 = .ok (.iload_n 1, 1) := by decide +kernel
theorem dX12_chain_53 : decode cX12_chain 53 = .ok (.iaload, 1) := by decide +kernel
theorem dX12_chain_54 : decode cX12_chain 54 = .ok (.aload_n 0, 1) := by decide +kernel
theorem dX12_chain_55 : decode cX12_chain 55 = .ok (.getfield 343, 3) := by decide +kernel
theorem dX12_chain_58 : decode cX12_chain 58 = .ok (.iconst 1, 1) := by decide +kernel
theorem dX12_chain_59 : decode cX12_chain 59 = .ok (.isub, 1) := by decide +kernel
theorem dX12_chain_60 : decode cX12_chain 60 = .ok (.iload_n 1, 1) := by decide +kernel
theorem dX12_chain_61 : decode cX12_chain 61 = .ok (.aload_n 0, 1) := by decide +kernel
theorem dX12_chain_62 : decode cX12_chain 62 = .ok (.invokevirtual 447, 3) := by decide +kernel
theorem dX12_chain_65 : decode cX12_chain 65 = .ok (.invokevirtual 428, 3) := by decide +kernel
theorem dX12_chain_68 : decode cX12_chain 68 = .ok (.istore_n 1, 1) := by decide +kernel
theorem dX12_chain_69 : decode cX12_chain 69 = .ok (.aload_n 0, 1) := by decide +kernel
theorem dX12_chain_70 : decode cX12_chain 70 = .ok (.bipush 93, 2) := by decide +kernel
theorem dX12_chain_72 : decode cX12_chain 72 = .ok (.invokevirtual 369, 3) := by decide +kernel
theorem dX12_chain_75 : decode cX12_chain 75 = .ok (.aload_n 0, 1) := by decide +kernel
theorem dX12_chain_76 : decode cX12_chain 76 = .ok (.dup, 1) := by decide +kernel
theorem dX12_chain_77 : decode cX12_chain 77 = .ok (.getfield 366, 3) := by decide +kernel
theorem dX12_chain_80 : decode cX12_chain 80 = .ok (.iconst 1, 1) := by decide +kernel
theorem dX12_chain_81 : decode cX12_chain 81 = .ok (.isub, 1) := by decide +kernel
theorem dX12_chain_82 : decode cX12_chain 82 = .ok (.putfield 366, 3) := by decide +kernel
theorem dX12_chain_85 : decode cX12_chain 85 = .ok (.goto (-78), 3) := by decide +kernel
set_option maxHeartbeats 2000000 in
set_option maxRecDepth 100000 in
/-- chain(), no fault ahead -/
theorem RT_chain (l : Launch) (G : pT) (h0 : Nat) (a : Nat → Nat) (F : Nat → Int32) (B : Nat → Nat → Int32) (at0 : Nat) (T : Nat) (n : Nat) (ne : Nat) (nd : Nat) (wr : Nat) (lk : Nat) (K : Nat → Int32) (hat : at0 ≤ T) (hT : T ≤ 5000) (hK : K T = 0 ∨ K T = 3) (hne : ne ≤ 20) (hnd : nd ≤ 2 * at0) (hwr : wr ≤ at0) (hlk : lk ≤ 60) (hy : tkRow (B 19) wr T) (hn : 21 ≤ n + ne) (ihc : Pchoice l G (n - 1)) (ha : Parguments l G n) (ho : Poperand l G n) : PM l G pX0 yX12_chain cX12_chain 4 (some .int) ({ frames := (20 * n + 12), cells := 0, slots := 0, locals := (1000 * n + 40 * 12) }) [.ref h0] (mW G h0 a (upd (upd (upd (upd (upd (upd F 15 0) 27 (nI nd)) 31 (nI wr)) 64 (nI at0)) 65 (nI ne)) 66 (nI lk)) (updA B 2 K)) (fun (v : Option Value) (u : Nat × Nat × Int32 × Nat × Nat × Nat × Nat × (Nat → Nat → Int32)) => v = some (.int (nI u.2.2.2.2.2.2.1)) ∧ (at0 ≤ u.1) ∧ (u.1 ≤ T) ∧ (u.2.1 ≤ 100) ∧ (nd ≤ u.2.2.2.1) ∧ (u.2.2.2.1 + 2 * at0 ≤ nd + 2 * u.1 + 100000 * u.2.1) ∧ (u.2.2.2.1 + 2 * at0 ≤ nd + 2 * u.1 + 40 * (21 - ne)) ∧ (wr ≤ u.2.2.2.2.2.1) ∧ (u.2.2.2.2.2.1 + at0 ≤ wr + u.1) ∧ (lk ≤ u.2.2.2.2.1) ∧ (u.2.2.2.2.1 ≤ 60 + 100 * u.2.1) ∧ (at0 + 1 ≤ u.1 + u.2.1) ∧ (u.2.2.2.2.2.2.1 ≤ u.2.2.2.1) ∧ (Kp B u.2.2.2.2.2.2.2 u.2.2.2.2.2.1 T) ∧ (If (u.2.1 = 0) (Low B u.2.2.2.2.2.2.2 nd wr ∧ Frs K T u.2.2.2.2.2.1 u.2.2.2.2.2.2.2 nd u.2.2.2.1 20000 [(u.2.2.2.2.2.2.1, (210 + u.2.2.2.2.1 - (10 * ne + lk)))] ∧ kcl 1 (u.2.2.2.2.2.2.2 9 u.2.2.2.2.2.2.1) = true))) (fun u => (mW G h0 a (upd (upd (upd (upd (upd (upd (upd F 15 (nI u.2.1)) 16 u.2.2.1) 27 (nI u.2.2.2.1)) 31 (nI u.2.2.2.2.2.1)) 64 (nI u.1)) 65 (nI ne)) 66 (nI u.2.2.2.2.1)) (updA u.2.2.2.2.2.2.2 2 K))) := by
  intro sz
  refine Met.ofW (cc := cX12_chain) (maxL := 4) (ret := (some .int)) (by decide) rfl ?_
  intro p e s m args below meth c s₁ B9 hml hv
  obtain ⟨rfl, hsz, hP, hD0, hE, hX⟩ := hv
  have hx := B9.exec
  have hb := B9.bytes
  have hr := B9.returns
  have hts := atoms_spec (ws := Cond.code yX12_chain cX12_chain 4 (some .int) :: pw) B9.pre
  have hq : ∀ w ∈ pw, w.before _ s = true := fun w h => hts w (List.mem_cons_of_mem _ h)
  have hown : s.vm.findClass RX12 = some m.cls := findClass_of_methodNamed B9.named
  have hlocks := B9.notSynchronized
  subst hsz
  have hD := hD0.self (sz := s.heap.size)
  have hA : ∀ q : Nat, s.heap.size ≤ q → va_A (mW G h0 a (upd (upd (upd (upd (upd (upd F 15 0) 27 (nI nd)) 31 (nI wr)) 64 (nI at0)) 65 (nI ne)) 66 (nI lk)) (updA B 2 K)) s.heap.size q := fun q h => Or.inr h
  have hP : va_P G.1 pCl (mW G h0 a (upd (upd (upd (upd (upd (upd F 15 0) 27 (nI nd)) 31 (nI wr)) 64 (nI at0)) 65 (nI ne)) 66 (nI lk)) (updA B 2 K)) s.heap := hP
  generalize va_A (mW G h0 a (upd (upd (upd (upd (upd (upd F 15 0) 27 (nI nd)) 31 (nI wr)) 64 (nI at0)) 65 (nI ne)) 66 (nI lk)) (updA B 2 K)) s.heap.size = A at hD hE hA ⊢
  have hS : va_S A s.heap s.heap [] := va_S.rf
  have hl := lv_entry ([.ref h0]) (n := 4) (Nat.le_of_ble_eq_true rfl)
  rw [lg_entry_eq]
  generalize (lg_sl ([.ref h0]) ++ List.replicate (4 - (lg_sl ([.ref h0])).length) Slot.unset).toArray = ls at hl ⊢
  have hl : lv_has ls 4 [(0, .ref h0)] := hl
  have hkp1 : Kp B B wr T := Kp.rfl hy
  have hlo2 : Low B B nd wr := Low.rfl
  refine lv_aload_n hx hb dX12_chain_0 rfl (lv_at hl 0 rfl) ?_
  have hP : va_P G.1 pCl (mW G h0 a (upd (upd (upd (upd (upd (upd (upd (upd (upd (upd (upd (upd F 15 0) 27 (nI nd)) 31 (nI wr)) 64 (nI at0)) 65 (nI ne)) 66 (nI lk)) 15 0) 27 (nI nd)) 31 (nI wr)) 64 (nI at0)) 65 (nI ne)) 66 (nI lk)) (updA B 2 K)) _ := mW_to (F := F) (l1 := [(15, 0), (27, (nI nd)), (31, (nI wr)), (64, (nI at0)), (65, (nI ne)), (66, (nI lk))]) (l2 := [(15, 0), (27, (nI nd)), (31, (nI wr)), (64, (nI at0)), (65, (nI ne)), (66, (nI lk)), (15, 0), (27, (nI nd)), (31, (nI wr)), (64, (nI at0)), (65, (nI ne)), (66, (nI lk))]) (V := [0, (nI nd), (nI wr), (nI at0), (nI ne), (nI lk), 0, (nI nd), (nI wr), (nI at0), (nI ne), (nI lk), 0, (nI nd), (nI wr), (nI at0), (nI ne), (nI lk)]) rfl rfl rfl hP
  have hD : va_D A (mW G h0 a (upd (upd (upd (upd (upd (upd (upd (upd (upd (upd (upd (upd F 15 0) 27 (nI nd)) 31 (nI wr)) 64 (nI at0)) 65 (nI ne)) 66 (nI lk)) 15 0) 27 (nI nd)) 31 (nI wr)) 64 (nI at0)) 65 (nI ne)) 66 (nI lk)) (updA B 2 K)) := mW_D hD
  refine pc_V0 (G := G) (As := []) (rest := []) hx hb hml hown hq hE hX pX0_al hP hD hS hA hl.1 (ho h0 a (upd (upd (upd (upd (upd (upd F 15 0) 27 (nI nd)) 31 (nI wr)) 64 (nI at0)) 65 (nI ne)) 66 (nI lk)) B at0 T ne nd wr lk K (by omega) (by omega) hK (by omega) (by omega) (by omega) (by omega) (hkp1).2 (by omega)) (gV pw_1644 pw_1645 pw_1646 pw_1523 pw_1674) hV_X12_operand 0 9 rfl rfl rfl rfl (Nat.le_of_ble_eq_true rfl) dX12_chain_1 ⟨Nat.le_of_ble_eq_true rfl, Nat.le_of_ble_eq_true rfl⟩ ⟨(by show (20 * n + 10) + 1 ≤ (20 * n + 12); omega), (by show 8 + (5 + 11) + (1000 * n + 40 * 10) ≤ (1000 * n + 40 * 12); omega)⟩ (fun v5 u3 H locs hw4 hP hD hS => ?_)
  obtain ⟨at6, fa7, pl8, nd9, lk10, wr11, r12, X13⟩ := u3
  obtain ⟨hw4, h14, h15, h16, h17, h18, h19, h20, h21, h22, h23, h24, h25, h26, h27⟩ := hw4
  have h14 : at0 ≤ at6 := h14
  have h15 : at6 ≤ T := h15
  have h16 : fa7 ≤ 100 := h16
  have h17 : nd ≤ nd9 := h17
  have h18 : nd9 + 2 * at0 ≤ nd + 2 * at6 + 100000 * fa7 := h18
  have h19 : nd9 + 2 * at0 ≤ nd + 2 * at6 + 40 * (21 - ne) := h19
  have h20 : wr ≤ wr11 := h20
  have h21 : wr11 + at0 ≤ wr + at6 := h21
  have h22 : lk ≤ lk10 := h22
  have h23 : lk10 ≤ 60 + 100 * fa7 := h23
  have h24 : at0 + 1 ≤ at6 + fa7 := h24
  have h25 : r12 ≤ nd9 := h25
  have h26 : Kp B X13 wr11 T := h26
  have h27 : If (fa7 = 0) (Low B X13 nd wr ∧ Frs K T wr11 X13 nd nd9 20000 [(r12, (210 + lk10 - (10 * ne + lk)))] ∧ kcl 1 (X13 9 r12) = true) := h27
  obtain rfl : v5 = some (.int (nI r12)) := hw4
  have hP : va_P G.1 pCl (mW G h0 a (upd (upd (upd (upd (upd (upd (upd F 15 (nI fa7)) 16 pl8) 27 (nI nd9)) 31 (nI wr11)) 64 (nI at6)) 65 (nI ne)) 66 (nI lk10)) (updA X13 2 K)) _ := mW_to (F := F) (l1 := [(15, 0), (27, (nI nd)), (31, (nI wr)), (64, (nI at0)), (65, (nI ne)), (66, (nI lk)), (15, (nI fa7)), (16, pl8), (27, (nI nd9)), (31, (nI wr11)), (64, (nI at6)), (65, (nI ne)), (66, (nI lk10))]) (l2 := [(15, (nI fa7)), (16, pl8), (27, (nI nd9)), (31, (nI wr11)), (64, (nI at6)), (65, (nI ne)), (66, (nI lk10))]) (V := [(nI fa7), (nI nd9), (nI wr11), (nI at6), (nI ne), (nI lk10), (nI fa7), pl8, (nI nd9), (nI wr11), (nI at6), (nI ne), (nI lk10), (nI fa7), pl8, (nI nd9), (nI wr11), (nI at6), (nI ne), (nI lk10)]) rfl rfl rfl hP
  have hD : va_D A (mW G h0 a (upd (upd (upd (upd (upd (upd (upd F 15 (nI fa7)) 16 pl8) 27 (nI nd9)) 31 (nI wr11)) 64 (nI at6)) 65 (nI ne)) 66 (nI lk10)) (updA X13 2 K)) := mW_D hD
  refine W.widen (k := 0) (n := 0) (Nat.le_of_ble_eq_true rfl) (Nat.le_of_ble_eq_true rfl) ?_
  refine W.eq (g2 := F0 m 4 ls [.int (nI r12)]) rfl ?_
  have hkp28 : Kp B X13 wr11 T := (Kp.trans hkp1 h26)
  rcases Nat.eq_zero_or_pos fa7 with e29 | e29
  · subst e29
    have hP : va_P G.1 pCl (mW G h0 a (upd (upd (upd (upd (upd (upd (upd F 15 0) 16 pl8) 27 (nI nd9)) 31 (nI wr11)) 64 (nI at6)) 65 (nI ne)) 66 (nI lk10)) (updA X13 2 K)) _ := hP
    have hD : va_D A (mW G h0 a (upd (upd (upd (upd (upd (upd (upd F 15 0) 16 pl8) 27 (nI nd9)) 31 (nI wr11)) 64 (nI at6)) 65 (nI ne)) 66 (nI lk10)) (updA X13 2 K)) := mW_D hD
    obtain ⟨hlw30, hf31, hc32⟩ := h27 rfl
    have hlo33 : Low B X13 nd wr := (Low.trans hlo2 hlw30 (by omega) (by omega))
    have hm34 := Frs.mem hf31
    refine lv_istore_n (lv' := [(1, .int (nI r12)), (0, .ref h0)]) hx hb dX12_chain_4 rfl hl (by decide) rfl (fun ls hl => ?_)
    refine lv_iconst (v := 1) hx hb dX12_chain_5 (by decide) ?_
    refine lv_istore_n (lv' := [(2, .int 1), (1, .int (nI r12)), (0, .ref h0)]) hx hb dX12_chain_6 rfl hl (by decide) rfl (fun ls hl => ?_)
    have loop_o : ∀ (n_o : Nat) (at2 : Nat) (nd2 : Nat) (wr2 : Nat) (lk2 : Nat) (pl2 : Int32) (X2 : Nat → Nat → Int32) (r2 : Nat) (H : Heap) (locs : List Loc) (ls : Array Slot), at2 ≤ T → T + 1 ≤ at2 + n_o → (at0 + 1 ≤ at2) → (nd ≤ nd2) → (nd2 + 2 * at0 ≤ nd + 2 * at2) → (wr ≤ wr2) → (wr2 + at0 ≤ wr + at2) → (lk ≤ lk2) → (lk2 ≤ 60) → (Kp B X2 wr2 T) → (Low B X2 nd wr) → (nd ≤ r2 ∧ r2 < nd2) → (Frs K T wr2 X2 nd nd2 20000 [(r2, (210 + lk2 - (10 * ne + lk)))]) → (kcl 1 (X2 9 r2) = true) → va_P G.1 pCl (mW G h0 a (upd (upd (upd (upd (upd (upd (upd F 15 0) 16 pl2) 27 (nI nd2)) 31 (nI wr2)) 64 (nI at2)) 65 (nI ne)) 66 (nI lk2)) (updA X2 2 K)) H → va_D A (mW G h0 a (upd (upd (upd (upd (upd (upd (upd F 15 0) 16 pl2) 27 (nI nd2)) 31 (nI wr2)) 64 (nI at2)) 65 (nI ne)) 66 (nI lk2)) (updA X2 2 K)) → va_S A s.heap H locs → lv_has ls 4 [(2, .int 1), (1, .int (nI r2)), (0, .ref h0)] → W p l e (headSpec (Cond.code yX12_chain cX12_chain 4 (some .int) :: pw) ({ frames := (20 * n + 12), cells := 0, slots := 0, locals := (1000 * n + 40 * 12) } : Room)).room s m ([.ref h0] : List Value).toArray below meth c H locs 0 0 (MQ below (pQ G A (fun (v : Option Value) (u : Nat × Nat × Int32 × Nat × Nat × Nat × Nat × (Nat → Nat → Int32)) => v = some (.int (nI u.2.2.2.2.2.2.1)) ∧ (at0 ≤ u.1) ∧ (u.1 ≤ T) ∧ (u.2.1 ≤ 100) ∧ (nd ≤ u.2.2.2.1) ∧ (u.2.2.2.1 + 2 * at0 ≤ nd + 2 * u.1 + 100000 * u.2.1) ∧ (u.2.2.2.1 + 2 * at0 ≤ nd + 2 * u.1 + 40 * (21 - ne)) ∧ (wr ≤ u.2.2.2.2.2.1) ∧ (u.2.2.2.2.2.1 + at0 ≤ wr + u.1) ∧ (lk ≤ u.2.2.2.2.1) ∧ (u.2.2.2.2.1 ≤ 60 + 100 * u.2.1) ∧ (at0 + 1 ≤ u.1 + u.2.1) ∧ (u.2.2.2.2.2.2.1 ≤ u.2.2.2.1) ∧ (Kp B u.2.2.2.2.2.2.2 u.2.2.2.2.2.1 T) ∧ (If (u.2.1 = 0) (Low B u.2.2.2.2.2.2.2 nd wr ∧ Frs K T u.2.2.2.2.2.1 u.2.2.2.2.2.2.2 nd u.2.2.2.1 20000 [(u.2.2.2.2.2.2.1, (210 + u.2.2.2.2.1 - (10 * ne + lk)))] ∧ kcl 1 (u.2.2.2.2.2.2.2 9 u.2.2.2.2.2.2.1) = true))) (fun u => (mW G h0 a (upd (upd (upd (upd (upd (upd (upd F 15 (nI u.2.1)) 16 u.2.2.1) 27 (nI u.2.2.2.1)) 31 (nI u.2.2.2.2.2.1)) 64 (nI u.1)) 65 (nI ne)) 66 (nI u.2.2.2.2.1)) (updA u.2.2.2.2.2.2.2 2 K)))) ([.ref h0] : List Value).toArray s ({ frames := (20 * n + 12), cells := 0, slots := 0, locals := (1000 * n + 40 * 12) } : Room).cells ({ frames := (20 * n + 12), cells := 0, slots := 0, locals := (1000 * n + 40 * 12) } : Room).slots A) (F0 m 7 ls []) := by
      intro n_o
      induction n_o with
      | zero => intro at2 nd2 wr2 lk2 pl2 X2 r2 H locs ls hk_o hn_o; omega
      | succ n_o ih_o =>
        intro at2 nd2 wr2 lk2 pl2 X2 r2 H locs ls hk_o hn_o hl1 hl3 hl4 hl5 hl6 hl7 hl8 hkp2 hlo2 hm2 hf2 hc2 hP hD hS hl
        refine lv_iload_n hx hb dX12_chain_7 rfl (lv_at hl 0 rfl) ?_
        refine lv_if_eq (tgt := 207) hx hb dX12_chain_8 (by decide) (fun c35 => absurd c35 (by decide)) (fun c35 => ?_)
        refine lv_aload_n hx hb dX12_chain_11 rfl (lv_at hl 2 rfl) ?_
        refine r_get (v := .int 0) hx hb hown hq hE hP 15 350 tFX12_15 (by decide) pw_1594 rfl dX12_chain_12 ?_
        refine lv_if_ne (tgt := 207) hx hb dX12_chain_15 (by decide) (fun c36 => absurd c36 (by decide)) (fun c36 => ?_)
        refine lv_aload_n hx hb dX12_chain_18 rfl (lv_at hl 2 rfl) ?_
        refine lv_bipush (v := 91) hx hb dX12_chain_19 (by decide) ?_
        have hP : va_P G.1 pCl (mW G h0 a (upd (upd (upd (upd (upd (upd (upd (upd (upd F 15 0) 16 pl2) 27 (nI nd2)) 31 (nI wr2)) 64 (nI at2)) 65 (nI ne)) 66 (nI lk2)) 15 (nI 0)) 64 (nI at2)) (updA (updA X2 2 K) 2 K)) _ := mW_to (F := F) (l1 := [(15, 0), (16, pl2), (27, (nI nd2)), (31, (nI wr2)), (64, (nI at2)), (65, (nI ne)), (66, (nI lk2))]) (l2 := [(15, 0), (16, pl2), (27, (nI nd2)), (31, (nI wr2)), (64, (nI at2)), (65, (nI ne)), (66, (nI lk2)), (15, (nI 0)), (64, (nI at2))]) (V := [(nI 0), pl2, (nI nd2), (nI wr2), (nI at2), (nI ne), (nI lk2), (nI 0), pl2, (nI nd2), (nI wr2), (nI at2), (nI ne), (nI lk2), (nI 0), (nI at2)]) rfl rfl (show (updA X2 2 K) = (updA (updA X2 2 K) 2 K) from updsA_eq2 (F := X2) (l1 := [(2, K)]) (l2 := [(2, K), (2, K)]) (V := [K, K, K]) rfl rfl) hP
        have hD : va_D A (mW G h0 a (upd (upd (upd (upd (upd (upd (upd (upd (upd F 15 0) 16 pl2) 27 (nI nd2)) 31 (nI wr2)) 64 (nI at2)) 65 (nI ne)) 66 (nI lk2)) 15 (nI 0)) 64 (nI at2)) (updA (updA X2 2 K) 2 K)) := mW_D hD
        refine pc_V0 (G := G) (As := [.int 91]) (rest := []) hx hb hml hown hq hE hX pX0_al hP hD hS hA hl.1 (R_is l G h0 a (upd (upd (upd (upd (upd (upd (upd F 15 0) 16 pl2) 27 (nI nd2)) 31 (nI wr2)) 64 (nI at2)) 65 (nI ne)) 66 (nI lk2)) (updA X2 2 K) at2 T 0 K 91 (by omega) (by omega) hK (by omega)) (gV pw_1606 pw_1607 pw_1608 pw_1523 pw_1600) hV_X12_is 0 9 rfl rfl rfl rfl (Nat.le_of_ble_eq_true rfl) dX12_chain_21 ⟨Nat.le_of_ble_eq_true rfl, Nat.le_of_ble_eq_true rfl⟩ ⟨(by show 2 + 1 ≤ (20 * n + 12); omega), (by show 8 + (2 + 11) + 60 ≤ (1000 * n + 40 * 12); omega)⟩ (fun v39 u37 H locs hw38 hP hD hS => ?_)
        obtain ⟨r40, rfl⟩ : ∃ z, z = u37 := ⟨_, rfl⟩
        obtain ⟨hw38, h41, h42, h43, h44⟩ := hw38
        have h41 : r40 ≤ 1 := h41
        have h42 : 0 + 100 * r40 ≤ 100 := h42
        have h43 : If (r40 = 1) (K at2 = 91) := h43
        have h44 : If (r40 = 0) (0 = 0 → ¬ K at2 = 91) := h44
        obtain rfl : v39 = some (.int (nI r40)) := hw38
        have hP : va_P G.1 pCl (mW G h0 a (upd (upd (upd (upd (upd (upd (upd F 15 0) 16 pl2) 27 (nI nd2)) 31 (nI wr2)) 64 (nI at2)) 65 (nI ne)) 66 (nI lk2)) (updA X2 2 K)) _ := mW_to (F := F) (l1 := [(15, 0), (16, pl2), (27, (nI nd2)), (31, (nI wr2)), (64, (nI at2)), (65, (nI ne)), (66, (nI lk2)), (15, (nI 0)), (64, (nI at2))]) (l2 := [(15, 0), (16, pl2), (27, (nI nd2)), (31, (nI wr2)), (64, (nI at2)), (65, (nI ne)), (66, (nI lk2))]) (V := [0, pl2, (nI nd2), (nI wr2), (nI at2), (nI ne), (nI lk2), 0, (nI at2), 0, pl2, (nI nd2), (nI wr2), (nI at2), (nI ne), (nI lk2)]) rfl rfl (show (updA (updA X2 2 K) 2 K) = (updA X2 2 K) from updsA_eq2 (F := X2) (l1 := [(2, K), (2, K)]) (l2 := [(2, K)]) (V := [K, K, K]) rfl rfl) hP
        have hD : va_D A (mW G h0 a (upd (upd (upd (upd (upd (upd (upd F 15 0) 16 pl2) 27 (nI nd2)) 31 (nI wr2)) 64 (nI at2)) 65 (nI ne)) 66 (nI lk2)) (updA X2 2 K)) := mW_D hD
        refine W.widen (k := 0) (n := 0) (Nat.le_of_ble_eq_true rfl) (Nat.le_of_ble_eq_true rfl) ?_
        refine W.eq (g2 := F0 m 24 ls [.int (nI r40)]) rfl ?_
        refine lv_if_eq (tgt := 88) hx hb dX12_chain_24 (by decide) (fun c45 => ?_) (fun c45 => ?_)
        · have n46 : r40 = 0 := (nI_eq (a := r40) (b := 0) (by omega) (by omega)).mp c45
          refine lv_aload_n hx hb dX12_chain_88 rfl (lv_at hl 2 rfl) ?_
          refine lv_bipush (v := 46) hx hb dX12_chain_89 (by decide) ?_
          have hP : va_P G.1 pCl (mW G h0 a (upd (upd (upd (upd (upd (upd (upd (upd (upd F 15 0) 16 pl2) 27 (nI nd2)) 31 (nI wr2)) 64 (nI at2)) 65 (nI ne)) 66 (nI lk2)) 15 (nI 0)) 64 (nI at2)) (updA (updA X2 2 K) 2 K)) _ := mW_to (F := F) (l1 := [(15, 0), (16, pl2), (27, (nI nd2)), (31, (nI wr2)), (64, (nI at2)), (65, (nI ne)), (66, (nI lk2))]) (l2 := [(15, 0), (16, pl2), (27, (nI nd2)), (31, (nI wr2)), (64, (nI at2)), (65, (nI ne)), (66, (nI lk2)), (15, (nI 0)), (64, (nI at2))]) (V := [(nI 0), pl2, (nI nd2), (nI wr2), (nI at2), (nI ne), (nI lk2), (nI 0), pl2, (nI nd2), (nI wr2), (nI at2), (nI ne), (nI lk2), (nI 0), (nI at2)]) rfl rfl (show (updA X2 2 K) = (updA (updA X2 2 K) 2 K) from updsA_eq2 (F := X2) (l1 := [(2, K)]) (l2 := [(2, K), (2, K)]) (V := [K, K, K]) rfl rfl) hP
          have hD : va_D A (mW G h0 a (upd (upd (upd (upd (upd (upd (upd (upd (upd F 15 0) 16 pl2) 27 (nI nd2)) 31 (nI wr2)) 64 (nI at2)) 65 (nI ne)) 66 (nI lk2)) 15 (nI 0)) 64 (nI at2)) (updA (updA X2 2 K) 2 K)) := mW_D hD
          refine pc_V0 (G := G) (As := [.int 46]) (rest := []) hx hb hml hown hq hE hX pX0_al hP hD hS hA hl.1 (R_is l G h0 a (upd (upd (upd (upd (upd (upd (upd F 15 0) 16 pl2) 27 (nI nd2)) 31 (nI wr2)) 64 (nI at2)) 65 (nI ne)) 66 (nI lk2)) (updA X2 2 K) at2 T 0 K 46 (by omega) (by omega) hK (by omega)) (gV pw_1606 pw_1607 pw_1608 pw_1523 pw_1600) hV_X12_is 0 9 rfl rfl rfl rfl (Nat.le_of_ble_eq_true rfl) dX12_chain_91 ⟨Nat.le_of_ble_eq_true rfl, Nat.le_of_ble_eq_true rfl⟩ ⟨(by show 2 + 1 ≤ (20 * n + 12); omega), (by show 8 + (2 + 11) + 60 ≤ (1000 * n + 40 * 12); omega)⟩ (fun v49 u47 H locs hw48 hP hD hS => ?_)
          obtain ⟨r50, rfl⟩ : ∃ z, z = u47 := ⟨_, rfl⟩
          obtain ⟨hw48, h51, h52, h53, h54⟩ := hw48
          have h51 : r50 ≤ 1 := h51
          have h52 : 0 + 100 * r50 ≤ 100 := h52
          have h53 : If (r50 = 1) (K at2 = 46) := h53
          have h54 : If (r50 = 0) (0 = 0 → ¬ K at2 = 46) := h54
          obtain rfl : v49 = some (.int (nI r50)) := hw48
          have hP : va_P G.1 pCl (mW G h0 a (upd (upd (upd (upd (upd (upd (upd F 15 0) 16 pl2) 27 (nI nd2)) 31 (nI wr2)) 64 (nI at2)) 65 (nI ne)) 66 (nI lk2)) (updA X2 2 K)) _ := mW_to (F := F) (l1 := [(15, 0), (16, pl2), (27, (nI nd2)), (31, (nI wr2)), (64, (nI at2)), (65, (nI ne)), (66, (nI lk2)), (15, (nI 0)), (64, (nI at2))]) (l2 := [(15, 0), (16, pl2), (27, (nI nd2)), (31, (nI wr2)), (64, (nI at2)), (65, (nI ne)), (66, (nI lk2))]) (V := [0, pl2, (nI nd2), (nI wr2), (nI at2), (nI ne), (nI lk2), 0, (nI at2), 0, pl2, (nI nd2), (nI wr2), (nI at2), (nI ne), (nI lk2)]) rfl rfl (show (updA (updA X2 2 K) 2 K) = (updA X2 2 K) from updsA_eq2 (F := X2) (l1 := [(2, K), (2, K)]) (l2 := [(2, K)]) (V := [K, K, K]) rfl rfl) hP
          have hD : va_D A (mW G h0 a (upd (upd (upd (upd (upd (upd (upd F 15 0) 16 pl2) 27 (nI nd2)) 31 (nI wr2)) 64 (nI at2)) 65 (nI ne)) 66 (nI lk2)) (updA X2 2 K)) := mW_D hD
          refine W.widen (k := 0) (n := 0) (Nat.le_of_ble_eq_true rfl) (Nat.le_of_ble_eq_true rfl) ?_
          refine W.eq (g2 := F0 m 94 ls [.int (nI r50)]) rfl ?_
          refine lv_if_eq (tgt := 202) hx hb dX12_chain_94 (by decide) (fun c55 => ?_) (fun c55 => ?_)
          · have n56 : r50 = 0 := (nI_eq (a := r50) (b := 0) (by omega) (by omega)).mp c55
            refine lv_iconst (v := 0) hx hb dX12_chain_202 (by decide) ?_
            refine lv_istore_n (lv' := [(2, .int 0), (1, .int (nI r2)), (0, .ref h0)]) hx hb dX12_chain_203 rfl hl (by decide) rfl (fun ls hl => ?_)
            refine lv_goto (tgt := 7) hx hb dX12_chain_204 (by decide) ?_
            refine lv_iload_n hx hb dX12_chain_7 rfl (lv_at hl 0 rfl) ?_
            refine lv_if_eq (tgt := 207) hx hb dX12_chain_8 (by decide) (fun c57 => ?_) (fun c57 => absurd c57 (by decide))
            refine lv_iload_n hx hb dX12_chain_207 rfl (lv_at hl 1 rfl) ?_
            have hz58 : at0 ≤ at2 := (by omega)
            have hz59 : at2 ≤ T := (by omega)
            have hz60 : 0 ≤ 100 := (by omega)
            have hz61 : nd ≤ nd2 := (by omega)
            have hz62 : nd2 + 2 * at0 ≤ nd + 2 * at2 + 100000 * 0 := (by omega)
            have hz63 : nd2 + 2 * at0 ≤ nd + 2 * at2 + 40 * (21 - ne) := (by omega)
            have hz64 : wr ≤ wr2 := (by omega)
            have hz65 : wr2 + at0 ≤ wr + at2 := (by omega)
            have hz66 : lk ≤ lk2 := (by omega)
            have hz67 : lk2 ≤ 60 + 100 * 0 := (by omega)
            have hz68 : at0 + 1 ≤ at2 + 0 := (by omega)
            have hz69 : r2 ≤ nd2 := (by omega)
            have hz70 : Kp B X2 wr2 T := hkp2
            have hz71 : If (0 = 0) (Low B X2 nd wr ∧ Frs K T wr2 X2 nd nd2 20000 [(r2, (210 + lk2 - (10 * ne + lk)))] ∧ kcl 1 (X2 9 r2) = true) := (fun _ => ⟨hlo2, Frs.up hf2 (by omega), hc2⟩)
            have hP : va_P G.1 pCl (mW G h0 a (upd (upd (upd (upd (upd (upd (upd F 15 (nI 0)) 16 pl2) 27 (nI nd2)) 31 (nI wr2)) 64 (nI at2)) 65 (nI ne)) 66 (nI lk2)) (updA X2 2 K)) _ := mW_to (F := F) (l1 := [(15, 0), (16, pl2), (27, (nI nd2)), (31, (nI wr2)), (64, (nI at2)), (65, (nI ne)), (66, (nI lk2))]) (l2 := [(15, (nI 0)), (16, pl2), (27, (nI nd2)), (31, (nI wr2)), (64, (nI at2)), (65, (nI ne)), (66, (nI lk2))]) (V := [(nI 0), pl2, (nI nd2), (nI wr2), (nI at2), (nI ne), (nI lk2), (nI 0), pl2, (nI nd2), (nI wr2), (nI at2), (nI ne), (nI lk2)]) rfl rfl rfl hP
            have hD : va_D A (mW G h0 a (upd (upd (upd (upd (upd (upd (upd F 15 (nI 0)) 16 pl2) 27 (nI nd2)) 31 (nI wr2)) 64 (nI at2)) 65 (nI ne)) 66 (nI lk2)) (updA X2 2 K)) := mW_D hD
            exact W.iret (v := (nI r2)) hx hb hr (fun t9 ht9 hW9 => ⟨⟨_, (at2, 0, pl2, nd2, lk2, wr2, r2, X2), rfl, ⟨rfl, hz58, hz59, hz60, hz61, hz62, hz63, hz64, hz65, hz66, hz67, hz68, hz69, hz70, hz71⟩, by rw [ht9]; exact hP, hD⟩, hS.F ht9⟩) hS.2.2 dX12_chain_208
          · have n72 : ¬ (r50 = 0) := fun h9 => c55 ((nI_eq (a := r50) (b := 0) (by omega) (by omega)).mpr h9)
            have n73 : at2 < T := tk_lt (by omega) hK (h53 (by omega)) (by decide) (by decide)
            refine lv_aload_n hx hb dX12_chain_97 rfl (lv_at hl 2 rfl) ?_
            have hP : va_P G.1 pCl (mW G h0 a (upd (upd (upd (upd (upd (upd (upd (upd (upd (upd F 15 0) 16 pl2) 27 (nI nd2)) 31 (nI wr2)) 64 (nI at2)) 65 (nI ne)) 66 (nI lk2)) 15 (nI 0)) 64 (nI at2)) 66 (nI lk2)) (updA (updA X2 2 K) 2 K)) _ := mW_to (F := F) (l1 := [(15, 0), (16, pl2), (27, (nI nd2)), (31, (nI wr2)), (64, (nI at2)), (65, (nI ne)), (66, (nI lk2))]) (l2 := [(15, 0), (16, pl2), (27, (nI nd2)), (31, (nI wr2)), (64, (nI at2)), (65, (nI ne)), (66, (nI lk2)), (15, (nI 0)), (64, (nI at2)), (66, (nI lk2))]) (V := [(nI 0), pl2, (nI nd2), (nI wr2), (nI at2), (nI ne), (nI lk2), (nI 0), pl2, (nI nd2), (nI wr2), (nI at2), (nI ne), (nI lk2), (nI 0), (nI at2), (nI lk2)]) rfl rfl (show (updA X2 2 K) = (updA (updA X2 2 K) 2 K) from updsA_eq2 (F := X2) (l1 := [(2, K)]) (l2 := [(2, K), (2, K)]) (V := [K, K, K]) rfl rfl) hP
            have hD : va_D A (mW G h0 a (upd (upd (upd (upd (upd (upd (upd (upd (upd (upd F 15 0) 16 pl2) 27 (nI nd2)) 31 (nI wr2)) 64 (nI at2)) 65 (nI ne)) 66 (nI lk2)) 15 (nI 0)) 64 (nI at2)) 66 (nI lk2)) (updA (updA X2 2 K) 2 K)) := mW_D hD
            refine pc_V0 (G := G) (As := []) (rest := []) hx hb hml hown hq hE hX pX0_al hP hD hS hA hl.1 (R_linkedN l G h0 a (upd (upd (upd (upd (upd (upd (upd F 15 0) 16 pl2) 27 (nI nd2)) 31 (nI wr2)) 64 (nI at2)) 65 (nI ne)) 66 (nI lk2)) (updA X2 2 K) at2 T 0 K lk2 (by omega) (by omega) hK (by omega) (by omega)) (gV pw_1647 pw_1648 pw_1649 pw_1523 pw_1609) hV_X12_linked 0 9 rfl rfl rfl rfl (Nat.le_of_ble_eq_true rfl) dX12_chain_98 ⟨Nat.le_of_ble_eq_true rfl, Nat.le_of_ble_eq_true rfl⟩ ⟨(by show 4 + 1 ≤ (20 * n + 12); omega), (by show 8 + (1 + 11) + 103 ≤ (1000 * n + 40 * 12); omega)⟩ (fun v76 u74 H locs hw75 hP hD hS => ?_)
            obtain ⟨fa77, pl78⟩ := u74
            obtain ⟨hw75, h79, h80, h81, h82⟩ := hw75
            have h79 : 0 ≤ fa77 := h79
            have h80 : fa77 ≤ 100 := h80
            have h81 : If (0 < 0) (fa77 = 0) := h81
            have h82 : If (lk2 ≤ 60) (lk2 + 1 ≤ 60 + 100 * fa77) := h82
            obtain rfl : v76 = none := hw75
            have hP : va_P G.1 pCl (mW G h0 a (upd (upd (upd (upd (upd (upd (upd F 15 (nI fa77)) 16 pl78) 27 (nI nd2)) 31 (nI wr2)) 64 (nI at2)) 65 (nI ne)) 66 (nI (lk2 + 1))) (updA X2 2 K)) _ := mW_to (F := F) (l1 := [(15, 0), (16, pl2), (27, (nI nd2)), (31, (nI wr2)), (64, (nI at2)), (65, (nI ne)), (66, (nI lk2)), (15, (nI fa77)), (16, pl78), (64, (nI at2)), (66, (nI (lk2 + 1)))]) (l2 := [(15, (nI fa77)), (16, pl78), (27, (nI nd2)), (31, (nI wr2)), (64, (nI at2)), (65, (nI ne)), (66, (nI (lk2 + 1)))]) (V := [(nI fa77), pl78, (nI nd2), (nI wr2), (nI at2), (nI ne), (nI (lk2 + 1)), (nI fa77), pl78, (nI at2), (nI (lk2 + 1)), (nI fa77), pl78, (nI nd2), (nI wr2), (nI at2), (nI ne), (nI (lk2 + 1))]) rfl rfl (show (updA (updA X2 2 K) 2 K) = (updA X2 2 K) from updsA_eq2 (F := X2) (l1 := [(2, K), (2, K)]) (l2 := [(2, K)]) (V := [K, K, K]) rfl rfl) hP
            have hD : va_D A (mW G h0 a (upd (upd (upd (upd (upd (upd (upd F 15 (nI fa77)) 16 pl78) 27 (nI nd2)) 31 (nI wr2)) 64 (nI at2)) 65 (nI ne)) 66 (nI (lk2 + 1))) (updA X2 2 K)) := mW_D hD
            refine W.widen (k := 0) (n := 0) (Nat.le_of_ble_eq_true rfl) (Nat.le_of_ble_eq_true rfl) ?_
            refine W.eq (g2 := F0 m 101 ls []) rfl ?_
            rcases Nat.eq_zero_or_pos fa77 with e83 | e83
            · subst e83
              have hP : va_P G.1 pCl (mW G h0 a (upd (upd (upd (upd (upd (upd (upd F 15 0) 16 pl78) 27 (nI nd2)) 31 (nI wr2)) 64 (nI at2)) 65 (nI ne)) 66 (nI (lk2 + 1))) (updA X2 2 K)) _ := hP
              have hD : va_D A (mW G h0 a (upd (upd (upd (upd (upd (upd (upd F 15 0) 16 pl78) 27 (nI nd2)) 31 (nI wr2)) 64 (nI at2)) 65 (nI ne)) 66 (nI (lk2 + 1))) (updA X2 2 K)) := mW_D hD
              have n84 : (lk2 + 1) ≤ 60 := (by have := h82 (by omega); omega)
              refine lv_aload_n hx hb dX12_chain_101 rfl (lv_at hl 2 rfl) ?_
              refine lv_dup hx hb dX12_chain_102 rfl ?_
              refine r_get (v := .int (nI at2)) hx hb hown hq hE hP 64 343 tFX12_64 (by decide) pw_1592 rfl dX12_chain_103 ?_
              refine lv_iconst (v := 1) hx hb dX12_chain_106 (by decide) ?_
              refine lv_iadd hx hb dX12_chain_107 ?_
              refine lv_topi (fun x85 e86 => ?_)
              obtain rfl : x85 = nI (at2 + 1) := e86.trans (nI_add (at2) (1))
              refine r_put (v := (nI (at2 + 1))) (ty := .int) hx hb hown hq hE hP hD hS 64 343 tFX12_64 (by decide) pw_1592 (by decide) rfl rfl (ms_64 a _ _) dX12_chain_108 (fun H locs hP hD hS => ?_)
              refine lv_aload_n hx hb dX12_chain_111 rfl (lv_at hl 2 rfl) ?_
              refine lv_sipush (v := 326) hx hb dX12_chain_112 (by decide) ?_
              have hP : va_P G.1 pCl (mW G h0 a (upd (upd (upd (upd (upd (upd (upd (upd (upd F 15 0) 16 pl78) 27 (nI nd2)) 31 (nI wr2)) 64 (nI (at2 + 1))) 65 (nI ne)) 66 (nI (lk2 + 1))) 15 (nI 0)) 64 (nI (at2 + 1))) (updA (updA X2 2 K) 2 K)) _ := mW_to (F := F) (l1 := [(15, 0), (16, pl78), (27, (nI nd2)), (31, (nI wr2)), (64, (nI at2)), (65, (nI ne)), (66, (nI (lk2 + 1))), (64, (nI (at2 + 1)))]) (l2 := [(15, 0), (16, pl78), (27, (nI nd2)), (31, (nI wr2)), (64, (nI (at2 + 1))), (65, (nI ne)), (66, (nI (lk2 + 1))), (15, (nI 0)), (64, (nI (at2 + 1)))]) (V := [(nI 0), pl78, (nI nd2), (nI wr2), (nI (at2 + 1)), (nI ne), (nI (lk2 + 1)), (nI (at2 + 1)), (nI 0), pl78, (nI nd2), (nI wr2), (nI (at2 + 1)), (nI ne), (nI (lk2 + 1)), (nI 0), (nI (at2 + 1))]) rfl rfl (show (updA X2 2 K) = (updA (updA X2 2 K) 2 K) from updsA_eq2 (F := X2) (l1 := [(2, K)]) (l2 := [(2, K), (2, K)]) (V := [K, K, K]) rfl rfl) hP
              have hD : va_D A (mW G h0 a (upd (upd (upd (upd (upd (upd (upd (upd (upd F 15 0) 16 pl78) 27 (nI nd2)) 31 (nI wr2)) 64 (nI (at2 + 1))) 65 (nI ne)) 66 (nI (lk2 + 1))) 15 (nI 0)) 64 (nI (at2 + 1))) (updA (updA X2 2 K) 2 K)) := mW_D hD
              refine pc_V0 (G := G) (As := [.int 326]) (rest := []) hx hb hml hown hq hE hX pX0_al hP hD hS hA hl.1 (R_may l G h0 a (upd (upd (upd (upd (upd (upd (upd F 15 0) 16 pl78) 27 (nI nd2)) 31 (nI wr2)) 64 (nI (at2 + 1))) 65 (nI ne)) 66 (nI (lk2 + 1))) (updA X2 2 K) (at2 + 1) T 0 K 326 (by omega) (by omega) hK (by omega) (by decide) (by decide)) (gV pw_1621 pw_1622 pw_1623 pw_1523 pw_1605) hV_X12_may 0 9 rfl rfl rfl rfl (Nat.le_of_ble_eq_true rfl) dX12_chain_115 ⟨Nat.le_of_ble_eq_true rfl, Nat.le_of_ble_eq_true rfl⟩ ⟨(by show 3 + 1 ≤ (20 * n + 12); omega), (by show 8 + (3 + 11) + 81 ≤ (1000 * n + 40 * 12); omega)⟩ (fun v89 u87 H locs hw88 hP hD hS => ?_)
              obtain ⟨at90, r91⟩ := u87
              obtain ⟨hw88, h92, h93, h94, h95, h96, h97⟩ := hw88
              have h92 : r91 ≤ 1 := h92
              have h93 : 0 + 100 * r91 ≤ 100 := h93
              have h94 : at90 = (at2 + 1) + r91 := h94
              have h95 : at90 ≤ T := h95
              have h96 : If (r91 = 1) (K (at2 + 1) = 326) := h96
              have h97 : If (r91 = 0) (0 = 0 → ¬ K (at2 + 1) = 326) := h97
              obtain rfl : v89 = some (.int (nI r91)) := hw88
              have hP : va_P G.1 pCl (mW G h0 a (upd (upd (upd (upd (upd (upd (upd F 15 0) 16 pl78) 27 (nI nd2)) 31 (nI wr2)) 64 (nI at90)) 65 (nI ne)) 66 (nI (lk2 + 1))) (updA X2 2 K)) _ := mW_to (F := F) (l1 := [(15, 0), (16, pl78), (27, (nI nd2)), (31, (nI wr2)), (64, (nI (at2 + 1))), (65, (nI ne)), (66, (nI (lk2 + 1))), (15, (nI 0)), (64, (nI at90))]) (l2 := [(15, 0), (16, pl78), (27, (nI nd2)), (31, (nI wr2)), (64, (nI at90)), (65, (nI ne)), (66, (nI (lk2 + 1)))]) (V := [0, pl78, (nI nd2), (nI wr2), (nI at90), (nI ne), (nI (lk2 + 1)), 0, (nI at90), 0, pl78, (nI nd2), (nI wr2), (nI at90), (nI ne), (nI (lk2 + 1))]) rfl rfl (show (updA (updA X2 2 K) 2 K) = (updA X2 2 K) from updsA_eq2 (F := X2) (l1 := [(2, K), (2, K)]) (l2 := [(2, K)]) (V := [K, K, K]) rfl rfl) hP
              have hD : va_D A (mW G h0 a (upd (upd (upd (upd (upd (upd (upd F 15 0) 16 pl78) 27 (nI nd2)) 31 (nI wr2)) 64 (nI at90)) 65 (nI ne)) 66 (nI (lk2 + 1))) (updA X2 2 K)) := mW_D hD
              refine W.widen (k := 0) (n := 0) (Nat.le_of_ble_eq_true rfl) (Nat.le_of_ble_eq_true rfl) ?_
              refine W.eq (g2 := F0 m 118 ls [.int (nI r91)]) rfl ?_
              refine lv_if_eq (tgt := 145) hx hb dX12_chain_118 (by decide) (fun c98 => ?_) (fun c98 => ?_)
              · have n99 : r91 = 0 := (nI_eq (a := r91) (b := 0) (by omega) (by omega)).mp c98
                refine lv_aload_n hx hb dX12_chain_145 rfl (lv_at hl 2 rfl) ?_
                have hP : va_P G.1 pCl (mW G h0 a (upd (upd (upd (upd (upd (upd (upd (upd (upd F 15 0) 16 pl78) 27 (nI nd2)) 31 (nI wr2)) 64 (nI at90)) 65 (nI ne)) 66 (nI (lk2 + 1))) 15 (nI 0)) 64 (nI at90)) (updA (updA X2 2 K) 2 K)) _ := mW_to (F := F) (l1 := [(15, 0), (16, pl78), (27, (nI nd2)), (31, (nI wr2)), (64, (nI at90)), (65, (nI ne)), (66, (nI (lk2 + 1)))]) (l2 := [(15, 0), (16, pl78), (27, (nI nd2)), (31, (nI wr2)), (64, (nI at90)), (65, (nI ne)), (66, (nI (lk2 + 1))), (15, (nI 0)), (64, (nI at90))]) (V := [(nI 0), pl78, (nI nd2), (nI wr2), (nI at90), (nI ne), (nI (lk2 + 1)), (nI 0), pl78, (nI nd2), (nI wr2), (nI at90), (nI ne), (nI (lk2 + 1)), (nI 0), (nI at90)]) rfl rfl (show (updA X2 2 K) = (updA (updA X2 2 K) 2 K) from updsA_eq2 (F := X2) (l1 := [(2, K)]) (l2 := [(2, K), (2, K)]) (V := [K, K, K]) rfl rfl) hP
                have hD : va_D A (mW G h0 a (upd (upd (upd (upd (upd (upd (upd (upd (upd F 15 0) 16 pl78) 27 (nI nd2)) 31 (nI wr2)) 64 (nI at90)) 65 (nI ne)) 66 (nI (lk2 + 1))) 15 (nI 0)) 64 (nI at90)) (updA (updA X2 2 K) 2 K)) := mW_D hD
                refine pc_V0 (G := G) (As := []) (rest := []) hx hb hml hown hq hE hX pX0_al hP hD hS hA hl.1 (R_name l G h0 a (upd (upd (upd (upd (upd (upd (upd F 15 0) 16 pl78) 27 (nI nd2)) 31 (nI wr2)) 64 (nI at90)) 65 (nI ne)) 66 (nI (lk2 + 1))) (updA X2 2 K) at90 T 0 K (by omega) (by omega) hK (by omega)) (gV pw_1618 pw_1619 pw_1620 pw_1523 pw_1613) hV_X12_name 0 9 rfl rfl rfl rfl (Nat.le_of_ble_eq_true rfl) dX12_chain_146 ⟨Nat.le_of_ble_eq_true rfl, Nat.le_of_ble_eq_true rfl⟩ ⟨(by show 5 + 1 ≤ (20 * n + 12); omega), (by show 8 + (2 + 11) + 124 ≤ (1000 * n + 40 * 12); omega)⟩ (fun v102 u100 H locs hw101 hP hD hS => ?_)
                obtain ⟨at103, fa104, pl105⟩ := u100
                obtain ⟨hw101, h106, h107, h108, h109, h110, h111, h112, h113⟩ := hw101
                have h106 : at90 ≤ at103 := h106
                have h107 : at103 ≤ T := h107
                have h108 : 0 ≤ fa104 := h108
                have h109 : fa104 ≤ 100 := h109
                have h110 : If (0 < 0) (at103 = at90 ∧ fa104 = 0) := h110
                have h111 : at103 ≤ at90 + 1 := h111
                have h112 : at90 + 1 ≤ at103 + fa104 := h112
                have h113 : If (fa104 = 0) (K at90 = 1) := h113
                obtain rfl : v102 = some (.int (nI at90)) := hw101
                have hP : va_P G.1 pCl (mW G h0 a (upd (upd (upd (upd (upd (upd (upd F 15 (nI fa104)) 16 pl105) 27 (nI nd2)) 31 (nI wr2)) 64 (nI at103)) 65 (nI ne)) 66 (nI (lk2 + 1))) (updA X2 2 K)) _ := mW_to (F := F) (l1 := [(15, 0), (16, pl78), (27, (nI nd2)), (31, (nI wr2)), (64, (nI at90)), (65, (nI ne)), (66, (nI (lk2 + 1))), (15, (nI fa104)), (16, pl105), (64, (nI at103))]) (l2 := [(15, (nI fa104)), (16, pl105), (27, (nI nd2)), (31, (nI wr2)), (64, (nI at103)), (65, (nI ne)), (66, (nI (lk2 + 1)))]) (V := [(nI fa104), pl105, (nI nd2), (nI wr2), (nI at103), (nI ne), (nI (lk2 + 1)), (nI fa104), pl105, (nI at103), (nI fa104), pl105, (nI nd2), (nI wr2), (nI at103), (nI ne), (nI (lk2 + 1))]) rfl rfl (show (updA (updA X2 2 K) 2 K) = (updA X2 2 K) from updsA_eq2 (F := X2) (l1 := [(2, K), (2, K)]) (l2 := [(2, K)]) (V := [K, K, K]) rfl rfl) hP
                have hD : va_D A (mW G h0 a (upd (upd (upd (upd (upd (upd (upd F 15 (nI fa104)) 16 pl105) 27 (nI nd2)) 31 (nI wr2)) 64 (nI at103)) 65 (nI ne)) 66 (nI (lk2 + 1))) (updA X2 2 K)) := mW_D hD
                refine W.widen (k := 0) (n := 0) (Nat.le_of_ble_eq_true rfl) (Nat.le_of_ble_eq_true rfl) ?_
                refine W.eq (g2 := F0 m 149 ls [.int (nI at90)]) rfl ?_
                rcases Nat.eq_zero_or_pos fa104 with e114 | e114
                · subst e114
                  have hP : va_P G.1 pCl (mW G h0 a (upd (upd (upd (upd (upd (upd (upd F 15 0) 16 pl105) 27 (nI nd2)) 31 (nI wr2)) 64 (nI at103)) 65 (nI ne)) 66 (nI (lk2 + 1))) (updA X2 2 K)) _ := hP
                  have hD : va_D A (mW G h0 a (upd (upd (upd (upd (upd (upd (upd F 15 0) 16 pl105) 27 (nI nd2)) 31 (nI wr2)) 64 (nI at103)) 65 (nI ne)) 66 (nI (lk2 + 1))) (updA X2 2 K)) := mW_D hD
                  refine lv_istore_n (lv' := [(3, .int (nI at90)), (2, .int 1), (1, .int (nI r2)), (0, .ref h0)]) hx hb dX12_chain_149 rfl hl (by decide) rfl (fun ls hl => ?_)
                  refine lv_aload_n hx hb dX12_chain_150 rfl (lv_at hl 3 rfl) ?_
                  refine lv_bipush (v := 40) hx hb dX12_chain_151 (by decide) ?_
                  have hP : va_P G.1 pCl (mW G h0 a (upd (upd (upd (upd (upd (upd (upd (upd (upd F 15 0) 16 pl105) 27 (nI nd2)) 31 (nI wr2)) 64 (nI at103)) 65 (nI ne)) 66 (nI (lk2 + 1))) 15 (nI 0)) 64 (nI at103)) (updA (updA X2 2 K) 2 K)) _ := mW_to (F := F) (l1 := [(15, 0), (16, pl105), (27, (nI nd2)), (31, (nI wr2)), (64, (nI at103)), (65, (nI ne)), (66, (nI (lk2 + 1)))]) (l2 := [(15, 0), (16, pl105), (27, (nI nd2)), (31, (nI wr2)), (64, (nI at103)), (65, (nI ne)), (66, (nI (lk2 + 1))), (15, (nI 0)), (64, (nI at103))]) (V := [(nI 0), pl105, (nI nd2), (nI wr2), (nI at103), (nI ne), (nI (lk2 + 1)), (nI 0), pl105, (nI nd2), (nI wr2), (nI at103), (nI ne), (nI (lk2 + 1)), (nI 0), (nI at103)]) rfl rfl (show (updA X2 2 K) = (updA (updA X2 2 K) 2 K) from updsA_eq2 (F := X2) (l1 := [(2, K)]) (l2 := [(2, K), (2, K)]) (V := [K, K, K]) rfl rfl) hP
                  have hD : va_D A (mW G h0 a (upd (upd (upd (upd (upd (upd (upd (upd (upd F 15 0) 16 pl105) 27 (nI nd2)) 31 (nI wr2)) 64 (nI at103)) 65 (nI ne)) 66 (nI (lk2 + 1))) 15 (nI 0)) 64 (nI at103)) (updA (updA X2 2 K) 2 K)) := mW_D hD
                  refine pc_V0 (G := G) (As := [.int 40]) (rest := []) hx hb hml hown hq hE hX pX0_al hP hD hS hA hl.1 (R_is l G h0 a (upd (upd (upd (upd (upd (upd (upd F 15 0) 16 pl105) 27 (nI nd2)) 31 (nI wr2)) 64 (nI at103)) 65 (nI ne)) 66 (nI (lk2 + 1))) (updA X2 2 K) at103 T 0 K 40 (by omega) (by omega) hK (by omega)) (gV pw_1606 pw_1607 pw_1608 pw_1523 pw_1600) hV_X12_is 0 9 rfl rfl rfl rfl (Nat.le_of_ble_eq_true rfl) dX12_chain_153 ⟨Nat.le_of_ble_eq_true rfl, Nat.le_of_ble_eq_true rfl⟩ ⟨(by show 2 + 1 ≤ (20 * n + 12); omega), (by show 8 + (2 + 11) + 60 ≤ (1000 * n + 40 * 12); omega)⟩ (fun v117 u115 H locs hw116 hP hD hS => ?_)
                  obtain ⟨r118, rfl⟩ : ∃ z, z = u115 := ⟨_, rfl⟩
                  obtain ⟨hw116, h119, h120, h121, h122⟩ := hw116
                  have h119 : r118 ≤ 1 := h119
                  have h120 : 0 + 100 * r118 ≤ 100 := h120
                  have h121 : If (r118 = 1) (K at103 = 40) := h121
                  have h122 : If (r118 = 0) (0 = 0 → ¬ K at103 = 40) := h122
                  obtain rfl : v117 = some (.int (nI r118)) := hw116
                  have hP : va_P G.1 pCl (mW G h0 a (upd (upd (upd (upd (upd (upd (upd F 15 0) 16 pl105) 27 (nI nd2)) 31 (nI wr2)) 64 (nI at103)) 65 (nI ne)) 66 (nI (lk2 + 1))) (updA X2 2 K)) _ := mW_to (F := F) (l1 := [(15, 0), (16, pl105), (27, (nI nd2)), (31, (nI wr2)), (64, (nI at103)), (65, (nI ne)), (66, (nI (lk2 + 1))), (15, (nI 0)), (64, (nI at103))]) (l2 := [(15, 0), (16, pl105), (27, (nI nd2)), (31, (nI wr2)), (64, (nI at103)), (65, (nI ne)), (66, (nI (lk2 + 1)))]) (V := [0, pl105, (nI nd2), (nI wr2), (nI at103), (nI ne), (nI (lk2 + 1)), 0, (nI at103), 0, pl105, (nI nd2), (nI wr2), (nI at103), (nI ne), (nI (lk2 + 1))]) rfl rfl (show (updA (updA X2 2 K) 2 K) = (updA X2 2 K) from updsA_eq2 (F := X2) (l1 := [(2, K), (2, K)]) (l2 := [(2, K)]) (V := [K, K, K]) rfl rfl) hP
                  have hD : va_D A (mW G h0 a (upd (upd (upd (upd (upd (upd (upd F 15 0) 16 pl105) 27 (nI nd2)) 31 (nI wr2)) 64 (nI at103)) 65 (nI ne)) 66 (nI (lk2 + 1))) (updA X2 2 K)) := mW_D hD
                  refine W.widen (k := 0) (n := 0) (Nat.le_of_ble_eq_true rfl) (Nat.le_of_ble_eq_true rfl) ?_
                  refine W.eq (g2 := F0 m 156 ls [.int (nI r118)]) rfl ?_
                  refine lv_if_eq (tgt := 183) hx hb dX12_chain_156 (by decide) (fun c123 => ?_) (fun c123 => ?_)
                  · have n124 : r118 = 0 := (nI_eq (a := r118) (b := 0) (by omega) (by omega)).mp c123
                    refine lv_aload_n hx hb dX12_chain_183 rfl (lv_at hl 3 rfl) ?_
                    refine lv_bipush (v := 12) hx hb dX12_chain_184 (by decide) ?_
                    refine lv_aload_n hx hb dX12_chain_186 rfl (lv_at hl 3 rfl) ?_
                    refine r_get (v := .ref (a 10)) hx hb hown hq hE hP 18 41 tFX12_18 (by decide) pw_1440 rfl dX12_chain_187 ?_
                    refine lv_iload_n hx hb dX12_chain_190 rfl (lv_at hl 2 rfl) ?_
                    refine r_ldi (f := (X2 10)) (j := r2) hx hb hE hP 10 (ma_10 G a _) rfl (by omega) (by decide) dX12_chain_191 ?_
                    obtain ⟨t125, h126, e127⟩ := Frs.first (n := r2) hf2 (by omega) (by omega)
                    refine lv_topi (fun x128 e129 => ?_)
                    obtain rfl : x128 = nI t125 := e129.trans e127
                    refine lv_iload_n hx hb dX12_chain_192 rfl (lv_at hl 0 rfl) ?_
                    refine lv_iload_n hx hb dX12_chain_193 rfl (lv_at hl 2 rfl) ?_
                    refine lv_iconst (v := (-1)) hx hb dX12_chain_194 (by decide) ?_
                    have hP : va_P G.1 pCl (mW G h0 a (upd (upd (upd (upd (upd (upd (upd (upd F 15 0) 16 pl105) 27 (nI nd2)) 31 (nI wr2)) 64 (nI at103)) 65 (nI ne)) 66 (nI (lk2 + 1))) 27 (nI nd2)) (updA X2 2 K)) _ := mW_to (F := F) (l1 := [(15, 0), (16, pl105), (27, (nI nd2)), (31, (nI wr2)), (64, (nI at103)), (65, (nI ne)), (66, (nI (lk2 + 1)))]) (l2 := [(15, 0), (16, pl105), (27, (nI nd2)), (31, (nI wr2)), (64, (nI at103)), (65, (nI ne)), (66, (nI (lk2 + 1))), (27, (nI nd2))]) (V := [0, pl105, (nI nd2), (nI wr2), (nI at103), (nI ne), (nI (lk2 + 1)), 0, pl105, (nI nd2), (nI wr2), (nI at103), (nI ne), (nI (lk2 + 1)), (nI nd2)]) rfl rfl rfl hP
                    have hD : va_D A (mW G h0 a (upd (upd (upd (upd (upd (upd (upd (upd F 15 0) 16 pl105) 27 (nI nd2)) 31 (nI wr2)) 64 (nI at103)) 65 (nI ne)) 66 (nI (lk2 + 1))) 27 (nI nd2)) (updA X2 2 K)) := mW_D hD
                    refine pc_V0 (G := G) (As := [.int 12, .int (nI t125), .int (nI at90), .int (nI r2), .int (-1)]) (rest := []) hx hb hml hown hq hE hX pX0_al hP hD hS hA hl.1 (R_nodeB l G h0 a (upd (upd (upd (upd (upd (upd (upd F 15 0) 16 pl105) 27 (nI nd2)) 31 (nI wr2)) 64 (nI at103)) 65 (nI ne)) 66 (nI (lk2 + 1))) X2 12 (nI t125) (nI at90) (nI r2) (-1) nd2 K (by omega)) (gV pw_1650 pw_1651 pw_1652 pw_1523 pw_1589) hV_X12_node 0 9 rfl rfl rfl rfl (Nat.le_of_ble_eq_true rfl) dX12_chain_195 ⟨Nat.le_of_ble_eq_true rfl, Nat.le_of_ble_eq_true rfl⟩ ⟨(by show 2 + 1 ≤ (20 * n + 12); omega), (by show 8 + (7 + 11) + 60 ≤ (1000 * n + 40 * 12); omega)⟩ (fun v132 u130 H locs hw131 hP hD hS => ?_)
                    obtain ⟨X133, rfl⟩ : ∃ z, z = u130 := ⟨_, rfl⟩
                    obtain ⟨hw131, h134⟩ := hw131
                    have h134 : NewN X2 X133 nd2 12 (nI t125) (nI at90) (nI r2) (-1) := h134
                    obtain rfl : v132 = some (.int (nI nd2)) := hw131
                    have hP : va_P G.1 pCl (mW G h0 a (upd (upd (upd (upd (upd (upd (upd F 15 0) 16 pl105) 27 (nI (nd2 + 1))) 31 (nI wr2)) 64 (nI at103)) 65 (nI ne)) 66 (nI (lk2 + 1))) (updA X133 2 K)) _ := mW_to (F := F) (l1 := [(15, 0), (16, pl105), (27, (nI nd2)), (31, (nI wr2)), (64, (nI at103)), (65, (nI ne)), (66, (nI (lk2 + 1))), (27, (nI (nd2 + 1)))]) (l2 := [(15, 0), (16, pl105), (27, (nI (nd2 + 1))), (31, (nI wr2)), (64, (nI at103)), (65, (nI ne)), (66, (nI (lk2 + 1)))]) (V := [0, pl105, (nI (nd2 + 1)), (nI wr2), (nI at103), (nI ne), (nI (lk2 + 1)), (nI (nd2 + 1)), 0, pl105, (nI (nd2 + 1)), (nI wr2), (nI at103), (nI ne), (nI (lk2 + 1))]) rfl rfl rfl hP
                    have hD : va_D A (mW G h0 a (upd (upd (upd (upd (upd (upd (upd F 15 0) 16 pl105) 27 (nI (nd2 + 1))) 31 (nI wr2)) 64 (nI at103)) 65 (nI ne)) 66 (nI (lk2 + 1))) (updA X133 2 K)) := mW_D hD
                    refine W.widen (k := 0) (n := 0) (Nat.le_of_ble_eq_true rfl) (Nat.le_of_ble_eq_true rfl) ?_
                    refine W.eq (g2 := F0 m 198 ls [.int (nI nd2)]) rfl ?_
                    have hkp135 : Kp B X133 wr2 T := (Kp.new hkp2 h134)
                    have hlo136 : Low B X133 nd wr := (Low.new hlo2 h134 (by omega))
                    have hc137 : kcl 1 (X133 9 r2) = true := by rw [h134.2.1 9 r2 (by omega)]; exact hc2
                    have hf138 : Frs K T wr2 X133 nd (nd2 + 1) nd2 [(nd2, (210 + (lk2 + 1) - (10 * ne + lk)))] := (Frs.new1 (k := 12) hf2 (by omega) (by omega) (by omega) h134 rfl rfl (by decide) (by decide) (by omega) (by omega) (by decide) (by simp) ⟨by decide, by decide, by decide, by decide⟩ hc2 (newOK.m1 (by decide)) (newOK.m1 (by decide)) (newOK.m1 (by decide)) (by omega))
                    have hn139 : Nd X133 nd2 12 (nI r2) (-1) (-1) (-1) := (NewN.toNd h134)
                    have hf140 : Frs K T wr2 X133 nd (nd2 + 1) 20000 [(nd2, (210 + (lk2 + 1) - (10 * ne + lk)))] := (Frs.fin (k := 12) hf138 hn139 rfl (by decide) (fun _ => nI_m1 (by omega)) (fun h => absurd h (by decide)) (fun h => absurd h (by decide)) (fun h => absurd h (by decide)))
                    refine lv_istore_n (lv' := [(1, .int (nI nd2)), (3, .int (nI at90)), (2, .int 1), (0, .ref h0)]) hx hb dX12_chain_198 rfl hl (by decide) rfl (fun ls hl => ?_)
                    refine lv_goto (tgt := 7) hx hb dX12_chain_199 (by decide) ?_
                    have hP : va_P G.1 pCl (mW G h0 a (upd (upd (upd (upd (upd (upd (upd F 15 0) 16 pl105) 27 (nI (nd2 + 1))) 31 (nI wr2)) 64 (nI at103)) 65 (nI ne)) 66 (nI (lk2 + 1))) (updA X133 2 K)) _ := hP
                    have hD : va_D A (mW G h0 a (upd (upd (upd (upd (upd (upd (upd F 15 0) 16 pl105) 27 (nI (nd2 + 1))) 31 (nI wr2)) 64 (nI at103)) 65 (nI ne)) 66 (nI (lk2 + 1))) (updA X133 2 K)) := mW_D hD
                    exact ih_o at103 (nd2 + 1) wr2 (lk2 + 1) pl105 X133 nd2 _ _ _ (by omega) (by omega) (by omega) (by omega) (by omega) (by omega) (by omega) (by omega) (by omega) hkp135 hlo136 (by omega) (Frs.up hf140 (by omega)) (by rw [hn139.1]; decide) hP hD hS (lv_sub hl [2, 0, 3] rfl)
                  · have n141 : ¬ (r118 = 0) := fun h9 => c123 ((nI_eq (a := r118) (b := 0) (by omega) (by omega)).mpr h9)
                    refine lv_aload_n hx hb dX12_chain_159 rfl (lv_at hl 3 rfl) ?_
                    refine lv_bipush (v := 14) hx hb dX12_chain_160 (by decide) ?_
                    refine lv_aload_n hx hb dX12_chain_162 rfl (lv_at hl 3 rfl) ?_
                    refine r_get (v := .ref (a 10)) hx hb hown hq hE hP 18 41 tFX12_18 (by decide) pw_1440 rfl dX12_chain_163 ?_
                    refine lv_iload_n hx hb dX12_chain_166 rfl (lv_at hl 2 rfl) ?_
                    refine r_ldi (f := (X2 10)) (j := r2) hx hb hE hP 10 (ma_10 G a _) rfl (by omega) (by decide) dX12_chain_167 ?_
                    obtain ⟨t142, h143, e144⟩ := Frs.first (n := r2) hf2 (by omega) (by omega)
                    refine lv_topi (fun x145 e146 => ?_)
                    obtain rfl : x145 = nI t142 := e146.trans e144
                    refine lv_iload_n hx hb dX12_chain_168 rfl (lv_at hl 0 rfl) ?_
                    refine lv_iload_n hx hb dX12_chain_169 rfl (lv_at hl 2 rfl) ?_
                    refine lv_iconst (v := (-1)) hx hb dX12_chain_170 (by decide) ?_
                    have hP : va_P G.1 pCl (mW G h0 a (upd (upd (upd (upd (upd (upd (upd (upd F 15 0) 16 pl105) 27 (nI nd2)) 31 (nI wr2)) 64 (nI at103)) 65 (nI ne)) 66 (nI (lk2 + 1))) 27 (nI nd2)) (updA X2 2 K)) _ := mW_to (F := F) (l1 := [(15, 0), (16, pl105), (27, (nI nd2)), (31, (nI wr2)), (64, (nI at103)), (65, (nI ne)), (66, (nI (lk2 + 1)))]) (l2 := [(15, 0), (16, pl105), (27, (nI nd2)), (31, (nI wr2)), (64, (nI at103)), (65, (nI ne)), (66, (nI (lk2 + 1))), (27, (nI nd2))]) (V := [0, pl105, (nI nd2), (nI wr2), (nI at103), (nI ne), (nI (lk2 + 1)), 0, pl105, (nI nd2), (nI wr2), (nI at103), (nI ne), (nI (lk2 + 1)), (nI nd2)]) rfl rfl rfl hP
                    have hD : va_D A (mW G h0 a (upd (upd (upd (upd (upd (upd (upd (upd F 15 0) 16 pl105) 27 (nI nd2)) 31 (nI wr2)) 64 (nI at103)) 65 (nI ne)) 66 (nI (lk2 + 1))) 27 (nI nd2)) (updA X2 2 K)) := mW_D hD
                    refine pc_V0 (G := G) (As := [.int 14, .int (nI t142), .int (nI at90), .int (nI r2), .int (-1)]) (rest := []) hx hb hml hown hq hE hX pX0_al hP hD hS hA hl.1 (R_nodeB l G h0 a (upd (upd (upd (upd (upd (upd (upd F 15 0) 16 pl105) 27 (nI nd2)) 31 (nI wr2)) 64 (nI at103)) 65 (nI ne)) 66 (nI (lk2 + 1))) X2 14 (nI t142) (nI at90) (nI r2) (-1) nd2 K (by omega)) (gV pw_1650 pw_1651 pw_1652 pw_1523 pw_1589) hV_X12_node 0 9 rfl rfl rfl rfl (Nat.le_of_ble_eq_true rfl) dX12_chain_171 ⟨Nat.le_of_ble_eq_true rfl, Nat.le_of_ble_eq_true rfl⟩ ⟨(by show 2 + 1 ≤ (20 * n + 12); omega), (by show 8 + (7 + 11) + 60 ≤ (1000 * n + 40 * 12); omega)⟩ (fun v149 u147 H locs hw148 hP hD hS => ?_)
                    obtain ⟨X150, rfl⟩ : ∃ z, z = u147 := ⟨_, rfl⟩
                    obtain ⟨hw148, h151⟩ := hw148
                    have h151 : NewN X2 X150 nd2 14 (nI t142) (nI at90) (nI r2) (-1) := h151
                    obtain rfl : v149 = some (.int (nI nd2)) := hw148
                    have hP : va_P G.1 pCl (mW G h0 a (upd (upd (upd (upd (upd (upd (upd F 15 0) 16 pl105) 27 (nI (nd2 + 1))) 31 (nI wr2)) 64 (nI at103)) 65 (nI ne)) 66 (nI (lk2 + 1))) (updA X150 2 K)) _ := mW_to (F := F) (l1 := [(15, 0), (16, pl105), (27, (nI nd2)), (31, (nI wr2)), (64, (nI at103)), (65, (nI ne)), (66, (nI (lk2 + 1))), (27, (nI (nd2 + 1)))]) (l2 := [(15, 0), (16, pl105), (27, (nI (nd2 + 1))), (31, (nI wr2)), (64, (nI at103)), (65, (nI ne)), (66, (nI (lk2 + 1)))]) (V := [0, pl105, (nI (nd2 + 1)), (nI wr2), (nI at103), (nI ne), (nI (lk2 + 1)), (nI (nd2 + 1)), 0, pl105, (nI (nd2 + 1)), (nI wr2), (nI at103), (nI ne), (nI (lk2 + 1))]) rfl rfl rfl hP
                    have hD : va_D A (mW G h0 a (upd (upd (upd (upd (upd (upd (upd F 15 0) 16 pl105) 27 (nI (nd2 + 1))) 31 (nI wr2)) 64 (nI at103)) 65 (nI ne)) 66 (nI (lk2 + 1))) (updA X150 2 K)) := mW_D hD
                    refine W.widen (k := 0) (n := 0) (Nat.le_of_ble_eq_true rfl) (Nat.le_of_ble_eq_true rfl) ?_
                    refine W.eq (g2 := F0 m 174 ls [.int (nI nd2)]) rfl ?_
                    have hkp152 : Kp B X150 wr2 T := (Kp.new hkp2 h151)
                    have hlo153 : Low B X150 nd wr := (Low.new hlo2 h151 (by omega))
                    have hc154 : kcl 1 (X150 9 r2) = true := by rw [h151.2.1 9 r2 (by omega)]; exact hc2
                    have hf155 : Frs K T wr2 X150 nd (nd2 + 1) nd2 [(nd2, (210 + (lk2 + 1) - (10 * ne + lk)))] := (Frs.new1 (k := 14) hf2 (by omega) (by omega) (by omega) h151 rfl rfl (by decide) (by decide) (by omega) (by omega) (by decide) (by simp) ⟨by decide, by decide, by decide, by decide⟩ hc2 (newOK.m1 (by decide)) (newOK.m1 (by decide)) (newOK.m1 (by decide)) (by omega))
                    have hn156 : Nd X150 nd2 14 (nI r2) (-1) (-1) (-1) := (NewN.toNd h151)
                    refine lv_istore_n (lv' := [(1, .int (nI nd2)), (3, .int (nI at90)), (2, .int 1), (0, .ref h0)]) hx hb dX12_chain_174 rfl hl (by decide) rfl (fun ls hl => ?_)
                    refine lv_aload_n hx hb dX12_chain_175 rfl (lv_at hl 3 rfl) ?_
                    refine lv_iload_n hx hb dX12_chain_176 rfl (lv_at hl 0 rfl) ?_
                    have hP : va_P G.1 pCl (mW G h0 a (upd (upd (upd (upd (upd (upd (upd (upd (upd (upd (upd (upd (upd F 15 0) 16 pl105) 27 (nI (nd2 + 1))) 31 (nI wr2)) 64 (nI at103)) 65 (nI ne)) 66 (nI (lk2 + 1))) 15 0) 27 (nI (nd2 + 1))) 31 (nI wr2)) 64 (nI at103)) 65 (nI ne)) 66 (nI (lk2 + 1))) (updA X150 2 K)) _ := mW_to (F := F) (l1 := [(15, 0), (16, pl105), (27, (nI (nd2 + 1))), (31, (nI wr2)), (64, (nI at103)), (65, (nI ne)), (66, (nI (lk2 + 1)))]) (l2 := [(15, 0), (16, pl105), (27, (nI (nd2 + 1))), (31, (nI wr2)), (64, (nI at103)), (65, (nI ne)), (66, (nI (lk2 + 1))), (15, 0), (27, (nI (nd2 + 1))), (31, (nI wr2)), (64, (nI at103)), (65, (nI ne)), (66, (nI (lk2 + 1)))]) (V := [0, pl105, (nI (nd2 + 1)), (nI wr2), (nI at103), (nI ne), (nI (lk2 + 1)), 0, pl105, (nI (nd2 + 1)), (nI wr2), (nI at103), (nI ne), (nI (lk2 + 1)), 0, (nI (nd2 + 1)), (nI wr2), (nI at103), (nI ne), (nI (lk2 + 1))]) rfl rfl rfl hP
                    have hD : va_D A (mW G h0 a (upd (upd (upd (upd (upd (upd (upd (upd (upd (upd (upd (upd (upd F 15 0) 16 pl105) 27 (nI (nd2 + 1))) 31 (nI wr2)) 64 (nI at103)) 65 (nI ne)) 66 (nI (lk2 + 1))) 15 0) 27 (nI (nd2 + 1))) 31 (nI wr2)) 64 (nI at103)) 65 (nI ne)) 66 (nI (lk2 + 1))) (updA X150 2 K)) := mW_D hD
                    refine pc_V0 (G := G) (As := [.int (nI nd2)]) (rest := []) hx hb hml hown hq hE hX pX0_al hP hD hS hA hl.1 (ha h0 a (upd (upd (upd (upd (upd (upd (upd F 15 0) 16 pl105) 27 (nI (nd2 + 1))) 31 (nI wr2)) 64 (nI at103)) 65 (nI ne)) 66 (nI (lk2 + 1))) X150 at103 T ne (nd2 + 1) wr2 (lk2 + 1) K nd2 nd (210 + (lk2 + 1) - (10 * ne + lk)) (210 + (lk2 + 1) - (10 * ne + lk)) 14 (nI r2) (by omega) (by omega) hK (by omega) (by omega) (by omega) (by omega) (hkp152).2 (by omega) hf155 hn156 (by decide) (fun _ => nI_m1 (by omega)) (by omega) (by omega) (by omega)) (gV pw_1653 pw_1654 pw_1655 pw_1523 pw_1681) hV_X12_arguments 0 9 rfl rfl rfl rfl (Nat.le_of_ble_eq_true rfl) dX12_chain_177 ⟨Nat.le_of_ble_eq_true rfl, Nat.le_of_ble_eq_true rfl⟩ ⟨(by show (20 * n + 8) + 1 ≤ (20 * n + 12); omega), (by show 8 + (5 + 11) + (1000 * n + 40 * 8) ≤ (1000 * n + 40 * 12); omega)⟩ (fun v159 u157 H locs hw158 hP hD hS => ?_)
                    obtain ⟨at160, fa161, pl162, nd163, lk164, wr165, X166⟩ := u157
                    obtain ⟨hw158, h167, h168, h169, h170, h171, h172, h173, h174, h175, h176, h177, h178, h179⟩ := hw158
                    have h167 : at103 ≤ at160 := h167
                    have h168 : at160 ≤ T := h168
                    have h169 : fa161 ≤ 100 := h169
                    have h170 : (nd2 + 1) ≤ nd163 := h170
                    have h171 : nd163 + 2 * at103 ≤ (nd2 + 1) + 2 * at160 + 100000 * fa161 := h171
                    have h172 : nd163 + 2 * at103 ≤ (nd2 + 1) + 2 * at160 + 40 * (21 - ne) := h172
                    have h173 : wr2 ≤ wr165 := h173
                    have h174 : wr165 + at103 ≤ wr2 + at160 := h174
                    have h175 : (lk2 + 1) ≤ lk164 := h175
                    have h176 : lk164 ≤ 60 + 100 * fa161 := h176
                    have h177 : at103 + 1 ≤ at160 + fa161 := h177
                    have h178 : Kp X150 X166 wr165 T := h178
                    have h179 : If (fa161 = 0) (Low X150 X166 nd wr2 ∧ Frs K T wr165 X166 nd nd163 20000 [(nd2, ((210 + (lk2 + 1) - (10 * ne + lk)) + lk164 - (lk2 + 1)))] ∧ X166 9 nd2 = nI 14) := h179
                    obtain rfl : v159 = none := hw158
                    have hP : va_P G.1 pCl (mW G h0 a (upd (upd (upd (upd (upd (upd (upd F 15 (nI fa161)) 16 pl162) 27 (nI nd163)) 31 (nI wr165)) 64 (nI at160)) 65 (nI ne)) 66 (nI lk164)) (updA X166 2 K)) _ := mW_to (F := F) (l1 := [(15, 0), (16, pl105), (27, (nI (nd2 + 1))), (31, (nI wr2)), (64, (nI at103)), (65, (nI ne)), (66, (nI (lk2 + 1))), (15, (nI fa161)), (16, pl162), (27, (nI nd163)), (31, (nI wr165)), (64, (nI at160)), (65, (nI ne)), (66, (nI lk164))]) (l2 := [(15, (nI fa161)), (16, pl162), (27, (nI nd163)), (31, (nI wr165)), (64, (nI at160)), (65, (nI ne)), (66, (nI lk164))]) (V := [(nI fa161), pl162, (nI nd163), (nI wr165), (nI at160), (nI ne), (nI lk164), (nI fa161), pl162, (nI nd163), (nI wr165), (nI at160), (nI ne), (nI lk164), (nI fa161), pl162, (nI nd163), (nI wr165), (nI at160), (nI ne), (nI lk164)]) rfl rfl rfl hP
                    have hD : va_D A (mW G h0 a (upd (upd (upd (upd (upd (upd (upd F 15 (nI fa161)) 16 pl162) 27 (nI nd163)) 31 (nI wr165)) 64 (nI at160)) 65 (nI ne)) 66 (nI lk164)) (updA X166 2 K)) := mW_D hD
                    refine W.widen (k := 0) (n := 0) (Nat.le_of_ble_eq_true rfl) (Nat.le_of_ble_eq_true rfl) ?_
                    refine W.eq (g2 := F0 m 180 ls []) rfl ?_
                    have hkp180 : Kp B X166 wr165 T := (Kp.trans hkp152 h178)
                    rcases Nat.eq_zero_or_pos fa161 with e181 | e181
                    · subst e181
                      have hP : va_P G.1 pCl (mW G h0 a (upd (upd (upd (upd (upd (upd (upd F 15 0) 16 pl162) 27 (nI nd163)) 31 (nI wr165)) 64 (nI at160)) 65 (nI ne)) 66 (nI lk164)) (updA X166 2 K)) _ := hP
                      have hD : va_D A (mW G h0 a (upd (upd (upd (upd (upd (upd (upd F 15 0) 16 pl162) 27 (nI nd163)) 31 (nI wr165)) 64 (nI at160)) 65 (nI ne)) 66 (nI lk164)) (updA X166 2 K)) := mW_D hD
                      obtain ⟨hlw182, hf183, hc184⟩ := h179 rfl
                      have hlo185 : Low B X166 nd wr := (Low.trans hlo153 hlw182 (by omega) (by omega))
                      have hm186 := Frs.mem hf183
                      have hc187 : kcl 1 (X166 9 nd2) = true := (by rw [hc184]; decide)
                      refine lv_goto (tgt := 199) hx hb dX12_chain_180 (by decide) ?_
                      refine lv_goto (tgt := 7) hx hb dX12_chain_199 (by decide) ?_
                      have hP : va_P G.1 pCl (mW G h0 a (upd (upd (upd (upd (upd (upd (upd F 15 0) 16 pl162) 27 (nI nd163)) 31 (nI wr165)) 64 (nI at160)) 65 (nI ne)) 66 (nI lk164)) (updA X166 2 K)) _ := hP
                      have hD : va_D A (mW G h0 a (upd (upd (upd (upd (upd (upd (upd F 15 0) 16 pl162) 27 (nI nd163)) 31 (nI wr165)) 64 (nI at160)) 65 (nI ne)) 66 (nI lk164)) (updA X166 2 K)) := mW_D hD
                      exact ih_o at160 nd163 wr165 lk164 pl162 X166 nd2 _ _ _ (by omega) (by omega) (by omega) (by omega) (by omega) (by omega) (by omega) (by omega) (by omega) hkp180 hlo185 (by omega) (Frs.up hf183 (by omega)) hc187 hP hD hS (lv_sub hl [2, 0, 3] rfl)
                    · have e181 := e181
                      refine lv_goto (tgt := 199) hx hb dX12_chain_180 (by decide) ?_
                      refine lv_goto (tgt := 7) hx hb dX12_chain_199 (by decide) ?_
                      refine lv_iload_n hx hb dX12_chain_7 rfl (lv_at hl 2 rfl) ?_
                      refine lv_if_eq (tgt := 207) hx hb dX12_chain_8 (by decide) (fun c188 => absurd c188 (by decide)) (fun c188 => ?_)
                      refine lv_aload_n hx hb dX12_chain_11 rfl (lv_at hl 3 rfl) ?_
                      refine r_get (v := .int (nI fa161)) hx hb hown hq hE hP 15 350 tFX12_15 (by decide) pw_1594 rfl dX12_chain_12 ?_
                      refine lv_if_ne (tgt := 207) hx hb dX12_chain_15 (by decide) (fun c189 => ?_) (fun c189 => (by have n190 : fa161 = 0 := (nI_eq (a := fa161) (b := 0) (by omega) (by omega)).mp c189; omega))
                      refine lv_iload_n hx hb dX12_chain_207 rfl (lv_at hl 0 rfl) ?_
                      have hz191 : at0 ≤ at160 := (by omega)
                      have hz192 : at160 ≤ T := (by omega)
                      have hz193 : fa161 ≤ 100 := (by omega)
                      have hz194 : nd ≤ nd163 := (by omega)
                      have hz195 : nd163 + 2 * at0 ≤ nd + 2 * at160 + 100000 * fa161 := (by omega)
                      have hz196 : nd163 + 2 * at0 ≤ nd + 2 * at160 + 40 * (21 - ne) := (by omega)
                      have hz197 : wr ≤ wr165 := (by omega)
                      have hz198 : wr165 + at0 ≤ wr + at160 := (by omega)
                      have hz199 : lk ≤ lk164 := (by omega)
                      have hz200 : lk164 ≤ 60 + 100 * fa161 := (by omega)
                      have hz201 : at0 + 1 ≤ at160 + fa161 := (by omega)
                      have hz202 : nd2 ≤ nd163 := (by omega)
                      have hz203 : Kp B X166 wr165 T := hkp180
                      have hz204 : If (fa161 = 0) (Low B X166 nd wr ∧ Frs K T wr165 X166 nd nd163 20000 [(nd2, (210 + lk164 - (10 * ne + lk)))] ∧ kcl 1 (X166 9 nd2) = true) := (fun e => absurd e (by omega))
                      have hP : va_P G.1 pCl (mW G h0 a (upd (upd (upd (upd (upd (upd (upd F 15 (nI fa161)) 16 pl162) 27 (nI nd163)) 31 (nI wr165)) 64 (nI at160)) 65 (nI ne)) 66 (nI lk164)) (updA X166 2 K)) _ := hP
                      have hD : va_D A (mW G h0 a (upd (upd (upd (upd (upd (upd (upd F 15 (nI fa161)) 16 pl162) 27 (nI nd163)) 31 (nI wr165)) 64 (nI at160)) 65 (nI ne)) 66 (nI lk164)) (updA X166 2 K)) := mW_D hD
                      exact W.iret (v := (nI nd2)) hx hb hr (fun t9 ht9 hW9 => ⟨⟨_, (at160, fa161, pl162, nd163, lk164, wr165, nd2, X166), rfl, ⟨rfl, hz191, hz192, hz193, hz194, hz195, hz196, hz197, hz198, hz199, hz200, hz201, hz202, hz203, hz204⟩, by rw [ht9]; exact hP, hD⟩, hS.F ht9⟩) hS.2.2 dX12_chain_208
                · have e114 := e114
                  refine lv_istore_n (lv' := [(3, .int (nI at90)), (2, .int 1), (1, .int (nI r2)), (0, .ref h0)]) hx hb dX12_chain_149 rfl hl (by decide) rfl (fun ls hl => ?_)
                  refine lv_aload_n hx hb dX12_chain_150 rfl (lv_at hl 3 rfl) ?_
                  refine lv_bipush (v := 40) hx hb dX12_chain_151 (by decide) ?_
                  have hP : va_P G.1 pCl (mW G h0 a (upd (upd (upd (upd (upd (upd (upd (upd (upd F 15 (nI fa104)) 16 pl105) 27 (nI nd2)) 31 (nI wr2)) 64 (nI at103)) 65 (nI ne)) 66 (nI (lk2 + 1))) 15 (nI fa104)) 64 (nI at103)) (updA (updA X2 2 K) 2 K)) _ := mW_to (F := F) (l1 := [(15, (nI fa104)), (16, pl105), (27, (nI nd2)), (31, (nI wr2)), (64, (nI at103)), (65, (nI ne)), (66, (nI (lk2 + 1)))]) (l2 := [(15, (nI fa104)), (16, pl105), (27, (nI nd2)), (31, (nI wr2)), (64, (nI at103)), (65, (nI ne)), (66, (nI (lk2 + 1))), (15, (nI fa104)), (64, (nI at103))]) (V := [(nI fa104), pl105, (nI nd2), (nI wr2), (nI at103), (nI ne), (nI (lk2 + 1)), (nI fa104), pl105, (nI nd2), (nI wr2), (nI at103), (nI ne), (nI (lk2 + 1)), (nI fa104), (nI at103)]) rfl rfl (show (updA X2 2 K) = (updA (updA X2 2 K) 2 K) from updsA_eq2 (F := X2) (l1 := [(2, K)]) (l2 := [(2, K), (2, K)]) (V := [K, K, K]) rfl rfl) hP
                  have hD : va_D A (mW G h0 a (upd (upd (upd (upd (upd (upd (upd (upd (upd F 15 (nI fa104)) 16 pl105) 27 (nI nd2)) 31 (nI wr2)) 64 (nI at103)) 65 (nI ne)) 66 (nI (lk2 + 1))) 15 (nI fa104)) 64 (nI at103)) (updA (updA X2 2 K) 2 K)) := mW_D hD
                  refine pc_V0 (G := G) (As := [.int 40]) (rest := []) hx hb hml hown hq hE hX pX0_al hP hD hS hA hl.1 (R_is l G h0 a (upd (upd (upd (upd (upd (upd (upd F 15 (nI fa104)) 16 pl105) 27 (nI nd2)) 31 (nI wr2)) 64 (nI at103)) 65 (nI ne)) 66 (nI (lk2 + 1))) (updA X2 2 K) at103 T fa104 K 40 (by omega) (by omega) hK (by omega)) (gV pw_1606 pw_1607 pw_1608 pw_1523 pw_1600) hV_X12_is 0 9 rfl rfl rfl rfl (Nat.le_of_ble_eq_true rfl) dX12_chain_153 ⟨Nat.le_of_ble_eq_true rfl, Nat.le_of_ble_eq_true rfl⟩ ⟨(by show 2 + 1 ≤ (20 * n + 12); omega), (by show 8 + (2 + 11) + 60 ≤ (1000 * n + 40 * 12); omega)⟩ (fun v207 u205 H locs hw206 hP hD hS => ?_)
                  obtain ⟨r208, rfl⟩ : ∃ z, z = u205 := ⟨_, rfl⟩
                  obtain ⟨hw206, h209, h210, h211, h212⟩ := hw206
                  have h209 : r208 ≤ 1 := h209
                  have h210 : fa104 + 100 * r208 ≤ 100 := h210
                  have h211 : If (r208 = 1) (K at103 = 40) := h211
                  have h212 : If (r208 = 0) (fa104 = 0 → ¬ K at103 = 40) := h212
                  obtain rfl : v207 = some (.int (nI r208)) := hw206
                  have hP : va_P G.1 pCl (mW G h0 a (upd (upd (upd (upd (upd (upd (upd F 15 (nI fa104)) 16 pl105) 27 (nI nd2)) 31 (nI wr2)) 64 (nI at103)) 65 (nI ne)) 66 (nI (lk2 + 1))) (updA X2 2 K)) _ := mW_to (F := F) (l1 := [(15, (nI fa104)), (16, pl105), (27, (nI nd2)), (31, (nI wr2)), (64, (nI at103)), (65, (nI ne)), (66, (nI (lk2 + 1))), (15, (nI fa104)), (64, (nI at103))]) (l2 := [(15, (nI fa104)), (16, pl105), (27, (nI nd2)), (31, (nI wr2)), (64, (nI at103)), (65, (nI ne)), (66, (nI (lk2 + 1)))]) (V := [(nI fa104), pl105, (nI nd2), (nI wr2), (nI at103), (nI ne), (nI (lk2 + 1)), (nI fa104), (nI at103), (nI fa104), pl105, (nI nd2), (nI wr2), (nI at103), (nI ne), (nI (lk2 + 1))]) rfl rfl (show (updA (updA X2 2 K) 2 K) = (updA X2 2 K) from updsA_eq2 (F := X2) (l1 := [(2, K), (2, K)]) (l2 := [(2, K)]) (V := [K, K, K]) rfl rfl) hP
                  have hD : va_D A (mW G h0 a (upd (upd (upd (upd (upd (upd (upd F 15 (nI fa104)) 16 pl105) 27 (nI nd2)) 31 (nI wr2)) 64 (nI at103)) 65 (nI ne)) 66 (nI (lk2 + 1))) (updA X2 2 K)) := mW_D hD
                  refine W.widen (k := 0) (n := 0) (Nat.le_of_ble_eq_true rfl) (Nat.le_of_ble_eq_true rfl) ?_
                  refine W.eq (g2 := F0 m 156 ls [.int (nI r208)]) rfl ?_
                  refine lv_if_eq (tgt := 183) hx hb dX12_chain_156 (by decide) (fun c213 => ?_) (fun c213 => (by have n214 : ¬ (r208 = 0) := fun h9 => c213 ((nI_eq (a := r208) (b := 0) (by omega) (by omega)).mpr h9); omega))
                  refine lv_aload_n hx hb dX12_chain_183 rfl (lv_at hl 3 rfl) ?_
                  refine lv_bipush (v := 12) hx hb dX12_chain_184 (by decide) ?_
                  refine lv_aload_n hx hb dX12_chain_186 rfl (lv_at hl 3 rfl) ?_
                  refine r_get (v := .ref (a 10)) hx hb hown hq hE hP 18 41 tFX12_18 (by decide) pw_1440 rfl dX12_chain_187 ?_
                  refine lv_iload_n hx hb dX12_chain_190 rfl (lv_at hl 2 rfl) ?_
                  refine r_ldi (f := (X2 10)) (j := r2) hx hb hE hP 10 (ma_10 G a _) rfl (by omega) (by decide) dX12_chain_191 ?_
                  refine lv_topi (fun x215 e216 => ?_)
                  refine lv_iload_n hx hb dX12_chain_192 rfl (lv_at hl 0 rfl) ?_
                  refine lv_iload_n hx hb dX12_chain_193 rfl (lv_at hl 2 rfl) ?_
                  refine lv_iconst (v := (-1)) hx hb dX12_chain_194 (by decide) ?_
                  have hP : va_P G.1 pCl (mW G h0 a (upd (upd (upd (upd (upd (upd (upd (upd F 15 (nI fa104)) 16 pl105) 27 (nI nd2)) 31 (nI wr2)) 64 (nI at103)) 65 (nI ne)) 66 (nI (lk2 + 1))) 27 (nI nd2)) (updA X2 2 K)) _ := mW_to (F := F) (l1 := [(15, (nI fa104)), (16, pl105), (27, (nI nd2)), (31, (nI wr2)), (64, (nI at103)), (65, (nI ne)), (66, (nI (lk2 + 1)))]) (l2 := [(15, (nI fa104)), (16, pl105), (27, (nI nd2)), (31, (nI wr2)), (64, (nI at103)), (65, (nI ne)), (66, (nI (lk2 + 1))), (27, (nI nd2))]) (V := [(nI fa104), pl105, (nI nd2), (nI wr2), (nI at103), (nI ne), (nI (lk2 + 1)), (nI fa104), pl105, (nI nd2), (nI wr2), (nI at103), (nI ne), (nI (lk2 + 1)), (nI nd2)]) rfl rfl rfl hP
                  have hD : va_D A (mW G h0 a (upd (upd (upd (upd (upd (upd (upd (upd F 15 (nI fa104)) 16 pl105) 27 (nI nd2)) 31 (nI wr2)) 64 (nI at103)) 65 (nI ne)) 66 (nI (lk2 + 1))) 27 (nI nd2)) (updA X2 2 K)) := mW_D hD
                  refine pc_V0 (G := G) (As := [.int 12, .int x215, .int (nI at90), .int (nI r2), .int (-1)]) (rest := []) hx hb hml hown hq hE hX pX0_al hP hD hS hA hl.1 (R_nodeB l G h0 a (upd (upd (upd (upd (upd (upd (upd F 15 (nI fa104)) 16 pl105) 27 (nI nd2)) 31 (nI wr2)) 64 (nI at103)) 65 (nI ne)) 66 (nI (lk2 + 1))) X2 12 x215 (nI at90) (nI r2) (-1) nd2 K (by omega)) (gV pw_1650 pw_1651 pw_1652 pw_1523 pw_1589) hV_X12_node 0 9 rfl rfl rfl rfl (Nat.le_of_ble_eq_true rfl) dX12_chain_195 ⟨Nat.le_of_ble_eq_true rfl, Nat.le_of_ble_eq_true rfl⟩ ⟨(by show 2 + 1 ≤ (20 * n + 12); omega), (by show 8 + (7 + 11) + 60 ≤ (1000 * n + 40 * 12); omega)⟩ (fun v219 u217 H locs hw218 hP hD hS => ?_)
                  obtain ⟨X220, rfl⟩ : ∃ z, z = u217 := ⟨_, rfl⟩
                  obtain ⟨hw218, h221⟩ := hw218
                  have h221 : NewN X2 X220 nd2 12 x215 (nI at90) (nI r2) (-1) := h221
                  obtain rfl : v219 = some (.int (nI nd2)) := hw218
                  have hP : va_P G.1 pCl (mW G h0 a (upd (upd (upd (upd (upd (upd (upd F 15 (nI fa104)) 16 pl105) 27 (nI (nd2 + 1))) 31 (nI wr2)) 64 (nI at103)) 65 (nI ne)) 66 (nI (lk2 + 1))) (updA X220 2 K)) _ := mW_to (F := F) (l1 := [(15, (nI fa104)), (16, pl105), (27, (nI nd2)), (31, (nI wr2)), (64, (nI at103)), (65, (nI ne)), (66, (nI (lk2 + 1))), (27, (nI (nd2 + 1)))]) (l2 := [(15, (nI fa104)), (16, pl105), (27, (nI (nd2 + 1))), (31, (nI wr2)), (64, (nI at103)), (65, (nI ne)), (66, (nI (lk2 + 1)))]) (V := [(nI fa104), pl105, (nI (nd2 + 1)), (nI wr2), (nI at103), (nI ne), (nI (lk2 + 1)), (nI (nd2 + 1)), (nI fa104), pl105, (nI (nd2 + 1)), (nI wr2), (nI at103), (nI ne), (nI (lk2 + 1))]) rfl rfl rfl hP
                  have hD : va_D A (mW G h0 a (upd (upd (upd (upd (upd (upd (upd F 15 (nI fa104)) 16 pl105) 27 (nI (nd2 + 1))) 31 (nI wr2)) 64 (nI at103)) 65 (nI ne)) 66 (nI (lk2 + 1))) (updA X220 2 K)) := mW_D hD
                  refine W.widen (k := 0) (n := 0) (Nat.le_of_ble_eq_true rfl) (Nat.le_of_ble_eq_true rfl) ?_
                  refine W.eq (g2 := F0 m 198 ls [.int (nI nd2)]) rfl ?_
                  have hkp222 : Kp B X220 wr2 T := (Kp.new hkp2 h221)
                  refine lv_istore_n (lv' := [(1, .int (nI nd2)), (3, .int (nI at90)), (2, .int 1), (0, .ref h0)]) hx hb dX12_chain_198 rfl hl (by decide) rfl (fun ls hl => ?_)
                  refine lv_goto (tgt := 7) hx hb dX12_chain_199 (by decide) ?_
                  refine lv_iload_n hx hb dX12_chain_7 rfl (lv_at hl 2 rfl) ?_
                  refine lv_if_eq (tgt := 207) hx hb dX12_chain_8 (by decide) (fun c223 => absurd c223 (by decide)) (fun c223 => ?_)
                  refine lv_aload_n hx hb dX12_chain_11 rfl (lv_at hl 3 rfl) ?_
                  refine r_get (v := .int (nI fa104)) hx hb hown hq hE hP 15 350 tFX12_15 (by decide) pw_1594 rfl dX12_chain_12 ?_
                  refine lv_if_ne (tgt := 207) hx hb dX12_chain_15 (by decide) (fun c224 => ?_) (fun c224 => (by have n225 : fa104 = 0 := (nI_eq (a := fa104) (b := 0) (by omega) (by omega)).mp c224; omega))
                  refine lv_iload_n hx hb dX12_chain_207 rfl (lv_at hl 0 rfl) ?_
                  have hz226 : at0 ≤ at103 := (by omega)
                  have hz227 : at103 ≤ T := (by omega)
                  have hz228 : fa104 ≤ 100 := (by omega)
                  have hz229 : nd ≤ (nd2 + 1) := (by omega)
                  have hz230 : (nd2 + 1) + 2 * at0 ≤ nd + 2 * at103 + 100000 * fa104 := (by omega)
                  have hz231 : (nd2 + 1) + 2 * at0 ≤ nd + 2 * at103 + 40 * (21 - ne) := (by omega)
                  have hz232 : wr ≤ wr2 := (by omega)
                  have hz233 : wr2 + at0 ≤ wr + at103 := (by omega)
                  have hz234 : lk ≤ (lk2 + 1) := (by omega)
                  have hz235 : (lk2 + 1) ≤ 60 + 100 * fa104 := (by omega)
                  have hz236 : at0 + 1 ≤ at103 + fa104 := (by omega)
                  have hz237 : nd2 ≤ (nd2 + 1) := (by omega)
                  have hz238 : Kp B X220 wr2 T := hkp222
                  have hz239 : If (fa104 = 0) (Low B X220 nd wr ∧ Frs K T wr2 X220 nd (nd2 + 1) 20000 [(nd2, (210 + (lk2 + 1) - (10 * ne + lk)))] ∧ kcl 1 (X220 9 nd2) = true) := (fun e => absurd e (by omega))
                  have hP : va_P G.1 pCl (mW G h0 a (upd (upd (upd (upd (upd (upd (upd F 15 (nI fa104)) 16 pl105) 27 (nI (nd2 + 1))) 31 (nI wr2)) 64 (nI at103)) 65 (nI ne)) 66 (nI (lk2 + 1))) (updA X220 2 K)) _ := hP
                  have hD : va_D A (mW G h0 a (upd (upd (upd (upd (upd (upd (upd F 15 (nI fa104)) 16 pl105) 27 (nI (nd2 + 1))) 31 (nI wr2)) 64 (nI at103)) 65 (nI ne)) 66 (nI (lk2 + 1))) (updA X220 2 K)) := mW_D hD
                  exact W.iret (v := (nI nd2)) hx hb hr (fun t9 ht9 hW9 => ⟨⟨_, (at103, fa104, pl105, (nd2 + 1), (lk2 + 1), wr2, nd2, X220), rfl, ⟨rfl, hz226, hz227, hz228, hz229, hz230, hz231, hz232, hz233, hz234, hz235, hz236, hz237, hz238, hz239⟩, by rw [ht9]; exact hP, hD⟩, hS.F ht9⟩) hS.2.2 dX12_chain_208
              · have n240 : ¬ (r91 = 0) := fun h9 => c98 ((nI_eq (a := r91) (b := 0) (by omega) (by omega)).mpr h9)
                refine lv_aload_n hx hb dX12_chain_121 rfl (lv_at hl 2 rfl) ?_
                refine lv_bipush (v := 13) hx hb dX12_chain_122 (by decide) ?_
                refine lv_aload_n hx hb dX12_chain_124 rfl (lv_at hl 2 rfl) ?_
                refine r_get (v := .ref (a 10)) hx hb hown hq hE hP 18 41 tFX12_18 (by decide) pw_1440 rfl dX12_chain_125 ?_
                refine lv_iload_n hx hb dX12_chain_128 rfl (lv_at hl 1 rfl) ?_
                refine r_ldi (f := (X2 10)) (j := r2) hx hb hE hP 10 (ma_10 G a _) rfl (by omega) (by decide) dX12_chain_129 ?_
                obtain ⟨t241, h242, e243⟩ := Frs.first (n := r2) hf2 (by omega) (by omega)
                refine lv_topi (fun x244 e245 => ?_)
                obtain rfl : x244 = nI t241 := e245.trans e243
                refine lv_aload_n hx hb dX12_chain_130 rfl (lv_at hl 2 rfl) ?_
                refine r_get (v := .int (nI at90)) hx hb hown hq hE hP 64 343 tFX12_64 (by decide) pw_1592 rfl dX12_chain_131 ?_
                refine lv_iconst (v := 1) hx hb dX12_chain_134 (by decide) ?_
                refine lv_isub hx hb dX12_chain_135 ?_
                refine lv_topi (fun x246 e247 => ?_)
                obtain rfl : x246 = nI (at90 - 1) := e247.trans (nI_subN (a := 1) (b := at90) (by omega))
                refine lv_iload_n hx hb dX12_chain_136 rfl (lv_at hl 1 rfl) ?_
                refine lv_iconst (v := (-1)) hx hb dX12_chain_137 (by decide) ?_
                have hP : va_P G.1 pCl (mW G h0 a (upd (upd (upd (upd (upd (upd (upd (upd F 15 0) 16 pl78) 27 (nI nd2)) 31 (nI wr2)) 64 (nI at90)) 65 (nI ne)) 66 (nI (lk2 + 1))) 27 (nI nd2)) (updA X2 2 K)) _ := mW_to (F := F) (l1 := [(15, 0), (16, pl78), (27, (nI nd2)), (31, (nI wr2)), (64, (nI at90)), (65, (nI ne)), (66, (nI (lk2 + 1)))]) (l2 := [(15, 0), (16, pl78), (27, (nI nd2)), (31, (nI wr2)), (64, (nI at90)), (65, (nI ne)), (66, (nI (lk2 + 1))), (27, (nI nd2))]) (V := [0, pl78, (nI nd2), (nI wr2), (nI at90), (nI ne), (nI (lk2 + 1)), 0, pl78, (nI nd2), (nI wr2), (nI at90), (nI ne), (nI (lk2 + 1)), (nI nd2)]) rfl rfl rfl hP
                have hD : va_D A (mW G h0 a (upd (upd (upd (upd (upd (upd (upd (upd F 15 0) 16 pl78) 27 (nI nd2)) 31 (nI wr2)) 64 (nI at90)) 65 (nI ne)) 66 (nI (lk2 + 1))) 27 (nI nd2)) (updA X2 2 K)) := mW_D hD
                refine pc_V0 (G := G) (As := [.int 13, .int (nI t241), .int (nI (at90 - 1)), .int (nI r2), .int (-1)]) (rest := []) hx hb hml hown hq hE hX pX0_al hP hD hS hA hl.1 (R_nodeB l G h0 a (upd (upd (upd (upd (upd (upd (upd F 15 0) 16 pl78) 27 (nI nd2)) 31 (nI wr2)) 64 (nI at90)) 65 (nI ne)) 66 (nI (lk2 + 1))) X2 13 (nI t241) (nI (at90 - 1)) (nI r2) (-1) nd2 K (by omega)) (gV pw_1650 pw_1651 pw_1652 pw_1523 pw_1589) hV_X12_node 0 9 rfl rfl rfl rfl (Nat.le_of_ble_eq_true rfl) dX12_chain_138 ⟨Nat.le_of_ble_eq_true rfl, Nat.le_of_ble_eq_true rfl⟩ ⟨(by show 2 + 1 ≤ (20 * n + 12); omega), (by show 8 + (7 + 11) + 60 ≤ (1000 * n + 40 * 12); omega)⟩ (fun v250 u248 H locs hw249 hP hD hS => ?_)
                obtain ⟨X251, rfl⟩ : ∃ z, z = u248 := ⟨_, rfl⟩
                obtain ⟨hw249, h252⟩ := hw249
                have h252 : NewN X2 X251 nd2 13 (nI t241) (nI (at90 - 1)) (nI r2) (-1) := h252
                obtain rfl : v250 = some (.int (nI nd2)) := hw249
                have hP : va_P G.1 pCl (mW G h0 a (upd (upd (upd (upd (upd (upd (upd F 15 0) 16 pl78) 27 (nI (nd2 + 1))) 31 (nI wr2)) 64 (nI at90)) 65 (nI ne)) 66 (nI (lk2 + 1))) (updA X251 2 K)) _ := mW_to (F := F) (l1 := [(15, 0), (16, pl78), (27, (nI nd2)), (31, (nI wr2)), (64, (nI at90)), (65, (nI ne)), (66, (nI (lk2 + 1))), (27, (nI (nd2 + 1)))]) (l2 := [(15, 0), (16, pl78), (27, (nI (nd2 + 1))), (31, (nI wr2)), (64, (nI at90)), (65, (nI ne)), (66, (nI (lk2 + 1)))]) (V := [0, pl78, (nI (nd2 + 1)), (nI wr2), (nI at90), (nI ne), (nI (lk2 + 1)), (nI (nd2 + 1)), 0, pl78, (nI (nd2 + 1)), (nI wr2), (nI at90), (nI ne), (nI (lk2 + 1))]) rfl rfl rfl hP
                have hD : va_D A (mW G h0 a (upd (upd (upd (upd (upd (upd (upd F 15 0) 16 pl78) 27 (nI (nd2 + 1))) 31 (nI wr2)) 64 (nI at90)) 65 (nI ne)) 66 (nI (lk2 + 1))) (updA X251 2 K)) := mW_D hD
                refine W.widen (k := 0) (n := 0) (Nat.le_of_ble_eq_true rfl) (Nat.le_of_ble_eq_true rfl) ?_
                refine W.eq (g2 := F0 m 141 ls [.int (nI nd2)]) rfl ?_
                have hkp253 : Kp B X251 wr2 T := (Kp.new hkp2 h252)
                have hlo254 : Low B X251 nd wr := (Low.new hlo2 h252 (by omega))
                have hc255 : kcl 1 (X251 9 r2) = true := by rw [h252.2.1 9 r2 (by omega)]; exact hc2
                have hf256 : Frs K T wr2 X251 nd (nd2 + 1) nd2 [(nd2, (210 + (lk2 + 1) - (10 * ne + lk)))] := (Frs.new1 (k := 13) hf2 (by omega) (by omega) (by omega) h252 rfl rfl (by decide) (by decide) (by omega) (by omega) (by decide) (by simp) ⟨by decide, by decide, by decide, by decide⟩ hc2 (newOK.m1 (by decide)) (newOK.m1 (by decide)) (newOK.m1 (by decide)) (by omega))
                have hn257 : Nd X251 nd2 13 (nI r2) (-1) (-1) (-1) := (NewN.toNd h252)
                have hf258 : Frs K T wr2 X251 nd (nd2 + 1) 20000 [(nd2, (210 + (lk2 + 1) - (10 * ne + lk)))] := (Frs.fin (k := 13) hf256 hn257 rfl (by decide) (fun _ => nI_m1 (by omega)) (fun h => absurd h (by decide)) (fun h => absurd h (by decide)) (fun h => absurd h (by decide)))
                refine lv_istore_n (lv' := [(1, .int (nI nd2)), (2, .int 1), (0, .ref h0)]) hx hb dX12_chain_141 rfl hl (by decide) rfl (fun ls hl => ?_)
                refine lv_goto (tgt := 7) hx hb dX12_chain_142 (by decide) ?_
                have hP : va_P G.1 pCl (mW G h0 a (upd (upd (upd (upd (upd (upd (upd F 15 0) 16 pl78) 27 (nI (nd2 + 1))) 31 (nI wr2)) 64 (nI at90)) 65 (nI ne)) 66 (nI (lk2 + 1))) (updA X251 2 K)) _ := hP
                have hD : va_D A (mW G h0 a (upd (upd (upd (upd (upd (upd (upd F 15 0) 16 pl78) 27 (nI (nd2 + 1))) 31 (nI wr2)) 64 (nI at90)) 65 (nI ne)) 66 (nI (lk2 + 1))) (updA X251 2 K)) := mW_D hD
                exact ih_o at90 (nd2 + 1) wr2 (lk2 + 1) pl78 X251 nd2 _ _ _ (by omega) (by omega) (by omega) (by omega) (by omega) (by omega) (by omega) (by omega) (by omega) hkp253 hlo254 (by omega) (Frs.up hf258 (by omega)) (by rw [hn257.1]; decide) hP hD hS (lv_sub hl [1, 0, 2] rfl)
            · have e83 := e83
              refine lv_aload_n hx hb dX12_chain_101 rfl (lv_at hl 2 rfl) ?_
              refine lv_dup hx hb dX12_chain_102 rfl ?_
              refine r_get (v := .int (nI at2)) hx hb hown hq hE hP 64 343 tFX12_64 (by decide) pw_1592 rfl dX12_chain_103 ?_
              refine lv_iconst (v := 1) hx hb dX12_chain_106 (by decide) ?_
              refine lv_iadd hx hb dX12_chain_107 ?_
              refine lv_topi (fun x259 e260 => ?_)
              obtain rfl : x259 = nI (at2 + 1) := e260.trans (nI_add (at2) (1))
              refine r_put (v := (nI (at2 + 1))) (ty := .int) hx hb hown hq hE hP hD hS 64 343 tFX12_64 (by decide) pw_1592 (by decide) rfl rfl (ms_64 a _ _) dX12_chain_108 (fun H locs hP hD hS => ?_)
              refine lv_aload_n hx hb dX12_chain_111 rfl (lv_at hl 2 rfl) ?_
              refine lv_sipush (v := 326) hx hb dX12_chain_112 (by decide) ?_
              have hP : va_P G.1 pCl (mW G h0 a (upd (upd (upd (upd (upd (upd (upd (upd (upd F 15 (nI fa77)) 16 pl78) 27 (nI nd2)) 31 (nI wr2)) 64 (nI (at2 + 1))) 65 (nI ne)) 66 (nI (lk2 + 1))) 15 (nI fa77)) 64 (nI (at2 + 1))) (updA (updA X2 2 K) 2 K)) _ := mW_to (F := F) (l1 := [(15, (nI fa77)), (16, pl78), (27, (nI nd2)), (31, (nI wr2)), (64, (nI at2)), (65, (nI ne)), (66, (nI (lk2 + 1))), (64, (nI (at2 + 1)))]) (l2 := [(15, (nI fa77)), (16, pl78), (27, (nI nd2)), (31, (nI wr2)), (64, (nI (at2 + 1))), (65, (nI ne)), (66, (nI (lk2 + 1))), (15, (nI fa77)), (64, (nI (at2 + 1)))]) (V := [(nI fa77), pl78, (nI nd2), (nI wr2), (nI (at2 + 1)), (nI ne), (nI (lk2 + 1)), (nI (at2 + 1)), (nI fa77), pl78, (nI nd2), (nI wr2), (nI (at2 + 1)), (nI ne), (nI (lk2 + 1)), (nI fa77), (nI (at2 + 1))]) rfl rfl (show (updA X2 2 K) = (updA (updA X2 2 K) 2 K) from updsA_eq2 (F := X2) (l1 := [(2, K)]) (l2 := [(2, K), (2, K)]) (V := [K, K, K]) rfl rfl) hP
              have hD : va_D A (mW G h0 a (upd (upd (upd (upd (upd (upd (upd (upd (upd F 15 (nI fa77)) 16 pl78) 27 (nI nd2)) 31 (nI wr2)) 64 (nI (at2 + 1))) 65 (nI ne)) 66 (nI (lk2 + 1))) 15 (nI fa77)) 64 (nI (at2 + 1))) (updA (updA X2 2 K) 2 K)) := mW_D hD
              refine pc_V0 (G := G) (As := [.int 326]) (rest := []) hx hb hml hown hq hE hX pX0_al hP hD hS hA hl.1 (R_may l G h0 a (upd (upd (upd (upd (upd (upd (upd F 15 (nI fa77)) 16 pl78) 27 (nI nd2)) 31 (nI wr2)) 64 (nI (at2 + 1))) 65 (nI ne)) 66 (nI (lk2 + 1))) (updA X2 2 K) (at2 + 1) T fa77 K 326 (by omega) (by omega) hK (by omega) (by decide) (by decide)) (gV pw_1621 pw_1622 pw_1623 pw_1523 pw_1605) hV_X12_may 0 9 rfl rfl rfl rfl (Nat.le_of_ble_eq_true rfl) dX12_chain_115 ⟨Nat.le_of_ble_eq_true rfl, Nat.le_of_ble_eq_true rfl⟩ ⟨(by show 3 + 1 ≤ (20 * n + 12); omega), (by show 8 + (3 + 11) + 81 ≤ (1000 * n + 40 * 12); omega)⟩ (fun v263 u261 H locs hw262 hP hD hS => ?_)
              obtain ⟨at264, r265⟩ := u261
              obtain ⟨hw262, h266, h267, h268, h269, h270, h271⟩ := hw262
              have h266 : r265 ≤ 1 := h266
              have h267 : fa77 + 100 * r265 ≤ 100 := h267
              have h268 : at264 = (at2 + 1) + r265 := h268
              have h269 : at264 ≤ T := h269
              have h270 : If (r265 = 1) (K (at2 + 1) = 326) := h270
              have h271 : If (r265 = 0) (fa77 = 0 → ¬ K (at2 + 1) = 326) := h271
              obtain rfl : v263 = some (.int (nI r265)) := hw262
              have hP : va_P G.1 pCl (mW G h0 a (upd (upd (upd (upd (upd (upd (upd F 15 (nI fa77)) 16 pl78) 27 (nI nd2)) 31 (nI wr2)) 64 (nI at264)) 65 (nI ne)) 66 (nI (lk2 + 1))) (updA X2 2 K)) _ := mW_to (F := F) (l1 := [(15, (nI fa77)), (16, pl78), (27, (nI nd2)), (31, (nI wr2)), (64, (nI (at2 + 1))), (65, (nI ne)), (66, (nI (lk2 + 1))), (15, (nI fa77)), (64, (nI at264))]) (l2 := [(15, (nI fa77)), (16, pl78), (27, (nI nd2)), (31, (nI wr2)), (64, (nI at264)), (65, (nI ne)), (66, (nI (lk2 + 1)))]) (V := [(nI fa77), pl78, (nI nd2), (nI wr2), (nI at264), (nI ne), (nI (lk2 + 1)), (nI fa77), (nI at264), (nI fa77), pl78, (nI nd2), (nI wr2), (nI at264), (nI ne), (nI (lk2 + 1))]) rfl rfl (show (updA (updA X2 2 K) 2 K) = (updA X2 2 K) from updsA_eq2 (F := X2) (l1 := [(2, K), (2, K)]) (l2 := [(2, K)]) (V := [K, K, K]) rfl rfl) hP
              have hD : va_D A (mW G h0 a (upd (upd (upd (upd (upd (upd (upd F 15 (nI fa77)) 16 pl78) 27 (nI nd2)) 31 (nI wr2)) 64 (nI at264)) 65 (nI ne)) 66 (nI (lk2 + 1))) (updA X2 2 K)) := mW_D hD
              refine W.widen (k := 0) (n := 0) (Nat.le_of_ble_eq_true rfl) (Nat.le_of_ble_eq_true rfl) ?_
              refine W.eq (g2 := F0 m 118 ls [.int (nI r265)]) rfl ?_
              refine lv_if_eq (tgt := 145) hx hb dX12_chain_118 (by decide) (fun c272 => ?_) (fun c272 => (by have n273 : ¬ (r265 = 0) := fun h9 => c272 ((nI_eq (a := r265) (b := 0) (by omega) (by omega)).mpr h9); omega))
              refine lv_aload_n hx hb dX12_chain_145 rfl (lv_at hl 2 rfl) ?_
              have hP : va_P G.1 pCl (mW G h0 a (upd (upd (upd (upd (upd (upd (upd (upd (upd F 15 (nI fa77)) 16 pl78) 27 (nI nd2)) 31 (nI wr2)) 64 (nI at264)) 65 (nI ne)) 66 (nI (lk2 + 1))) 15 (nI fa77)) 64 (nI at264)) (updA (updA X2 2 K) 2 K)) _ := mW_to (F := F) (l1 := [(15, (nI fa77)), (16, pl78), (27, (nI nd2)), (31, (nI wr2)), (64, (nI at264)), (65, (nI ne)), (66, (nI (lk2 + 1)))]) (l2 := [(15, (nI fa77)), (16, pl78), (27, (nI nd2)), (31, (nI wr2)), (64, (nI at264)), (65, (nI ne)), (66, (nI (lk2 + 1))), (15, (nI fa77)), (64, (nI at264))]) (V := [(nI fa77), pl78, (nI nd2), (nI wr2), (nI at264), (nI ne), (nI (lk2 + 1)), (nI fa77), pl78, (nI nd2), (nI wr2), (nI at264), (nI ne), (nI (lk2 + 1)), (nI fa77), (nI at264)]) rfl rfl (show (updA X2 2 K) = (updA (updA X2 2 K) 2 K) from updsA_eq2 (F := X2) (l1 := [(2, K)]) (l2 := [(2, K), (2, K)]) (V := [K, K, K]) rfl rfl) hP
              have hD : va_D A (mW G h0 a (upd (upd (upd (upd (upd (upd (upd (upd (upd F 15 (nI fa77)) 16 pl78) 27 (nI nd2)) 31 (nI wr2)) 64 (nI at264)) 65 (nI ne)) 66 (nI (lk2 + 1))) 15 (nI fa77)) 64 (nI at264)) (updA (updA X2 2 K) 2 K)) := mW_D hD
              refine pc_V0 (G := G) (As := []) (rest := []) hx hb hml hown hq hE hX pX0_al hP hD hS hA hl.1 (R_name l G h0 a (upd (upd (upd (upd (upd (upd (upd F 15 (nI fa77)) 16 pl78) 27 (nI nd2)) 31 (nI wr2)) 64 (nI at264)) 65 (nI ne)) 66 (nI (lk2 + 1))) (updA X2 2 K) at264 T fa77 K (by omega) (by omega) hK (by omega)) (gV pw_1618 pw_1619 pw_1620 pw_1523 pw_1613) hV_X12_name 0 9 rfl rfl rfl rfl (Nat.le_of_ble_eq_true rfl) dX12_chain_146 ⟨Nat.le_of_ble_eq_true rfl, Nat.le_of_ble_eq_true rfl⟩ ⟨(by show 5 + 1 ≤ (20 * n + 12); omega), (by show 8 + (2 + 11) + 124 ≤ (1000 * n + 40 * 12); omega)⟩ (fun v276 u274 H locs hw275 hP hD hS => ?_)
              obtain ⟨at277, fa278, pl279⟩ := u274
              obtain ⟨hw275, h280, h281, h282, h283, h284, h285, h286, h287⟩ := hw275
              have h280 : at264 ≤ at277 := h280
              have h281 : at277 ≤ T := h281
              have h282 : fa77 ≤ fa278 := h282
              have h283 : fa278 ≤ 100 := h283
              have h284 : If (0 < fa77) (at277 = at264 ∧ fa278 = fa77) := h284
              have h285 : at277 ≤ at264 + 1 := h285
              have h286 : at264 + 1 ≤ at277 + fa278 := h286
              have h287 : If (fa278 = 0) (K at264 = 1) := h287
              obtain rfl : v276 = some (.int (nI at264)) := hw275
              have hP : va_P G.1 pCl (mW G h0 a (upd (upd (upd (upd (upd (upd (upd F 15 (nI fa278)) 16 pl279) 27 (nI nd2)) 31 (nI wr2)) 64 (nI at277)) 65 (nI ne)) 66 (nI (lk2 + 1))) (updA X2 2 K)) _ := mW_to (F := F) (l1 := [(15, (nI fa77)), (16, pl78), (27, (nI nd2)), (31, (nI wr2)), (64, (nI at264)), (65, (nI ne)), (66, (nI (lk2 + 1))), (15, (nI fa278)), (16, pl279), (64, (nI at277))]) (l2 := [(15, (nI fa278)), (16, pl279), (27, (nI nd2)), (31, (nI wr2)), (64, (nI at277)), (65, (nI ne)), (66, (nI (lk2 + 1)))]) (V := [(nI fa278), pl279, (nI nd2), (nI wr2), (nI at277), (nI ne), (nI (lk2 + 1)), (nI fa278), pl279, (nI at277), (nI fa278), pl279, (nI nd2), (nI wr2), (nI at277), (nI ne), (nI (lk2 + 1))]) rfl rfl (show (updA (updA X2 2 K) 2 K) = (updA X2 2 K) from updsA_eq2 (F := X2) (l1 := [(2, K), (2, K)]) (l2 := [(2, K)]) (V := [K, K, K]) rfl rfl) hP
              have hD : va_D A (mW G h0 a (upd (upd (upd (upd (upd (upd (upd F 15 (nI fa278)) 16 pl279) 27 (nI nd2)) 31 (nI wr2)) 64 (nI at277)) 65 (nI ne)) 66 (nI (lk2 + 1))) (updA X2 2 K)) := mW_D hD
              refine W.widen (k := 0) (n := 0) (Nat.le_of_ble_eq_true rfl) (Nat.le_of_ble_eq_true rfl) ?_
              refine W.eq (g2 := F0 m 149 ls [.int (nI at264)]) rfl ?_
              obtain ⟨n289, n288⟩ := h284 e83
              replace n289 := n289.symm
              subst n289
              replace n288 := n288.symm
              subst n288
              refine lv_istore_n (lv' := [(3, .int (nI at264)), (2, .int 1), (1, .int (nI r2)), (0, .ref h0)]) hx hb dX12_chain_149 rfl hl (by decide) rfl (fun ls hl => ?_)
              refine lv_aload_n hx hb dX12_chain_150 rfl (lv_at hl 3 rfl) ?_
              refine lv_bipush (v := 40) hx hb dX12_chain_151 (by decide) ?_
              have hP : va_P G.1 pCl (mW G h0 a (upd (upd (upd (upd (upd (upd (upd (upd (upd F 15 (nI fa77)) 16 pl279) 27 (nI nd2)) 31 (nI wr2)) 64 (nI at264)) 65 (nI ne)) 66 (nI (lk2 + 1))) 15 (nI fa77)) 64 (nI at264)) (updA (updA X2 2 K) 2 K)) _ := hP
              have hD : va_D A (mW G h0 a (upd (upd (upd (upd (upd (upd (upd (upd (upd F 15 (nI fa77)) 16 pl279) 27 (nI nd2)) 31 (nI wr2)) 64 (nI at264)) 65 (nI ne)) 66 (nI (lk2 + 1))) 15 (nI fa77)) 64 (nI at264)) (updA (updA X2 2 K) 2 K)) := mW_D hD
              refine pc_V0 (G := G) (As := [.int 40]) (rest := []) hx hb hml hown hq hE hX pX0_al hP hD hS hA hl.1 (R_is l G h0 a (upd (upd (upd (upd (upd (upd (upd F 15 (nI fa77)) 16 pl279) 27 (nI nd2)) 31 (nI wr2)) 64 (nI at264)) 65 (nI ne)) 66 (nI (lk2 + 1))) (updA X2 2 K) at264 T fa77 K 40 (by omega) (by omega) hK (by omega)) (gV pw_1606 pw_1607 pw_1608 pw_1523 pw_1600) hV_X12_is 0 9 rfl rfl rfl rfl (Nat.le_of_ble_eq_true rfl) dX12_chain_153 ⟨Nat.le_of_ble_eq_true rfl, Nat.le_of_ble_eq_true rfl⟩ ⟨(by show 2 + 1 ≤ (20 * n + 12); omega), (by show 8 + (2 + 11) + 60 ≤ (1000 * n + 40 * 12); omega)⟩ (fun v292 u290 H locs hw291 hP hD hS => ?_)
              obtain ⟨r293, rfl⟩ : ∃ z, z = u290 := ⟨_, rfl⟩
              obtain ⟨hw291, h294, h295, h296, h297⟩ := hw291
              have h294 : r293 ≤ 1 := h294
              have h295 : fa77 + 100 * r293 ≤ 100 := h295
              have h296 : If (r293 = 1) (K at264 = 40) := h296
              have h297 : If (r293 = 0) (fa77 = 0 → ¬ K at264 = 40) := h297
              obtain rfl : v292 = some (.int (nI r293)) := hw291
              have hP : va_P G.1 pCl (mW G h0 a (upd (upd (upd (upd (upd (upd (upd F 15 (nI fa77)) 16 pl279) 27 (nI nd2)) 31 (nI wr2)) 64 (nI at264)) 65 (nI ne)) 66 (nI (lk2 + 1))) (updA X2 2 K)) _ := mW_to (F := F) (l1 := [(15, (nI fa77)), (16, pl279), (27, (nI nd2)), (31, (nI wr2)), (64, (nI at264)), (65, (nI ne)), (66, (nI (lk2 + 1))), (15, (nI fa77)), (64, (nI at264))]) (l2 := [(15, (nI fa77)), (16, pl279), (27, (nI nd2)), (31, (nI wr2)), (64, (nI at264)), (65, (nI ne)), (66, (nI (lk2 + 1)))]) (V := [(nI fa77), pl279, (nI nd2), (nI wr2), (nI at264), (nI ne), (nI (lk2 + 1)), (nI fa77), (nI at264), (nI fa77), pl279, (nI nd2), (nI wr2), (nI at264), (nI ne), (nI (lk2 + 1))]) rfl rfl (show (updA (updA X2 2 K) 2 K) = (updA X2 2 K) from updsA_eq2 (F := X2) (l1 := [(2, K), (2, K)]) (l2 := [(2, K)]) (V := [K, K, K]) rfl rfl) hP
              have hD : va_D A (mW G h0 a (upd (upd (upd (upd (upd (upd (upd F 15 (nI fa77)) 16 pl279) 27 (nI nd2)) 31 (nI wr2)) 64 (nI at264)) 65 (nI ne)) 66 (nI (lk2 + 1))) (updA X2 2 K)) := mW_D hD
              refine W.widen (k := 0) (n := 0) (Nat.le_of_ble_eq_true rfl) (Nat.le_of_ble_eq_true rfl) ?_
              refine W.eq (g2 := F0 m 156 ls [.int (nI r293)]) rfl ?_
              refine lv_if_eq (tgt := 183) hx hb dX12_chain_156 (by decide) (fun c298 => ?_) (fun c298 => (by have n299 : ¬ (r293 = 0) := fun h9 => c298 ((nI_eq (a := r293) (b := 0) (by omega) (by omega)).mpr h9); omega))
              refine lv_aload_n hx hb dX12_chain_183 rfl (lv_at hl 3 rfl) ?_
              refine lv_bipush (v := 12) hx hb dX12_chain_184 (by decide) ?_
              refine lv_aload_n hx hb dX12_chain_186 rfl (lv_at hl 3 rfl) ?_
              refine r_get (v := .ref (a 10)) hx hb hown hq hE hP 18 41 tFX12_18 (by decide) pw_1440 rfl dX12_chain_187 ?_
              refine lv_iload_n hx hb dX12_chain_190 rfl (lv_at hl 2 rfl) ?_
              refine r_ldi (f := (X2 10)) (j := r2) hx hb hE hP 10 (ma_10 G a _) rfl (by omega) (by decide) dX12_chain_191 ?_
              refine lv_topi (fun x300 e301 => ?_)
              refine lv_iload_n hx hb dX12_chain_192 rfl (lv_at hl 0 rfl) ?_
              refine lv_iload_n hx hb dX12_chain_193 rfl (lv_at hl 2 rfl) ?_
              refine lv_iconst (v := (-1)) hx hb dX12_chain_194 (by decide) ?_
              have hP : va_P G.1 pCl (mW G h0 a (upd (upd (upd (upd (upd (upd (upd (upd F 15 (nI fa77)) 16 pl279) 27 (nI nd2)) 31 (nI wr2)) 64 (nI at264)) 65 (nI ne)) 66 (nI (lk2 + 1))) 27 (nI nd2)) (updA X2 2 K)) _ := mW_to (F := F) (l1 := [(15, (nI fa77)), (16, pl279), (27, (nI nd2)), (31, (nI wr2)), (64, (nI at264)), (65, (nI ne)), (66, (nI (lk2 + 1)))]) (l2 := [(15, (nI fa77)), (16, pl279), (27, (nI nd2)), (31, (nI wr2)), (64, (nI at264)), (65, (nI ne)), (66, (nI (lk2 + 1))), (27, (nI nd2))]) (V := [(nI fa77), pl279, (nI nd2), (nI wr2), (nI at264), (nI ne), (nI (lk2 + 1)), (nI fa77), pl279, (nI nd2), (nI wr2), (nI at264), (nI ne), (nI (lk2 + 1)), (nI nd2)]) rfl rfl rfl hP
              have hD : va_D A (mW G h0 a (upd (upd (upd (upd (upd (upd (upd (upd F 15 (nI fa77)) 16 pl279) 27 (nI nd2)) 31 (nI wr2)) 64 (nI at264)) 65 (nI ne)) 66 (nI (lk2 + 1))) 27 (nI nd2)) (updA X2 2 K)) := mW_D hD
              refine pc_V0 (G := G) (As := [.int 12, .int x300, .int (nI at264), .int (nI r2), .int (-1)]) (rest := []) hx hb hml hown hq hE hX pX0_al hP hD hS hA hl.1 (R_nodeB l G h0 a (upd (upd (upd (upd (upd (upd (upd F 15 (nI fa77)) 16 pl279) 27 (nI nd2)) 31 (nI wr2)) 64 (nI at264)) 65 (nI ne)) 66 (nI (lk2 + 1))) X2 12 x300 (nI at264) (nI r2) (-1) nd2 K (by omega)) (gV pw_1650 pw_1651 pw_1652 pw_1523 pw_1589) hV_X12_node 0 9 rfl rfl rfl rfl (Nat.le_of_ble_eq_true rfl) dX12_chain_195 ⟨Nat.le_of_ble_eq_true rfl, Nat.le_of_ble_eq_true rfl⟩ ⟨(by show 2 + 1 ≤ (20 * n + 12); omega), (by show 8 + (7 + 11) + 60 ≤ (1000 * n + 40 * 12); omega)⟩ (fun v304 u302 H locs hw303 hP hD hS => ?_)
              obtain ⟨X305, rfl⟩ : ∃ z, z = u302 := ⟨_, rfl⟩
              obtain ⟨hw303, h306⟩ := hw303
              have h306 : NewN X2 X305 nd2 12 x300 (nI at264) (nI r2) (-1) := h306
              obtain rfl : v304 = some (.int (nI nd2)) := hw303
              have hP : va_P G.1 pCl (mW G h0 a (upd (upd (upd (upd (upd (upd (upd F 15 (nI fa77)) 16 pl279) 27 (nI (nd2 + 1))) 31 (nI wr2)) 64 (nI at264)) 65 (nI ne)) 66 (nI (lk2 + 1))) (updA X305 2 K)) _ := mW_to (F := F) (l1 := [(15, (nI fa77)), (16, pl279), (27, (nI nd2)), (31, (nI wr2)), (64, (nI at264)), (65, (nI ne)), (66, (nI (lk2 + 1))), (27, (nI (nd2 + 1)))]) (l2 := [(15, (nI fa77)), (16, pl279), (27, (nI (nd2 + 1))), (31, (nI wr2)), (64, (nI at264)), (65, (nI ne)), (66, (nI (lk2 + 1)))]) (V := [(nI fa77), pl279, (nI (nd2 + 1)), (nI wr2), (nI at264), (nI ne), (nI (lk2 + 1)), (nI (nd2 + 1)), (nI fa77), pl279, (nI (nd2 + 1)), (nI wr2), (nI at264), (nI ne), (nI (lk2 + 1))]) rfl rfl rfl hP
              have hD : va_D A (mW G h0 a (upd (upd (upd (upd (upd (upd (upd F 15 (nI fa77)) 16 pl279) 27 (nI (nd2 + 1))) 31 (nI wr2)) 64 (nI at264)) 65 (nI ne)) 66 (nI (lk2 + 1))) (updA X305 2 K)) := mW_D hD
              refine W.widen (k := 0) (n := 0) (Nat.le_of_ble_eq_true rfl) (Nat.le_of_ble_eq_true rfl) ?_
              refine W.eq (g2 := F0 m 198 ls [.int (nI nd2)]) rfl ?_
              have hkp307 : Kp B X305 wr2 T := (Kp.new hkp2 h306)
              refine lv_istore_n (lv' := [(1, .int (nI nd2)), (3, .int (nI at264)), (2, .int 1), (0, .ref h0)]) hx hb dX12_chain_198 rfl hl (by decide) rfl (fun ls hl => ?_)
              refine lv_goto (tgt := 7) hx hb dX12_chain_199 (by decide) ?_
              refine lv_iload_n hx hb dX12_chain_7 rfl (lv_at hl 2 rfl) ?_
              refine lv_if_eq (tgt := 207) hx hb dX12_chain_8 (by decide) (fun c308 => absurd c308 (by decide)) (fun c308 => ?_)
              refine lv_aload_n hx hb dX12_chain_11 rfl (lv_at hl 3 rfl) ?_
              refine r_get (v := .int (nI fa77)) hx hb hown hq hE hP 15 350 tFX12_15 (by decide) pw_1594 rfl dX12_chain_12 ?_
              refine lv_if_ne (tgt := 207) hx hb dX12_chain_15 (by decide) (fun c309 => ?_) (fun c309 => (by have n310 : fa77 = 0 := (nI_eq (a := fa77) (b := 0) (by omega) (by omega)).mp c309; omega))
              refine lv_iload_n hx hb dX12_chain_207 rfl (lv_at hl 0 rfl) ?_
              have hz311 : at0 ≤ at264 := (by omega)
              have hz312 : at264 ≤ T := (by omega)
              have hz313 : fa77 ≤ 100 := (by omega)
              have hz314 : nd ≤ (nd2 + 1) := (by omega)
              have hz315 : (nd2 + 1) + 2 * at0 ≤ nd + 2 * at264 + 100000 * fa77 := (by omega)
              have hz316 : (nd2 + 1) + 2 * at0 ≤ nd + 2 * at264 + 40 * (21 - ne) := (by omega)
              have hz317 : wr ≤ wr2 := (by omega)
              have hz318 : wr2 + at0 ≤ wr + at264 := (by omega)
              have hz319 : lk ≤ (lk2 + 1) := (by omega)
              have hz320 : (lk2 + 1) ≤ 60 + 100 * fa77 := (by omega)
              have hz321 : at0 + 1 ≤ at264 + fa77 := (by omega)
              have hz322 : nd2 ≤ (nd2 + 1) := (by omega)
              have hz323 : Kp B X305 wr2 T := hkp307
              have hz324 : If (fa77 = 0) (Low B X305 nd wr ∧ Frs K T wr2 X305 nd (nd2 + 1) 20000 [(nd2, (210 + (lk2 + 1) - (10 * ne + lk)))] ∧ kcl 1 (X305 9 nd2) = true) := (fun e => absurd e (by omega))
              have hP : va_P G.1 pCl (mW G h0 a (upd (upd (upd (upd (upd (upd (upd F 15 (nI fa77)) 16 pl279) 27 (nI (nd2 + 1))) 31 (nI wr2)) 64 (nI at264)) 65 (nI ne)) 66 (nI (lk2 + 1))) (updA X305 2 K)) _ := hP
              have hD : va_D A (mW G h0 a (upd (upd (upd (upd (upd (upd (upd F 15 (nI fa77)) 16 pl279) 27 (nI (nd2 + 1))) 31 (nI wr2)) 64 (nI at264)) 65 (nI ne)) 66 (nI (lk2 + 1))) (updA X305 2 K)) := mW_D hD
              exact W.iret (v := (nI nd2)) hx hb hr (fun t9 ht9 hW9 => ⟨⟨_, (at264, fa77, pl279, (nd2 + 1), (lk2 + 1), wr2, nd2, X305), rfl, ⟨rfl, hz311, hz312, hz313, hz314, hz315, hz316, hz317, hz318, hz319, hz320, hz321, hz322, hz323, hz324⟩, by rw [ht9]; exact hP, hD⟩, hS.F ht9⟩) hS.2.2 dX12_chain_208
        · have n325 : ¬ (r40 = 0) := fun h9 => c45 ((nI_eq (a := r40) (b := 0) (by omega) (by omega)).mpr h9)
          have n326 : at2 < T := tk_lt (by omega) hK (h43 (by omega)) (by decide) (by decide)
          refine lv_aload_n hx hb dX12_chain_27 rfl (lv_at hl 2 rfl) ?_
          have hP : va_P G.1 pCl (mW G h0 a (upd (upd (upd (upd (upd (upd (upd (upd (upd (upd F 15 0) 16 pl2) 27 (nI nd2)) 31 (nI wr2)) 64 (nI at2)) 65 (nI ne)) 66 (nI lk2)) 15 (nI 0)) 64 (nI at2)) 66 (nI lk2)) (updA (updA X2 2 K) 2 K)) _ := mW_to (F := F) (l1 := [(15, 0), (16, pl2), (27, (nI nd2)), (31, (nI wr2)), (64, (nI at2)), (65, (nI ne)), (66, (nI lk2))]) (l2 := [(15, 0), (16, pl2), (27, (nI nd2)), (31, (nI wr2)), (64, (nI at2)), (65, (nI ne)), (66, (nI lk2)), (15, (nI 0)), (64, (nI at2)), (66, (nI lk2))]) (V := [(nI 0), pl2, (nI nd2), (nI wr2), (nI at2), (nI ne), (nI lk2), (nI 0), pl2, (nI nd2), (nI wr2), (nI at2), (nI ne), (nI lk2), (nI 0), (nI at2), (nI lk2)]) rfl rfl (show (updA X2 2 K) = (updA (updA X2 2 K) 2 K) from updsA_eq2 (F := X2) (l1 := [(2, K)]) (l2 := [(2, K), (2, K)]) (V := [K, K, K]) rfl rfl) hP
          have hD : va_D A (mW G h0 a (upd (upd (upd (upd (upd (upd (upd (upd (upd (upd F 15 0) 16 pl2) 27 (nI nd2)) 31 (nI wr2)) 64 (nI at2)) 65 (nI ne)) 66 (nI lk2)) 15 (nI 0)) 64 (nI at2)) 66 (nI lk2)) (updA (updA X2 2 K) 2 K)) := mW_D hD
          refine pc_V0 (G := G) (As := []) (rest := []) hx hb hml hown hq hE hX pX0_al hP hD hS hA hl.1 (R_linkedN l G h0 a (upd (upd (upd (upd (upd (upd (upd F 15 0) 16 pl2) 27 (nI nd2)) 31 (nI wr2)) 64 (nI at2)) 65 (nI ne)) 66 (nI lk2)) (updA X2 2 K) at2 T 0 K lk2 (by omega) (by omega) hK (by omega) (by omega)) (gV pw_1647 pw_1648 pw_1649 pw_1523 pw_1609) hV_X12_linked 0 9 rfl rfl rfl rfl (Nat.le_of_ble_eq_true rfl) dX12_chain_28 ⟨Nat.le_of_ble_eq_true rfl, Nat.le_of_ble_eq_true rfl⟩ ⟨(by show 4 + 1 ≤ (20 * n + 12); omega), (by show 8 + (1 + 11) + 103 ≤ (1000 * n + 40 * 12); omega)⟩ (fun v329 u327 H locs hw328 hP hD hS => ?_)
          obtain ⟨fa330, pl331⟩ := u327
          obtain ⟨hw328, h332, h333, h334, h335⟩ := hw328
          have h332 : 0 ≤ fa330 := h332
          have h333 : fa330 ≤ 100 := h333
          have h334 : If (0 < 0) (fa330 = 0) := h334
          have h335 : If (lk2 ≤ 60) (lk2 + 1 ≤ 60 + 100 * fa330) := h335
          obtain rfl : v329 = none := hw328
          have hP : va_P G.1 pCl (mW G h0 a (upd (upd (upd (upd (upd (upd (upd F 15 (nI fa330)) 16 pl331) 27 (nI nd2)) 31 (nI wr2)) 64 (nI at2)) 65 (nI ne)) 66 (nI (lk2 + 1))) (updA X2 2 K)) _ := mW_to (F := F) (l1 := [(15, 0), (16, pl2), (27, (nI nd2)), (31, (nI wr2)), (64, (nI at2)), (65, (nI ne)), (66, (nI lk2)), (15, (nI fa330)), (16, pl331), (64, (nI at2)), (66, (nI (lk2 + 1)))]) (l2 := [(15, (nI fa330)), (16, pl331), (27, (nI nd2)), (31, (nI wr2)), (64, (nI at2)), (65, (nI ne)), (66, (nI (lk2 + 1)))]) (V := [(nI fa330), pl331, (nI nd2), (nI wr2), (nI at2), (nI ne), (nI (lk2 + 1)), (nI fa330), pl331, (nI at2), (nI (lk2 + 1)), (nI fa330), pl331, (nI nd2), (nI wr2), (nI at2), (nI ne), (nI (lk2 + 1))]) rfl rfl (show (updA (updA X2 2 K) 2 K) = (updA X2 2 K) from updsA_eq2 (F := X2) (l1 := [(2, K), (2, K)]) (l2 := [(2, K)]) (V := [K, K, K]) rfl rfl) hP
          have hD : va_D A (mW G h0 a (upd (upd (upd (upd (upd (upd (upd F 15 (nI fa330)) 16 pl331) 27 (nI nd2)) 31 (nI wr2)) 64 (nI at2)) 65 (nI ne)) 66 (nI (lk2 + 1))) (updA X2 2 K)) := mW_D hD
          refine W.widen (k := 0) (n := 0) (Nat.le_of_ble_eq_true rfl) (Nat.le_of_ble_eq_true rfl) ?_
          refine W.eq (g2 := F0 m 31 ls []) rfl ?_
          rcases Nat.eq_zero_or_pos fa330 with e336 | e336
          · subst e336
            have hP : va_P G.1 pCl (mW G h0 a (upd (upd (upd (upd (upd (upd (upd F 15 0) 16 pl331) 27 (nI nd2)) 31 (nI wr2)) 64 (nI at2)) 65 (nI ne)) 66 (nI (lk2 + 1))) (updA X2 2 K)) _ := hP
            have hD : va_D A (mW G h0 a (upd (upd (upd (upd (upd (upd (upd F 15 0) 16 pl331) 27 (nI nd2)) 31 (nI wr2)) 64 (nI at2)) 65 (nI ne)) 66 (nI (lk2 + 1))) (updA X2 2 K)) := mW_D hD
            have n337 : (lk2 + 1) ≤ 60 := (by have := h335 (by omega); omega)
            refine lv_aload_n hx hb dX12_chain_31 rfl (lv_at hl 2 rfl) ?_
            have hP : va_P G.1 pCl (mW G h0 a (upd (upd (upd (upd (upd (upd (upd (upd (upd (upd F 15 0) 16 pl331) 27 (nI nd2)) 31 (nI wr2)) 64 (nI at2)) 65 (nI ne)) 66 (nI (lk2 + 1))) 15 (nI 0)) 64 (nI at2)) 65 (nI ne)) (updA (updA X2 2 K) 2 K)) _ := mW_to (F := F) (l1 := [(15, 0), (16, pl331), (27, (nI nd2)), (31, (nI wr2)), (64, (nI at2)), (65, (nI ne)), (66, (nI (lk2 + 1)))]) (l2 := [(15, 0), (16, pl331), (27, (nI nd2)), (31, (nI wr2)), (64, (nI at2)), (65, (nI ne)), (66, (nI (lk2 + 1))), (15, (nI 0)), (64, (nI at2)), (65, (nI ne))]) (V := [(nI 0), pl331, (nI nd2), (nI wr2), (nI at2), (nI ne), (nI (lk2 + 1)), (nI 0), pl331, (nI nd2), (nI wr2), (nI at2), (nI ne), (nI (lk2 + 1)), (nI 0), (nI at2), (nI ne)]) rfl rfl (show (updA X2 2 K) = (updA (updA X2 2 K) 2 K) from updsA_eq2 (F := X2) (l1 := [(2, K)]) (l2 := [(2, K), (2, K)]) (V := [K, K, K]) rfl rfl) hP
            have hD : va_D A (mW G h0 a (upd (upd (upd (upd (upd (upd (upd (upd (upd (upd F 15 0) 16 pl331) 27 (nI nd2)) 31 (nI wr2)) 64 (nI at2)) 65 (nI ne)) 66 (nI (lk2 + 1))) 15 (nI 0)) 64 (nI at2)) 65 (nI ne)) (updA (updA X2 2 K) 2 K)) := mW_D hD
            refine pc_V0 (G := G) (As := []) (rest := []) hx hb hml hown hq hE hX pX0_al hP hD hS hA hl.1 (R_deeper l G h0 a (upd (upd (upd (upd (upd (upd (upd F 15 0) 16 pl331) 27 (nI nd2)) 31 (nI wr2)) 64 (nI at2)) 65 (nI ne)) 66 (nI (lk2 + 1))) (updA X2 2 K) at2 T 0 K ne (by omega) (by omega) hK (by omega) (by omega)) (gV pw_1637 pw_1638 pw_1639 pw_1523 pw_1611) hV_X12_deeper 0 9 rfl rfl rfl rfl (Nat.le_of_ble_eq_true rfl) dX12_chain_32 ⟨Nat.le_of_ble_eq_true rfl, Nat.le_of_ble_eq_true rfl⟩ ⟨(by show 4 + 1 ≤ (20 * n + 12); omega), (by show 8 + (1 + 11) + 103 ≤ (1000 * n + 40 * 12); omega)⟩ (fun v340 u338 H locs hw339 hP hD hS => ?_)
            obtain ⟨fa341, pl342⟩ := u338
            obtain ⟨hw339, h343, h344, h345, h346⟩ := hw339
            have h343 : 0 ≤ fa341 := h343
            have h344 : fa341 ≤ 100 := h344
            have h345 : If (0 < 0) (fa341 = 0) := h345
            have h346 : If (ne ≤ 20) (ne + 1 ≤ 20 + fa341) := h346
            obtain rfl : v340 = none := hw339
            have hP : va_P G.1 pCl (mW G h0 a (upd (upd (upd (upd (upd (upd (upd F 15 (nI fa341)) 16 pl342) 27 (nI nd2)) 31 (nI wr2)) 64 (nI at2)) 65 (nI (ne + 1))) 66 (nI (lk2 + 1))) (updA X2 2 K)) _ := mW_to (F := F) (l1 := [(15, 0), (16, pl331), (27, (nI nd2)), (31, (nI wr2)), (64, (nI at2)), (65, (nI ne)), (66, (nI (lk2 + 1))), (15, (nI fa341)), (16, pl342), (64, (nI at2)), (65, (nI (ne + 1)))]) (l2 := [(15, (nI fa341)), (16, pl342), (27, (nI nd2)), (31, (nI wr2)), (64, (nI at2)), (65, (nI (ne + 1))), (66, (nI (lk2 + 1)))]) (V := [(nI fa341), pl342, (nI nd2), (nI wr2), (nI at2), (nI (ne + 1)), (nI (lk2 + 1)), (nI fa341), pl342, (nI at2), (nI (ne + 1)), (nI fa341), pl342, (nI nd2), (nI wr2), (nI at2), (nI (ne + 1)), (nI (lk2 + 1))]) rfl rfl (show (updA (updA X2 2 K) 2 K) = (updA X2 2 K) from updsA_eq2 (F := X2) (l1 := [(2, K), (2, K)]) (l2 := [(2, K)]) (V := [K, K, K]) rfl rfl) hP
            have hD : va_D A (mW G h0 a (upd (upd (upd (upd (upd (upd (upd F 15 (nI fa341)) 16 pl342) 27 (nI nd2)) 31 (nI wr2)) 64 (nI at2)) 65 (nI (ne + 1))) 66 (nI (lk2 + 1))) (updA X2 2 K)) := mW_D hD
            refine W.widen (k := 0) (n := 0) (Nat.le_of_ble_eq_true rfl) (Nat.le_of_ble_eq_true rfl) ?_
            refine W.eq (g2 := F0 m 35 ls []) rfl ?_
            rcases Nat.eq_zero_or_pos fa341 with e347 | e347
            · subst e347
              have hP : va_P G.1 pCl (mW G h0 a (upd (upd (upd (upd (upd (upd (upd F 15 0) 16 pl342) 27 (nI nd2)) 31 (nI wr2)) 64 (nI at2)) 65 (nI (ne + 1))) 66 (nI (lk2 + 1))) (updA X2 2 K)) _ := hP
              have hD : va_D A (mW G h0 a (upd (upd (upd (upd (upd (upd (upd F 15 0) 16 pl342) 27 (nI nd2)) 31 (nI wr2)) 64 (nI at2)) 65 (nI (ne + 1))) 66 (nI (lk2 + 1))) (updA X2 2 K)) := mW_D hD
              have n348 : ne + 1 ≤ 20 := (h346 (by omega))
              refine lv_aload_n hx hb dX12_chain_35 rfl (lv_at hl 2 rfl) ?_
              refine lv_dup hx hb dX12_chain_36 rfl ?_
              refine r_get (v := .int (nI at2)) hx hb hown hq hE hP 64 343 tFX12_64 (by decide) pw_1592 rfl dX12_chain_37 ?_
              refine lv_iconst (v := 1) hx hb dX12_chain_40 (by decide) ?_
              refine lv_iadd hx hb dX12_chain_41 ?_
              refine lv_topi (fun x349 e350 => ?_)
              obtain rfl : x349 = nI (at2 + 1) := e350.trans (nI_add (at2) (1))
              refine r_put (v := (nI (at2 + 1))) (ty := .int) hx hb hown hq hE hP hD hS 64 343 tFX12_64 (by decide) pw_1592 (by decide) rfl rfl (ms_64 a _ _) dX12_chain_42 (fun H locs hP hD hS => ?_)
              refine lv_aload_n hx hb dX12_chain_45 rfl (lv_at hl 2 rfl) ?_
              refine lv_bipush (v := 15) hx hb dX12_chain_46 (by decide) ?_
              refine lv_aload_n hx hb dX12_chain_48 rfl (lv_at hl 2 rfl) ?_
              refine r_get (v := .ref (a 10)) hx hb hown hq hE hP 18 41 tFX12_18 (by decide) pw_1440 rfl dX12_chain_49 ?_
              refine lv_iload_n hx hb dX12_chain_52 rfl (lv_at hl 1 rfl) ?_
              refine r_ldi (f := (X2 10)) (j := r2) hx hb hE hP 10 (ma_10 G a _) rfl (by omega) (by decide) dX12_chain_53 ?_
              obtain ⟨t351, h352, e353⟩ := Frs.first (n := r2) hf2 (by omega) (by omega)
              refine lv_topi (fun x354 e355 => ?_)
              obtain rfl : x354 = nI t351 := e355.trans e353
              refine lv_aload_n hx hb dX12_chain_54 rfl (lv_at hl 2 rfl) ?_
              refine r_get (v := .int (nI (at2 + 1))) hx hb hown hq hE hP 64 343 tFX12_64 (by decide) pw_1592 rfl dX12_chain_55 ?_
              refine lv_iconst (v := 1) hx hb dX12_chain_58 (by decide) ?_
              refine lv_isub hx hb dX12_chain_59 ?_
              refine lv_topi (fun x356 e357 => ?_)
              obtain rfl : x356 = nI ((at2 + 1) - 1) := e357.trans (nI_subN (a := 1) (b := (at2 + 1)) (by omega))
              refine lv_iload_n hx hb dX12_chain_60 rfl (lv_at hl 1 rfl) ?_
              refine lv_aload_n hx hb dX12_chain_61 rfl (lv_at hl 2 rfl) ?_
              have hP : va_P G.1 pCl (mW G h0 a (upd (upd (upd (upd (upd (upd (upd (upd (upd (upd (upd (upd (upd F 15 0) 16 pl342) 27 (nI nd2)) 31 (nI wr2)) 64 (nI (at2 + 1))) 65 (nI (ne + 1))) 66 (nI (lk2 + 1))) 15 0) 27 (nI nd2)) 31 (nI wr2)) 64 (nI (at2 + 1))) 65 (nI (ne + 1))) 66 (nI (lk2 + 1))) (updA X2 2 K)) _ := mW_to (F := F) (l1 := [(15, 0), (16, pl342), (27, (nI nd2)), (31, (nI wr2)), (64, (nI at2)), (65, (nI (ne + 1))), (66, (nI (lk2 + 1))), (64, (nI (at2 + 1)))]) (l2 := [(15, 0), (16, pl342), (27, (nI nd2)), (31, (nI wr2)), (64, (nI (at2 + 1))), (65, (nI (ne + 1))), (66, (nI (lk2 + 1))), (15, 0), (27, (nI nd2)), (31, (nI wr2)), (64, (nI (at2 + 1))), (65, (nI (ne + 1))), (66, (nI (lk2 + 1)))]) (V := [0, pl342, (nI nd2), (nI wr2), (nI (at2 + 1)), (nI (ne + 1)), (nI (lk2 + 1)), (nI (at2 + 1)), 0, pl342, (nI nd2), (nI wr2), (nI (at2 + 1)), (nI (ne + 1)), (nI (lk2 + 1)), 0, (nI nd2), (nI wr2), (nI (at2 + 1)), (nI (ne + 1)), (nI (lk2 + 1))]) rfl rfl rfl hP
              have hD : va_D A (mW G h0 a (upd (upd (upd (upd (upd (upd (upd (upd (upd (upd (upd (upd (upd F 15 0) 16 pl342) 27 (nI nd2)) 31 (nI wr2)) 64 (nI (at2 + 1))) 65 (nI (ne + 1))) 66 (nI (lk2 + 1))) 15 0) 27 (nI nd2)) 31 (nI wr2)) 64 (nI (at2 + 1))) 65 (nI (ne + 1))) 66 (nI (lk2 + 1))) (updA X2 2 K)) := mW_D hD
              refine pc_V0 (G := G) (As := []) (rest := [.int (nI r2), .int (nI ((at2 + 1) - 1)), .int (nI t351), .int 15, .ref h0]) hx hb hml hown hq hE hX pX0_al hP hD hS hA hl.1 (ihc h0 a (upd (upd (upd (upd (upd (upd (upd F 15 0) 16 pl342) 27 (nI nd2)) 31 (nI wr2)) 64 (nI (at2 + 1))) 65 (nI (ne + 1))) 66 (nI (lk2 + 1))) X2 (at2 + 1) T (ne + 1) nd2 wr2 (lk2 + 1) K (by omega) (by omega) hK (by omega) (by omega) (by omega) (by omega) (hkp2).2 (by omega)) (gV pw_1640 pw_1641 pw_1642 pw_1523 pw_1656) hV_X12_choice 0 9 rfl rfl rfl rfl (Nat.le_of_ble_eq_true rfl) dX12_chain_62 ⟨Nat.le_of_ble_eq_true rfl, Nat.le_of_ble_eq_true rfl⟩ ⟨(by show (20 * (n - 1) + 27) + 1 ≤ (20 * n + 12); omega), (by show 8 + (4 + 11) + (1000 * (n - 1) + 40 * 27) ≤ (1000 * n + 40 * 12); omega)⟩ (fun v360 u358 H locs hw359 hP hD hS => ?_)
              obtain ⟨at361, fa362, pl363, nd364, lk365, wr366, r367, X368⟩ := u358
              obtain ⟨hw359, h369, h370, h371, h372, h373, h374, h375, h376, h377, h378, h379, h380, h381, h382⟩ := hw359
              have h369 : (at2 + 1) ≤ at361 := h369
              have h370 : at361 ≤ T := h370
              have h371 : fa362 ≤ 100 := h371
              have h372 : nd2 ≤ nd364 := h372
              have h373 : nd364 + 2 * (at2 + 1) ≤ nd2 + 2 * at361 + 100000 * fa362 := h373
              have h374 : nd364 + 2 * (at2 + 1) ≤ nd2 + 2 * at361 + 40 * (21 - (ne + 1)) := h374
              have h375 : wr2 ≤ wr366 := h375
              have h376 : wr366 + (at2 + 1) ≤ wr2 + at361 := h376
              have h377 : (lk2 + 1) ≤ lk365 := h377
              have h378 : lk365 ≤ 60 + 100 * fa362 := h378
              have h379 : (at2 + 1) + 1 ≤ at361 + fa362 := h379
              have h380 : r367 ≤ nd364 := h380
              have h381 : Kp X2 X368 wr366 T := h381
              have h382 : If (fa362 = 0) (Low X2 X368 nd2 wr2 ∧ Frs K T wr366 X368 nd2 nd364 20000 [(r367, (211 + lk365 - (10 * (ne + 1) + (lk2 + 1))))] ∧ kcl 1 (X368 9 r367) = true) := h382
              obtain rfl : v360 = some (.int (nI r367)) := hw359
              have hP : va_P G.1 pCl (mW G h0 a (upd (upd (upd (upd (upd (upd (upd F 15 (nI fa362)) 16 pl363) 27 (nI nd364)) 31 (nI wr366)) 64 (nI at361)) 65 (nI (ne + 1))) 66 (nI lk365)) (updA X368 2 K)) _ := mW_to (F := F) (l1 := [(15, 0), (16, pl342), (27, (nI nd2)), (31, (nI wr2)), (64, (nI (at2 + 1))), (65, (nI (ne + 1))), (66, (nI (lk2 + 1))), (15, (nI fa362)), (16, pl363), (27, (nI nd364)), (31, (nI wr366)), (64, (nI at361)), (65, (nI (ne + 1))), (66, (nI lk365))]) (l2 := [(15, (nI fa362)), (16, pl363), (27, (nI nd364)), (31, (nI wr366)), (64, (nI at361)), (65, (nI (ne + 1))), (66, (nI lk365))]) (V := [(nI fa362), pl363, (nI nd364), (nI wr366), (nI at361), (nI (ne + 1)), (nI lk365), (nI fa362), pl363, (nI nd364), (nI wr366), (nI at361), (nI (ne + 1)), (nI lk365), (nI fa362), pl363, (nI nd364), (nI wr366), (nI at361), (nI (ne + 1)), (nI lk365)]) rfl rfl rfl hP
              have hD : va_D A (mW G h0 a (upd (upd (upd (upd (upd (upd (upd F 15 (nI fa362)) 16 pl363) 27 (nI nd364)) 31 (nI wr366)) 64 (nI at361)) 65 (nI (ne + 1))) 66 (nI lk365)) (updA X368 2 K)) := mW_D hD
              refine W.widen (k := 0) (n := 0) (Nat.le_of_ble_eq_true rfl) (Nat.le_of_ble_eq_true rfl) ?_
              refine W.eq (g2 := F0 m 65 ls [.int (nI r367), .int (nI r2), .int (nI ((at2 + 1) - 1)), .int (nI t351), .int 15, .ref h0]) rfl ?_
              have hkp383 : Kp B X368 wr366 T := (Kp.trans hkp2 h381)
              rcases Nat.eq_zero_or_pos fa362 with e384 | e384
              · subst e384
                have hP : va_P G.1 pCl (mW G h0 a (upd (upd (upd (upd (upd (upd (upd F 15 0) 16 pl363) 27 (nI nd364)) 31 (nI wr366)) 64 (nI at361)) 65 (nI (ne + 1))) 66 (nI lk365)) (updA X368 2 K)) _ := hP
                have hD : va_D A (mW G h0 a (upd (upd (upd (upd (upd (upd (upd F 15 0) 16 pl363) 27 (nI nd364)) 31 (nI wr366)) 64 (nI at361)) 65 (nI (ne + 1))) 66 (nI lk365)) (updA X368 2 K)) := mW_D hD
                obtain ⟨hlw385, hf386, hc387⟩ := h382 rfl
                have hlo388 : Low B X368 nd wr := (Low.trans hlo2 hlw385 (by omega) (by omega))
                have hf389 : Frs K T wr366 X368 nd nd2 20000 [(r2, (210 + lk2 - (10 * ne + lk)))] := (Frs.same hf2 (by omega) (fun j i q1 q2 q3 q4 => (hlw385.1 j i q1 (by omega) (by omega))))
                have hc390 : kcl 1 (X368 9 r2) = true := by rw [hlw385.1 9 r2 (by omega) (by omega) (by omega)]; exact hc2
                have hm391 := Frs.mem hf386
                have hP : va_P G.1 pCl (mW G h0 a (upd (upd (upd (upd (upd (upd (upd (upd F 15 0) 16 pl363) 27 (nI nd364)) 31 (nI wr366)) 64 (nI at361)) 65 (nI (ne + 1))) 66 (nI lk365)) 27 (nI nd364)) (updA X368 2 K)) _ := mW_to (F := F) (l1 := [(15, 0), (16, pl363), (27, (nI nd364)), (31, (nI wr366)), (64, (nI at361)), (65, (nI (ne + 1))), (66, (nI lk365))]) (l2 := [(15, 0), (16, pl363), (27, (nI nd364)), (31, (nI wr366)), (64, (nI at361)), (65, (nI (ne + 1))), (66, (nI lk365)), (27, (nI nd364))]) (V := [0, pl363, (nI nd364), (nI wr366), (nI at361), (nI (ne + 1)), (nI lk365), 0, pl363, (nI nd364), (nI wr366), (nI at361), (nI (ne + 1)), (nI lk365), (nI nd364)]) rfl rfl rfl hP
                have hD : va_D A (mW G h0 a (upd (upd (upd (upd (upd (upd (upd (upd F 15 0) 16 pl363) 27 (nI nd364)) 31 (nI wr366)) 64 (nI at361)) 65 (nI (ne + 1))) 66 (nI lk365)) 27 (nI nd364)) (updA X368 2 K)) := mW_D hD
                refine pc_V0 (G := G) (As := [.int 15, .int (nI t351), .int (nI ((at2 + 1) - 1)), .int (nI r2), .int (nI r367)]) (rest := []) hx hb hml hown hq hE hX pX0_al hP hD hS hA hl.1 (R_nodeB l G h0 a (upd (upd (upd (upd (upd (upd (upd F 15 0) 16 pl363) 27 (nI nd364)) 31 (nI wr366)) 64 (nI at361)) 65 (nI (ne + 1))) 66 (nI lk365)) X368 15 (nI t351) (nI ((at2 + 1) - 1)) (nI r2) (nI r367) nd364 K (by omega)) (gV pw_1650 pw_1651 pw_1652 pw_1523 pw_1589) hV_X12_node 0 9 rfl rfl rfl rfl (Nat.le_of_ble_eq_true rfl) dX12_chain_65 ⟨Nat.le_of_ble_eq_true rfl, Nat.le_of_ble_eq_true rfl⟩ ⟨(by show 2 + 1 ≤ (20 * n + 12); omega), (by show 8 + (7 + 11) + 60 ≤ (1000 * n + 40 * 12); omega)⟩ (fun v394 u392 H locs hw393 hP hD hS => ?_)
                obtain ⟨X395, rfl⟩ : ∃ z, z = u392 := ⟨_, rfl⟩
                obtain ⟨hw393, h396⟩ := hw393
                have h396 : NewN X368 X395 nd364 15 (nI t351) (nI ((at2 + 1) - 1)) (nI r2) (nI r367) := h396
                obtain rfl : v394 = some (.int (nI nd364)) := hw393
                have hP : va_P G.1 pCl (mW G h0 a (upd (upd (upd (upd (upd (upd (upd F 15 0) 16 pl363) 27 (nI (nd364 + 1))) 31 (nI wr366)) 64 (nI at361)) 65 (nI (ne + 1))) 66 (nI lk365)) (updA X395 2 K)) _ := mW_to (F := F) (l1 := [(15, 0), (16, pl363), (27, (nI nd364)), (31, (nI wr366)), (64, (nI at361)), (65, (nI (ne + 1))), (66, (nI lk365)), (27, (nI (nd364 + 1)))]) (l2 := [(15, 0), (16, pl363), (27, (nI (nd364 + 1))), (31, (nI wr366)), (64, (nI at361)), (65, (nI (ne + 1))), (66, (nI lk365))]) (V := [0, pl363, (nI (nd364 + 1)), (nI wr366), (nI at361), (nI (ne + 1)), (nI lk365), (nI (nd364 + 1)), 0, pl363, (nI (nd364 + 1)), (nI wr366), (nI at361), (nI (ne + 1)), (nI lk365)]) rfl rfl rfl hP
                have hD : va_D A (mW G h0 a (upd (upd (upd (upd (upd (upd (upd F 15 0) 16 pl363) 27 (nI (nd364 + 1))) 31 (nI wr366)) 64 (nI at361)) 65 (nI (ne + 1))) 66 (nI lk365)) (updA X395 2 K)) := mW_D hD
                refine W.widen (k := 0) (n := 0) (Nat.le_of_ble_eq_true rfl) (Nat.le_of_ble_eq_true rfl) ?_
                refine W.eq (g2 := F0 m 68 ls [.int (nI nd364)]) rfl ?_
                have hkp397 : Kp B X395 wr366 T := (Kp.new hkp383 h396)
                have hlo398 : Low B X395 nd wr := (Low.new hlo388 h396 (by omega))
                have hf399 : Frs K T wr366 X368 nd nd364 20000 [(r2, (210 + lk2 - (10 * ne + lk))), (r367, (211 + lk365 - (10 * (ne + 1) + (lk2 + 1))))] := (Frs.join hf389 hf386 (by omega) (by omega) (by omega))
                have hc400 : kcl 1 (X395 9 r2) = true := by rw [h396.2.1 9 r2 (by omega)]; exact hc390
                have hc401 : kcl 1 (X395 9 r367) = true := by rw [h396.2.1 9 r367 (by omega)]; exact hc387
                have hf402 : Frs K T wr366 X395 nd (nd364 + 1) nd364 [(nd364, (210 + lk365 - (10 * ne + lk)))] := (Frs.new2 (k := 15) hf399 (by omega) (by omega) (by omega) h396 rfl rfl (by omega) rfl (by decide) (by decide) (by omega) (by omega) (fun e => absurd e (by decide)) (by simp) ⟨by decide, by decide, by decide, by decide⟩ ⟨by decide, by decide, by decide, by decide⟩ hc390 hc387 (newOK.m1 (by decide)) (newOK.m1 (by decide)) (by omega) (by omega))
                have hn403 : Nd X395 nd364 15 (nI r2) (nI r367) (-1) (-1) := (NewN.toNd h396)
                have hf404 : Frs K T wr366 X395 nd (nd364 + 1) 20000 [(nd364, (210 + lk365 - (10 * ne + lk)))] := (Frs.fin (k := 15) hf402 hn403 rfl (by decide) (fun _ => nI_m1 (by omega)) (fun _ => nI_m1 (by omega)) (fun h => absurd h (by decide)) (fun h => absurd h (by decide)))
                refine lv_istore_n (lv' := [(1, .int (nI nd364)), (2, .int 1), (0, .ref h0)]) hx hb dX12_chain_68 rfl hl (by decide) rfl (fun ls hl => ?_)
                refine lv_aload_n hx hb dX12_chain_69 rfl (lv_at hl 2 rfl) ?_
                refine lv_bipush (v := 93) hx hb dX12_chain_70 (by decide) ?_
                have hP : va_P G.1 pCl (mW G h0 a (upd (upd (upd (upd (upd (upd (upd (upd (upd F 15 0) 16 pl363) 27 (nI (nd364 + 1))) 31 (nI wr366)) 64 (nI at361)) 65 (nI (ne + 1))) 66 (nI lk365)) 15 (nI 0)) 64 (nI at361)) (updA (updA X395 2 K) 2 K)) _ := mW_to (F := F) (l1 := [(15, 0), (16, pl363), (27, (nI (nd364 + 1))), (31, (nI wr366)), (64, (nI at361)), (65, (nI (ne + 1))), (66, (nI lk365))]) (l2 := [(15, 0), (16, pl363), (27, (nI (nd364 + 1))), (31, (nI wr366)), (64, (nI at361)), (65, (nI (ne + 1))), (66, (nI lk365)), (15, (nI 0)), (64, (nI at361))]) (V := [(nI 0), pl363, (nI (nd364 + 1)), (nI wr366), (nI at361), (nI (ne + 1)), (nI lk365), (nI 0), pl363, (nI (nd364 + 1)), (nI wr366), (nI at361), (nI (ne + 1)), (nI lk365), (nI 0), (nI at361)]) rfl rfl (show (updA X395 2 K) = (updA (updA X395 2 K) 2 K) from updsA_eq2 (F := X395) (l1 := [(2, K)]) (l2 := [(2, K), (2, K)]) (V := [K, K, K]) rfl rfl) hP
                have hD : va_D A (mW G h0 a (upd (upd (upd (upd (upd (upd (upd (upd (upd F 15 0) 16 pl363) 27 (nI (nd364 + 1))) 31 (nI wr366)) 64 (nI at361)) 65 (nI (ne + 1))) 66 (nI lk365)) 15 (nI 0)) 64 (nI at361)) (updA (updA X395 2 K) 2 K)) := mW_D hD
                refine pc_V0 (G := G) (As := [.int 93]) (rest := []) hx hb hml hown hq hE hX pX0_al hP hD hS hA hl.1 (R_take l G h0 a (upd (upd (upd (upd (upd (upd (upd F 15 0) 16 pl363) 27 (nI (nd364 + 1))) 31 (nI wr366)) 64 (nI at361)) 65 (nI (ne + 1))) 66 (nI lk365)) (updA X395 2 K) at361 T 0 K 93 (by omega) (by omega) hK (by omega) (by decide) (by decide)) (gV pw_1614 pw_1615 pw_1616 pw_1523 pw_1601) hV_X12_take 0 9 rfl rfl rfl rfl (Nat.le_of_ble_eq_true rfl) dX12_chain_72 ⟨Nat.le_of_ble_eq_true rfl, Nat.le_of_ble_eq_true rfl⟩ ⟨(by show 4 + 1 ≤ (20 * n + 12); omega), (by show 8 + (2 + 11) + 103 ≤ (1000 * n + 40 * 12); omega)⟩ (fun v407 u405 H locs hw406 hP hD hS => ?_)
                obtain ⟨at408, fa409, pl410⟩ := u405
                obtain ⟨hw406, h411, h412, h413, h414, h415, h416, h417, h418⟩ := hw406
                have h411 : at361 ≤ at408 := h411
                have h412 : at408 ≤ T := h412
                have h413 : 0 ≤ fa409 := h413
                have h414 : fa409 ≤ 100 := h414
                have h415 : If (0 < 0) (at408 = at361 ∧ fa409 = 0) := h415
                have h416 : at408 ≤ at361 + 1 := h416
                have h417 : at361 + 1 ≤ at408 + fa409 := h417
                have h418 : If (fa409 = 0) (K at361 = 93) := h418
                obtain rfl : v407 = none := hw406
                have hP : va_P G.1 pCl (mW G h0 a (upd (upd (upd (upd (upd (upd (upd F 15 (nI fa409)) 16 pl410) 27 (nI (nd364 + 1))) 31 (nI wr366)) 64 (nI at408)) 65 (nI (ne + 1))) 66 (nI lk365)) (updA X395 2 K)) _ := mW_to (F := F) (l1 := [(15, 0), (16, pl363), (27, (nI (nd364 + 1))), (31, (nI wr366)), (64, (nI at361)), (65, (nI (ne + 1))), (66, (nI lk365)), (15, (nI fa409)), (16, pl410), (64, (nI at408))]) (l2 := [(15, (nI fa409)), (16, pl410), (27, (nI (nd364 + 1))), (31, (nI wr366)), (64, (nI at408)), (65, (nI (ne + 1))), (66, (nI lk365))]) (V := [(nI fa409), pl410, (nI (nd364 + 1)), (nI wr366), (nI at408), (nI (ne + 1)), (nI lk365), (nI fa409), pl410, (nI at408), (nI fa409), pl410, (nI (nd364 + 1)), (nI wr366), (nI at408), (nI (ne + 1)), (nI lk365)]) rfl rfl (show (updA (updA X395 2 K) 2 K) = (updA X395 2 K) from updsA_eq2 (F := X395) (l1 := [(2, K), (2, K)]) (l2 := [(2, K)]) (V := [K, K, K]) rfl rfl) hP
                have hD : va_D A (mW G h0 a (upd (upd (upd (upd (upd (upd (upd F 15 (nI fa409)) 16 pl410) 27 (nI (nd364 + 1))) 31 (nI wr366)) 64 (nI at408)) 65 (nI (ne + 1))) 66 (nI lk365)) (updA X395 2 K)) := mW_D hD
                refine W.widen (k := 0) (n := 0) (Nat.le_of_ble_eq_true rfl) (Nat.le_of_ble_eq_true rfl) ?_
                refine W.eq (g2 := F0 m 75 ls []) rfl ?_
                rcases Nat.eq_zero_or_pos fa409 with e419 | e419
                · subst e419
                  have hP : va_P G.1 pCl (mW G h0 a (upd (upd (upd (upd (upd (upd (upd F 15 0) 16 pl410) 27 (nI (nd364 + 1))) 31 (nI wr366)) 64 (nI at408)) 65 (nI (ne + 1))) 66 (nI lk365)) (updA X395 2 K)) _ := hP
                  have hD : va_D A (mW G h0 a (upd (upd (upd (upd (upd (upd (upd F 15 0) 16 pl410) 27 (nI (nd364 + 1))) 31 (nI wr366)) 64 (nI at408)) 65 (nI (ne + 1))) 66 (nI lk365)) (updA X395 2 K)) := mW_D hD
                  refine lv_aload_n hx hb dX12_chain_75 rfl (lv_at hl 2 rfl) ?_
                  refine lv_dup hx hb dX12_chain_76 rfl ?_
                  refine r_get (v := .int (nI (ne + 1))) hx hb hown hq hE hP 65 366 tFX12_65 (by decide) pw_1612 rfl dX12_chain_77 ?_
                  refine lv_iconst (v := 1) hx hb dX12_chain_80 (by decide) ?_
                  refine lv_isub hx hb dX12_chain_81 ?_
                  refine lv_topi (fun x420 e421 => ?_)
                  obtain rfl : x420 = nI ((ne + 1) - 1) := e421.trans (nI_subN (a := 1) (b := (ne + 1)) (by omega))
                  refine r_put (v := (nI ((ne + 1) - 1))) (ty := .int) hx hb hown hq hE hP hD hS 65 366 tFX12_65 (by decide) pw_1612 (by decide) rfl rfl (ms_65 a _ _) dX12_chain_82 (fun H locs hP hD hS => ?_)
                  refine lv_goto (tgt := 7) hx hb dX12_chain_85 (by decide) ?_
                  have hP : va_P G.1 pCl (mW G h0 a (upd (upd (upd (upd (upd (upd (upd F 15 0) 16 pl410) 27 (nI (nd364 + 1))) 31 (nI wr366)) 64 (nI at408)) 65 (nI ne)) 66 (nI lk365)) (updA X395 2 K)) _ := mW_to (F := F) (l1 := [(15, 0), (16, pl410), (27, (nI (nd364 + 1))), (31, (nI wr366)), (64, (nI at408)), (65, (nI (ne + 1))), (66, (nI lk365)), (65, (nI ((ne + 1) - 1)))]) (l2 := [(15, 0), (16, pl410), (27, (nI (nd364 + 1))), (31, (nI wr366)), (64, (nI at408)), (65, (nI ne)), (66, (nI lk365))]) (V := [0, pl410, (nI (nd364 + 1)), (nI wr366), (nI at408), (nI ne), (nI lk365), (nI ne), 0, pl410, (nI (nd364 + 1)), (nI wr366), (nI at408), (nI ne), (nI lk365)]) rfl rfl rfl hP
                  have hD : va_D A (mW G h0 a (upd (upd (upd (upd (upd (upd (upd F 15 0) 16 pl410) 27 (nI (nd364 + 1))) 31 (nI wr366)) 64 (nI at408)) 65 (nI ne)) 66 (nI lk365)) (updA X395 2 K)) := mW_D hD
                  exact ih_o at408 (nd364 + 1) wr366 lk365 pl410 X395 nd364 _ _ _ (by omega) (by omega) (by omega) (by omega) (by omega) (by omega) (by omega) (by omega) (by omega) hkp397 hlo398 (by omega) (Frs.up hf404 (by omega)) (by rw [hn403.1]; decide) hP hD hS (lv_sub hl [1, 0, 2] rfl)
                · have e419 := e419
                  refine lv_aload_n hx hb dX12_chain_75 rfl (lv_at hl 2 rfl) ?_
                  refine lv_dup hx hb dX12_chain_76 rfl ?_
                  refine r_get (v := .int (nI (ne + 1))) hx hb hown hq hE hP 65 366 tFX12_65 (by decide) pw_1612 rfl dX12_chain_77 ?_
                  refine lv_iconst (v := 1) hx hb dX12_chain_80 (by decide) ?_
                  refine lv_isub hx hb dX12_chain_81 ?_
                  refine lv_topi (fun x422 e423 => ?_)
                  obtain rfl : x422 = nI ((ne + 1) - 1) := e423.trans (nI_subN (a := 1) (b := (ne + 1)) (by omega))
                  refine r_put (v := (nI ((ne + 1) - 1))) (ty := .int) hx hb hown hq hE hP hD hS 65 366 tFX12_65 (by decide) pw_1612 (by decide) rfl rfl (ms_65 a _ _) dX12_chain_82 (fun H locs hP hD hS => ?_)
                  refine lv_goto (tgt := 7) hx hb dX12_chain_85 (by decide) ?_
                  refine lv_iload_n hx hb dX12_chain_7 rfl (lv_at hl 1 rfl) ?_
                  refine lv_if_eq (tgt := 207) hx hb dX12_chain_8 (by decide) (fun c424 => absurd c424 (by decide)) (fun c424 => ?_)
                  refine lv_aload_n hx hb dX12_chain_11 rfl (lv_at hl 2 rfl) ?_
                  refine r_get (v := .int (nI fa409)) hx hb hown hq hE hP 15 350 tFX12_15 (by decide) pw_1594 rfl dX12_chain_12 ?_
                  refine lv_if_ne (tgt := 207) hx hb dX12_chain_15 (by decide) (fun c425 => ?_) (fun c425 => (by have n426 : fa409 = 0 := (nI_eq (a := fa409) (b := 0) (by omega) (by omega)).mp c425; omega))
                  refine lv_iload_n hx hb dX12_chain_207 rfl (lv_at hl 0 rfl) ?_
                  have hz427 : at0 ≤ at408 := (by omega)
                  have hz428 : at408 ≤ T := (by omega)
                  have hz429 : fa409 ≤ 100 := (by omega)
                  have hz430 : nd ≤ (nd364 + 1) := (by omega)
                  have hz431 : (nd364 + 1) + 2 * at0 ≤ nd + 2 * at408 + 100000 * fa409 := (by omega)
                  have hz432 : (nd364 + 1) + 2 * at0 ≤ nd + 2 * at408 + 40 * (21 - ne) := (by omega)
                  have hz433 : wr ≤ wr366 := (by omega)
                  have hz434 : wr366 + at0 ≤ wr + at408 := (by omega)
                  have hz435 : lk ≤ lk365 := (by omega)
                  have hz436 : lk365 ≤ 60 + 100 * fa409 := (by omega)
                  have hz437 : at0 + 1 ≤ at408 + fa409 := (by omega)
                  have hz438 : nd364 ≤ (nd364 + 1) := (by omega)
                  have hz439 : Kp B X395 wr366 T := hkp397
                  have hz440 : If (fa409 = 0) (Low B X395 nd wr ∧ Frs K T wr366 X395 nd (nd364 + 1) 20000 [(nd364, (210 + lk365 - (10 * ne + lk)))] ∧ kcl 1 (X395 9 nd364) = true) := (fun e => absurd e (by omega))
                  have hP : va_P G.1 pCl (mW G h0 a (upd (upd (upd (upd (upd (upd (upd F 15 (nI fa409)) 16 pl410) 27 (nI (nd364 + 1))) 31 (nI wr366)) 64 (nI at408)) 65 (nI ne)) 66 (nI lk365)) (updA X395 2 K)) _ := mW_to (F := F) (l1 := [(15, (nI fa409)), (16, pl410), (27, (nI (nd364 + 1))), (31, (nI wr366)), (64, (nI at408)), (65, (nI (ne + 1))), (66, (nI lk365)), (65, (nI ((ne + 1) - 1)))]) (l2 := [(15, (nI fa409)), (16, pl410), (27, (nI (nd364 + 1))), (31, (nI wr366)), (64, (nI at408)), (65, (nI ne)), (66, (nI lk365))]) (V := [(nI fa409), pl410, (nI (nd364 + 1)), (nI wr366), (nI at408), (nI ne), (nI lk365), (nI ne), (nI fa409), pl410, (nI (nd364 + 1)), (nI wr366), (nI at408), (nI ne), (nI lk365)]) rfl rfl rfl hP
                  have hD : va_D A (mW G h0 a (upd (upd (upd (upd (upd (upd (upd F 15 (nI fa409)) 16 pl410) 27 (nI (nd364 + 1))) 31 (nI wr366)) 64 (nI at408)) 65 (nI ne)) 66 (nI lk365)) (updA X395 2 K)) := mW_D hD
                  exact W.iret (v := (nI nd364)) hx hb hr (fun t9 ht9 hW9 => ⟨⟨_, (at408, fa409, pl410, (nd364 + 1), lk365, wr366, nd364, X395), rfl, ⟨rfl, hz427, hz428, hz429, hz430, hz431, hz432, hz433, hz434, hz435, hz436, hz437, hz438, hz439, hz440⟩, by rw [ht9]; exact hP, hD⟩, hS.F ht9⟩) hS.2.2 dX12_chain_208
              · have e384 := e384
                have hP : va_P G.1 pCl (mW G h0 a (upd (upd (upd (upd (upd (upd (upd (upd F 15 (nI fa362)) 16 pl363) 27 (nI nd364)) 31 (nI wr366)) 64 (nI at361)) 65 (nI (ne + 1))) 66 (nI lk365)) 27 (nI nd364)) (updA X368 2 K)) _ := mW_to (F := F) (l1 := [(15, (nI fa362)), (16, pl363), (27, (nI nd364)), (31, (nI wr366)), (64, (nI at361)), (65, (nI (ne + 1))), (66, (nI lk365))]) (l2 := [(15, (nI fa362)), (16, pl363), (27, (nI nd364)), (31, (nI wr366)), (64, (nI at361)), (65, (nI (ne + 1))), (66, (nI lk365)), (27, (nI nd364))]) (V := [(nI fa362), pl363, (nI nd364), (nI wr366), (nI at361), (nI (ne + 1)), (nI lk365), (nI fa362), pl363, (nI nd364), (nI wr366), (nI at361), (nI (ne + 1)), (nI lk365), (nI nd364)]) rfl rfl rfl hP
                have hD : va_D A (mW G h0 a (upd (upd (upd (upd (upd (upd (upd (upd F 15 (nI fa362)) 16 pl363) 27 (nI nd364)) 31 (nI wr366)) 64 (nI at361)) 65 (nI (ne + 1))) 66 (nI lk365)) 27 (nI nd364)) (updA X368 2 K)) := mW_D hD
                refine pc_V0 (G := G) (As := [.int 15, .int (nI t351), .int (nI ((at2 + 1) - 1)), .int (nI r2), .int (nI r367)]) (rest := []) hx hb hml hown hq hE hX pX0_al hP hD hS hA hl.1 (R_nodeB l G h0 a (upd (upd (upd (upd (upd (upd (upd F 15 (nI fa362)) 16 pl363) 27 (nI nd364)) 31 (nI wr366)) 64 (nI at361)) 65 (nI (ne + 1))) 66 (nI lk365)) X368 15 (nI t351) (nI ((at2 + 1) - 1)) (nI r2) (nI r367) nd364 K (by omega)) (gV pw_1650 pw_1651 pw_1652 pw_1523 pw_1589) hV_X12_node 0 9 rfl rfl rfl rfl (Nat.le_of_ble_eq_true rfl) dX12_chain_65 ⟨Nat.le_of_ble_eq_true rfl, Nat.le_of_ble_eq_true rfl⟩ ⟨(by show 2 + 1 ≤ (20 * n + 12); omega), (by show 8 + (7 + 11) + 60 ≤ (1000 * n + 40 * 12); omega)⟩ (fun v443 u441 H locs hw442 hP hD hS => ?_)
                obtain ⟨X444, rfl⟩ : ∃ z, z = u441 := ⟨_, rfl⟩
                obtain ⟨hw442, h445⟩ := hw442
                have h445 : NewN X368 X444 nd364 15 (nI t351) (nI ((at2 + 1) - 1)) (nI r2) (nI r367) := h445
                obtain rfl : v443 = some (.int (nI nd364)) := hw442
                have hP : va_P G.1 pCl (mW G h0 a (upd (upd (upd (upd (upd (upd (upd F 15 (nI fa362)) 16 pl363) 27 (nI (nd364 + 1))) 31 (nI wr366)) 64 (nI at361)) 65 (nI (ne + 1))) 66 (nI lk365)) (updA X444 2 K)) _ := mW_to (F := F) (l1 := [(15, (nI fa362)), (16, pl363), (27, (nI nd364)), (31, (nI wr366)), (64, (nI at361)), (65, (nI (ne + 1))), (66, (nI lk365)), (27, (nI (nd364 + 1)))]) (l2 := [(15, (nI fa362)), (16, pl363), (27, (nI (nd364 + 1))), (31, (nI wr366)), (64, (nI at361)), (65, (nI (ne + 1))), (66, (nI lk365))]) (V := [(nI fa362), pl363, (nI (nd364 + 1)), (nI wr366), (nI at361), (nI (ne + 1)), (nI lk365), (nI (nd364 + 1)), (nI fa362), pl363, (nI (nd364 + 1)), (nI wr366), (nI at361), (nI (ne + 1)), (nI lk365)]) rfl rfl rfl hP
                have hD : va_D A (mW G h0 a (upd (upd (upd (upd (upd (upd (upd F 15 (nI fa362)) 16 pl363) 27 (nI (nd364 + 1))) 31 (nI wr366)) 64 (nI at361)) 65 (nI (ne + 1))) 66 (nI lk365)) (updA X444 2 K)) := mW_D hD
                refine W.widen (k := 0) (n := 0) (Nat.le_of_ble_eq_true rfl) (Nat.le_of_ble_eq_true rfl) ?_
                refine W.eq (g2 := F0 m 68 ls [.int (nI nd364)]) rfl ?_
                have hkp446 : Kp B X444 wr366 T := (Kp.new hkp383 h445)
                refine lv_istore_n (lv' := [(1, .int (nI nd364)), (2, .int 1), (0, .ref h0)]) hx hb dX12_chain_68 rfl hl (by decide) rfl (fun ls hl => ?_)
                refine lv_aload_n hx hb dX12_chain_69 rfl (lv_at hl 2 rfl) ?_
                refine lv_bipush (v := 93) hx hb dX12_chain_70 (by decide) ?_
                have hP : va_P G.1 pCl (mW G h0 a (upd (upd (upd (upd (upd (upd (upd (upd (upd F 15 (nI fa362)) 16 pl363) 27 (nI (nd364 + 1))) 31 (nI wr366)) 64 (nI at361)) 65 (nI (ne + 1))) 66 (nI lk365)) 15 (nI fa362)) 64 (nI at361)) (updA (updA X444 2 K) 2 K)) _ := mW_to (F := F) (l1 := [(15, (nI fa362)), (16, pl363), (27, (nI (nd364 + 1))), (31, (nI wr366)), (64, (nI at361)), (65, (nI (ne + 1))), (66, (nI lk365))]) (l2 := [(15, (nI fa362)), (16, pl363), (27, (nI (nd364 + 1))), (31, (nI wr366)), (64, (nI at361)), (65, (nI (ne + 1))), (66, (nI lk365)), (15, (nI fa362)), (64, (nI at361))]) (V := [(nI fa362), pl363, (nI (nd364 + 1)), (nI wr366), (nI at361), (nI (ne + 1)), (nI lk365), (nI fa362), pl363, (nI (nd364 + 1)), (nI wr366), (nI at361), (nI (ne + 1)), (nI lk365), (nI fa362), (nI at361)]) rfl rfl (show (updA X444 2 K) = (updA (updA X444 2 K) 2 K) from updsA_eq2 (F := X444) (l1 := [(2, K)]) (l2 := [(2, K), (2, K)]) (V := [K, K, K]) rfl rfl) hP
                have hD : va_D A (mW G h0 a (upd (upd (upd (upd (upd (upd (upd (upd (upd F 15 (nI fa362)) 16 pl363) 27 (nI (nd364 + 1))) 31 (nI wr366)) 64 (nI at361)) 65 (nI (ne + 1))) 66 (nI lk365)) 15 (nI fa362)) 64 (nI at361)) (updA (updA X444 2 K) 2 K)) := mW_D hD
                refine pc_V0 (G := G) (As := [.int 93]) (rest := []) hx hb hml hown hq hE hX pX0_al hP hD hS hA hl.1 (R_take l G h0 a (upd (upd (upd (upd (upd (upd (upd F 15 (nI fa362)) 16 pl363) 27 (nI (nd364 + 1))) 31 (nI wr366)) 64 (nI at361)) 65 (nI (ne + 1))) 66 (nI lk365)) (updA X444 2 K) at361 T fa362 K 93 (by omega) (by omega) hK (by omega) (by decide) (by decide)) (gV pw_1614 pw_1615 pw_1616 pw_1523 pw_1601) hV_X12_take 0 9 rfl rfl rfl rfl (Nat.le_of_ble_eq_true rfl) dX12_chain_72 ⟨Nat.le_of_ble_eq_true rfl, Nat.le_of_ble_eq_true rfl⟩ ⟨(by show 4 + 1 ≤ (20 * n + 12); omega), (by show 8 + (2 + 11) + 103 ≤ (1000 * n + 40 * 12); omega)⟩ (fun v449 u447 H locs hw448 hP hD hS => ?_)
                obtain ⟨at450, fa451, pl452⟩ := u447
                obtain ⟨hw448, h453, h454, h455, h456, h457, h458, h459, h460⟩ := hw448
                have h453 : at361 ≤ at450 := h453
                have h454 : at450 ≤ T := h454
                have h455 : fa362 ≤ fa451 := h455
                have h456 : fa451 ≤ 100 := h456
                have h457 : If (0 < fa362) (at450 = at361 ∧ fa451 = fa362) := h457
                have h458 : at450 ≤ at361 + 1 := h458
                have h459 : at361 + 1 ≤ at450 + fa451 := h459
                have h460 : If (fa451 = 0) (K at361 = 93) := h460
                obtain rfl : v449 = none := hw448
                have hP : va_P G.1 pCl (mW G h0 a (upd (upd (upd (upd (upd (upd (upd F 15 (nI fa451)) 16 pl452) 27 (nI (nd364 + 1))) 31 (nI wr366)) 64 (nI at450)) 65 (nI (ne + 1))) 66 (nI lk365)) (updA X444 2 K)) _ := mW_to (F := F) (l1 := [(15, (nI fa362)), (16, pl363), (27, (nI (nd364 + 1))), (31, (nI wr366)), (64, (nI at361)), (65, (nI (ne + 1))), (66, (nI lk365)), (15, (nI fa451)), (16, pl452), (64, (nI at450))]) (l2 := [(15, (nI fa451)), (16, pl452), (27, (nI (nd364 + 1))), (31, (nI wr366)), (64, (nI at450)), (65, (nI (ne + 1))), (66, (nI lk365))]) (V := [(nI fa451), pl452, (nI (nd364 + 1)), (nI wr366), (nI at450), (nI (ne + 1)), (nI lk365), (nI fa451), pl452, (nI at450), (nI fa451), pl452, (nI (nd364 + 1)), (nI wr366), (nI at450), (nI (ne + 1)), (nI lk365)]) rfl rfl (show (updA (updA X444 2 K) 2 K) = (updA X444 2 K) from updsA_eq2 (F := X444) (l1 := [(2, K), (2, K)]) (l2 := [(2, K)]) (V := [K, K, K]) rfl rfl) hP
                have hD : va_D A (mW G h0 a (upd (upd (upd (upd (upd (upd (upd F 15 (nI fa451)) 16 pl452) 27 (nI (nd364 + 1))) 31 (nI wr366)) 64 (nI at450)) 65 (nI (ne + 1))) 66 (nI lk365)) (updA X444 2 K)) := mW_D hD
                refine W.widen (k := 0) (n := 0) (Nat.le_of_ble_eq_true rfl) (Nat.le_of_ble_eq_true rfl) ?_
                refine W.eq (g2 := F0 m 75 ls []) rfl ?_
                obtain ⟨n462, n461⟩ := h457 e384
                replace n462 := n462.symm
                subst n462
                replace n461 := n461.symm
                subst n461
                refine lv_aload_n hx hb dX12_chain_75 rfl (lv_at hl 2 rfl) ?_
                refine lv_dup hx hb dX12_chain_76 rfl ?_
                refine r_get (v := .int (nI (ne + 1))) hx hb hown hq hE hP 65 366 tFX12_65 (by decide) pw_1612 rfl dX12_chain_77 ?_
                refine lv_iconst (v := 1) hx hb dX12_chain_80 (by decide) ?_
                refine lv_isub hx hb dX12_chain_81 ?_
                refine lv_topi (fun x463 e464 => ?_)
                obtain rfl : x463 = nI ((ne + 1) - 1) := e464.trans (nI_subN (a := 1) (b := (ne + 1)) (by omega))
                refine r_put (v := (nI ((ne + 1) - 1))) (ty := .int) hx hb hown hq hE hP hD hS 65 366 tFX12_65 (by decide) pw_1612 (by decide) rfl rfl (ms_65 a _ _) dX12_chain_82 (fun H locs hP hD hS => ?_)
                refine lv_goto (tgt := 7) hx hb dX12_chain_85 (by decide) ?_
                refine lv_iload_n hx hb dX12_chain_7 rfl (lv_at hl 1 rfl) ?_
                refine lv_if_eq (tgt := 207) hx hb dX12_chain_8 (by decide) (fun c465 => absurd c465 (by decide)) (fun c465 => ?_)
                refine lv_aload_n hx hb dX12_chain_11 rfl (lv_at hl 2 rfl) ?_
                refine r_get (v := .int (nI fa362)) hx hb hown hq hE hP 15 350 tFX12_15 (by decide) pw_1594 rfl dX12_chain_12 ?_
                refine lv_if_ne (tgt := 207) hx hb dX12_chain_15 (by decide) (fun c466 => ?_) (fun c466 => (by have n467 : fa362 = 0 := (nI_eq (a := fa362) (b := 0) (by omega) (by omega)).mp c466; omega))
                refine lv_iload_n hx hb dX12_chain_207 rfl (lv_at hl 0 rfl) ?_
                have hz468 : at0 ≤ at361 := (by omega)
                have hz469 : at361 ≤ T := (by omega)
                have hz470 : fa362 ≤ 100 := (by omega)
                have hz471 : nd ≤ (nd364 + 1) := (by omega)
                have hz472 : (nd364 + 1) + 2 * at0 ≤ nd + 2 * at361 + 100000 * fa362 := (by omega)
                have hz473 : (nd364 + 1) + 2 * at0 ≤ nd + 2 * at361 + 40 * (21 - ne) := (by omega)
                have hz474 : wr ≤ wr366 := (by omega)
                have hz475 : wr366 + at0 ≤ wr + at361 := (by omega)
                have hz476 : lk ≤ lk365 := (by omega)
                have hz477 : lk365 ≤ 60 + 100 * fa362 := (by omega)
                have hz478 : at0 + 1 ≤ at361 + fa362 := (by omega)
                have hz479 : nd364 ≤ (nd364 + 1) := (by omega)
                have hz480 : Kp B X444 wr366 T := hkp446
                have hz481 : If (fa362 = 0) (Low B X444 nd wr ∧ Frs K T wr366 X444 nd (nd364 + 1) 20000 [(nd364, (210 + lk365 - (10 * ne + lk)))] ∧ kcl 1 (X444 9 nd364) = true) := (fun e => absurd e (by omega))
                have hP : va_P G.1 pCl (mW G h0 a (upd (upd (upd (upd (upd (upd (upd F 15 (nI fa362)) 16 pl452) 27 (nI (nd364 + 1))) 31 (nI wr366)) 64 (nI at361)) 65 (nI ne)) 66 (nI lk365)) (updA X444 2 K)) _ := hP
                have hD : va_D A (mW G h0 a (upd (upd (upd (upd (upd (upd (upd F 15 (nI fa362)) 16 pl452) 27 (nI (nd364 + 1))) 31 (nI wr366)) 64 (nI at361)) 65 (nI ne)) 66 (nI lk365)) (updA X444 2 K)) := mW_D hD
                exact W.iret (v := (nI nd364)) hx hb hr (fun t9 ht9 hW9 => ⟨⟨_, (at361, fa362, pl452, (nd364 + 1), lk365, wr366, nd364, X444), rfl, ⟨rfl, hz468, hz469, hz470, hz471, hz472, hz473, hz474, hz475, hz476, hz477, hz478, hz479, hz480, hz481⟩, by rw [ht9]; exact hP, hD⟩, hS.F ht9⟩) hS.2.2 dX12_chain_208
            · have e347 := e347
              refine lv_aload_n hx hb dX12_chain_35 rfl (lv_at hl 2 rfl) ?_
              refine lv_dup hx hb dX12_chain_36 rfl ?_
              refine r_get (v := .int (nI at2)) hx hb hown hq hE hP 64 343 tFX12_64 (by decide) pw_1592 rfl dX12_chain_37 ?_
              refine lv_iconst (v := 1) hx hb dX12_chain_40 (by decide) ?_
              refine lv_iadd hx hb dX12_chain_41 ?_
              refine lv_topi (fun x482 e483 => ?_)
              obtain rfl : x482 = nI (at2 + 1) := e483.trans (nI_add (at2) (1))
              refine r_put (v := (nI (at2 + 1))) (ty := .int) hx hb hown hq hE hP hD hS 64 343 tFX12_64 (by decide) pw_1592 (by decide) rfl rfl (ms_64 a _ _) dX12_chain_42 (fun H locs hP hD hS => ?_)
              refine lv_aload_n hx hb dX12_chain_45 rfl (lv_at hl 2 rfl) ?_
              refine lv_bipush (v := 15) hx hb dX12_chain_46 (by decide) ?_
              refine lv_aload_n hx hb dX12_chain_48 rfl (lv_at hl 2 rfl) ?_
              refine r_get (v := .ref (a 10)) hx hb hown hq hE hP 18 41 tFX12_18 (by decide) pw_1440 rfl dX12_chain_49 ?_
              refine lv_iload_n hx hb dX12_chain_52 rfl (lv_at hl 1 rfl) ?_
              refine r_ldi (f := (X2 10)) (j := r2) hx hb hE hP 10 (ma_10 G a _) rfl (by omega) (by decide) dX12_chain_53 ?_
              refine lv_topi (fun x484 e485 => ?_)
              refine lv_aload_n hx hb dX12_chain_54 rfl (lv_at hl 2 rfl) ?_
              refine r_get (v := .int (nI (at2 + 1))) hx hb hown hq hE hP 64 343 tFX12_64 (by decide) pw_1592 rfl dX12_chain_55 ?_
              refine lv_iconst (v := 1) hx hb dX12_chain_58 (by decide) ?_
              refine lv_isub hx hb dX12_chain_59 ?_
              refine lv_topi (fun x486 e487 => ?_)
              obtain rfl : x486 = nI ((at2 + 1) - 1) := e487.trans (nI_subN (a := 1) (b := (at2 + 1)) (by omega))
              refine lv_iload_n hx hb dX12_chain_60 rfl (lv_at hl 1 rfl) ?_
              refine lv_aload_n hx hb dX12_chain_61 rfl (lv_at hl 2 rfl) ?_
              have hP : va_P G.1 pCl (mW G h0 a (upd (upd (upd (upd (upd (upd (upd (upd (upd F 15 (nI fa341)) 16 pl342) 27 (nI nd2)) 31 (nI wr2)) 64 (nI (at2 + 1))) 65 (nI (ne + 1))) 66 (nI (lk2 + 1))) 15 (nI fa341)) 64 (nI (at2 + 1))) (updA (updA X2 2 K) 2 K)) _ := mW_to (F := F) (l1 := [(15, (nI fa341)), (16, pl342), (27, (nI nd2)), (31, (nI wr2)), (64, (nI at2)), (65, (nI (ne + 1))), (66, (nI (lk2 + 1))), (64, (nI (at2 + 1)))]) (l2 := [(15, (nI fa341)), (16, pl342), (27, (nI nd2)), (31, (nI wr2)), (64, (nI (at2 + 1))), (65, (nI (ne + 1))), (66, (nI (lk2 + 1))), (15, (nI fa341)), (64, (nI (at2 + 1)))]) (V := [(nI fa341), pl342, (nI nd2), (nI wr2), (nI (at2 + 1)), (nI (ne + 1)), (nI (lk2 + 1)), (nI (at2 + 1)), (nI fa341), pl342, (nI nd2), (nI wr2), (nI (at2 + 1)), (nI (ne + 1)), (nI (lk2 + 1)), (nI fa341), (nI (at2 + 1))]) rfl rfl (show (updA X2 2 K) = (updA (updA X2 2 K) 2 K) from updsA_eq2 (F := X2) (l1 := [(2, K)]) (l2 := [(2, K), (2, K)]) (V := [K, K, K]) rfl rfl) hP
              have hD : va_D A (mW G h0 a (upd (upd (upd (upd (upd (upd (upd (upd (upd F 15 (nI fa341)) 16 pl342) 27 (nI nd2)) 31 (nI wr2)) 64 (nI (at2 + 1))) 65 (nI (ne + 1))) 66 (nI (lk2 + 1))) 15 (nI fa341)) 64 (nI (at2 + 1))) (updA (updA X2 2 K) 2 K)) := mW_D hD
              refine pc_V0 (G := G) (As := []) (rest := [.int (nI r2), .int (nI ((at2 + 1) - 1)), .int x484, .int 15, .ref h0]) hx hb hml hown hq hE hX pX0_al hP hD hS hA hl.1 (RF_choice l G h0 a (upd (upd (upd (upd (upd (upd (upd F 15 (nI fa341)) 16 pl342) 27 (nI nd2)) 31 (nI wr2)) 64 (nI (at2 + 1))) 65 (nI (ne + 1))) 66 (nI (lk2 + 1))) (updA X2 2 K) (at2 + 1) T fa341 K (by omega) (by omega) hK (by omega) e347) (gV pw_1640 pw_1641 pw_1642 pw_1523 pw_1656) hV_X12_choice 0 9 rfl rfl rfl rfl (Nat.le_of_ble_eq_true rfl) dX12_chain_62 ⟨Nat.le_of_ble_eq_true rfl, Nat.le_of_ble_eq_true rfl⟩ ⟨(by show 16 + 1 ≤ (20 * n + 12); omega), (by show 8 + (4 + 11) + 405 ≤ (1000 * n + 40 * 12); omega)⟩ (fun v490 u488 H locs hw489 hP hD hS => ?_)
              obtain rfl : v490 = some (.int 0) := hw489
              have hP : va_P G.1 pCl (mW G h0 a (upd (upd (upd (upd (upd (upd (upd F 15 (nI fa341)) 16 pl342) 27 (nI nd2)) 31 (nI wr2)) 64 (nI (at2 + 1))) 65 (nI (ne + 1))) 66 (nI (lk2 + 1))) (updA X2 2 K)) _ := mW_to (F := F) (l1 := [(15, (nI fa341)), (16, pl342), (27, (nI nd2)), (31, (nI wr2)), (64, (nI (at2 + 1))), (65, (nI (ne + 1))), (66, (nI (lk2 + 1))), (15, (nI fa341)), (64, (nI (at2 + 1)))]) (l2 := [(15, (nI fa341)), (16, pl342), (27, (nI nd2)), (31, (nI wr2)), (64, (nI (at2 + 1))), (65, (nI (ne + 1))), (66, (nI (lk2 + 1)))]) (V := [(nI fa341), pl342, (nI nd2), (nI wr2), (nI (at2 + 1)), (nI (ne + 1)), (nI (lk2 + 1)), (nI fa341), (nI (at2 + 1)), (nI fa341), pl342, (nI nd2), (nI wr2), (nI (at2 + 1)), (nI (ne + 1)), (nI (lk2 + 1))]) rfl rfl (show (updA (updA X2 2 K) 2 K) = (updA X2 2 K) from updsA_eq2 (F := X2) (l1 := [(2, K), (2, K)]) (l2 := [(2, K)]) (V := [K, K, K]) rfl rfl) hP
              have hD : va_D A (mW G h0 a (upd (upd (upd (upd (upd (upd (upd F 15 (nI fa341)) 16 pl342) 27 (nI nd2)) 31 (nI wr2)) 64 (nI (at2 + 1))) 65 (nI (ne + 1))) 66 (nI (lk2 + 1))) (updA X2 2 K)) := mW_D hD
              refine W.widen (k := 0) (n := 0) (Nat.le_of_ble_eq_true rfl) (Nat.le_of_ble_eq_true rfl) ?_
              refine W.eq (g2 := F0 m 65 ls [.int 0, .int (nI r2), .int (nI ((at2 + 1) - 1)), .int x484, .int 15, .ref h0]) rfl ?_
              have hP : va_P G.1 pCl (mW G h0 a (upd (upd (upd (upd (upd (upd (upd (upd F 15 (nI fa341)) 16 pl342) 27 (nI nd2)) 31 (nI wr2)) 64 (nI (at2 + 1))) 65 (nI (ne + 1))) 66 (nI (lk2 + 1))) 27 (nI nd2)) (updA X2 2 K)) _ := mW_to (F := F) (l1 := [(15, (nI fa341)), (16, pl342), (27, (nI nd2)), (31, (nI wr2)), (64, (nI (at2 + 1))), (65, (nI (ne + 1))), (66, (nI (lk2 + 1)))]) (l2 := [(15, (nI fa341)), (16, pl342), (27, (nI nd2)), (31, (nI wr2)), (64, (nI (at2 + 1))), (65, (nI (ne + 1))), (66, (nI (lk2 + 1))), (27, (nI nd2))]) (V := [(nI fa341), pl342, (nI nd2), (nI wr2), (nI (at2 + 1)), (nI (ne + 1)), (nI (lk2 + 1)), (nI fa341), pl342, (nI nd2), (nI wr2), (nI (at2 + 1)), (nI (ne + 1)), (nI (lk2 + 1)), (nI nd2)]) rfl rfl rfl hP
              have hD : va_D A (mW G h0 a (upd (upd (upd (upd (upd (upd (upd (upd F 15 (nI fa341)) 16 pl342) 27 (nI nd2)) 31 (nI wr2)) 64 (nI (at2 + 1))) 65 (nI (ne + 1))) 66 (nI (lk2 + 1))) 27 (nI nd2)) (updA X2 2 K)) := mW_D hD
              refine pc_V0 (G := G) (As := [.int 15, .int x484, .int (nI ((at2 + 1) - 1)), .int (nI r2), .int 0]) (rest := []) hx hb hml hown hq hE hX pX0_al hP hD hS hA hl.1 (R_nodeB l G h0 a (upd (upd (upd (upd (upd (upd (upd F 15 (nI fa341)) 16 pl342) 27 (nI nd2)) 31 (nI wr2)) 64 (nI (at2 + 1))) 65 (nI (ne + 1))) 66 (nI (lk2 + 1))) X2 15 x484 (nI ((at2 + 1) - 1)) (nI r2) 0 nd2 K (by omega)) (gV pw_1650 pw_1651 pw_1652 pw_1523 pw_1589) hV_X12_node 0 9 rfl rfl rfl rfl (Nat.le_of_ble_eq_true rfl) dX12_chain_65 ⟨Nat.le_of_ble_eq_true rfl, Nat.le_of_ble_eq_true rfl⟩ ⟨(by show 2 + 1 ≤ (20 * n + 12); omega), (by show 8 + (7 + 11) + 60 ≤ (1000 * n + 40 * 12); omega)⟩ (fun v493 u491 H locs hw492 hP hD hS => ?_)
              obtain ⟨X494, rfl⟩ : ∃ z, z = u491 := ⟨_, rfl⟩
              obtain ⟨hw492, h495⟩ := hw492
              have h495 : NewN X2 X494 nd2 15 x484 (nI ((at2 + 1) - 1)) (nI r2) 0 := h495
              obtain rfl : v493 = some (.int (nI nd2)) := hw492
              have hP : va_P G.1 pCl (mW G h0 a (upd (upd (upd (upd (upd (upd (upd F 15 (nI fa341)) 16 pl342) 27 (nI (nd2 + 1))) 31 (nI wr2)) 64 (nI (at2 + 1))) 65 (nI (ne + 1))) 66 (nI (lk2 + 1))) (updA X494 2 K)) _ := mW_to (F := F) (l1 := [(15, (nI fa341)), (16, pl342), (27, (nI nd2)), (31, (nI wr2)), (64, (nI (at2 + 1))), (65, (nI (ne + 1))), (66, (nI (lk2 + 1))), (27, (nI (nd2 + 1)))]) (l2 := [(15, (nI fa341)), (16, pl342), (27, (nI (nd2 + 1))), (31, (nI wr2)), (64, (nI (at2 + 1))), (65, (nI (ne + 1))), (66, (nI (lk2 + 1)))]) (V := [(nI fa341), pl342, (nI (nd2 + 1)), (nI wr2), (nI (at2 + 1)), (nI (ne + 1)), (nI (lk2 + 1)), (nI (nd2 + 1)), (nI fa341), pl342, (nI (nd2 + 1)), (nI wr2), (nI (at2 + 1)), (nI (ne + 1)), (nI (lk2 + 1))]) rfl rfl rfl hP
              have hD : va_D A (mW G h0 a (upd (upd (upd (upd (upd (upd (upd F 15 (nI fa341)) 16 pl342) 27 (nI (nd2 + 1))) 31 (nI wr2)) 64 (nI (at2 + 1))) 65 (nI (ne + 1))) 66 (nI (lk2 + 1))) (updA X494 2 K)) := mW_D hD
              refine W.widen (k := 0) (n := 0) (Nat.le_of_ble_eq_true rfl) (Nat.le_of_ble_eq_true rfl) ?_
              refine W.eq (g2 := F0 m 68 ls [.int (nI nd2)]) rfl ?_
              have hkp496 : Kp B X494 wr2 T := (Kp.new hkp2 h495)
              refine lv_istore_n (lv' := [(1, .int (nI nd2)), (2, .int 1), (0, .ref h0)]) hx hb dX12_chain_68 rfl hl (by decide) rfl (fun ls hl => ?_)
              refine lv_aload_n hx hb dX12_chain_69 rfl (lv_at hl 2 rfl) ?_
              refine lv_bipush (v := 93) hx hb dX12_chain_70 (by decide) ?_
              have hP : va_P G.1 pCl (mW G h0 a (upd (upd (upd (upd (upd (upd (upd (upd (upd F 15 (nI fa341)) 16 pl342) 27 (nI (nd2 + 1))) 31 (nI wr2)) 64 (nI (at2 + 1))) 65 (nI (ne + 1))) 66 (nI (lk2 + 1))) 15 (nI fa341)) 64 (nI (at2 + 1))) (updA (updA X494 2 K) 2 K)) _ := mW_to (F := F) (l1 := [(15, (nI fa341)), (16, pl342), (27, (nI (nd2 + 1))), (31, (nI wr2)), (64, (nI (at2 + 1))), (65, (nI (ne + 1))), (66, (nI (lk2 + 1)))]) (l2 := [(15, (nI fa341)), (16, pl342), (27, (nI (nd2 + 1))), (31, (nI wr2)), (64, (nI (at2 + 1))), (65, (nI (ne + 1))), (66, (nI (lk2 + 1))), (15, (nI fa341)), (64, (nI (at2 + 1)))]) (V := [(nI fa341), pl342, (nI (nd2 + 1)), (nI wr2), (nI (at2 + 1)), (nI (ne + 1)), (nI (lk2 + 1)), (nI fa341), pl342, (nI (nd2 + 1)), (nI wr2), (nI (at2 + 1)), (nI (ne + 1)), (nI (lk2 + 1)), (nI fa341), (nI (at2 + 1))]) rfl rfl (show (updA X494 2 K) = (updA (updA X494 2 K) 2 K) from updsA_eq2 (F := X494) (l1 := [(2, K)]) (l2 := [(2, K), (2, K)]) (V := [K, K, K]) rfl rfl) hP
              have hD : va_D A (mW G h0 a (upd (upd (upd (upd (upd (upd (upd (upd (upd F 15 (nI fa341)) 16 pl342) 27 (nI (nd2 + 1))) 31 (nI wr2)) 64 (nI (at2 + 1))) 65 (nI (ne + 1))) 66 (nI (lk2 + 1))) 15 (nI fa341)) 64 (nI (at2 + 1))) (updA (updA X494 2 K) 2 K)) := mW_D hD
              refine pc_V0 (G := G) (As := [.int 93]) (rest := []) hx hb hml hown hq hE hX pX0_al hP hD hS hA hl.1 (R_take l G h0 a (upd (upd (upd (upd (upd (upd (upd F 15 (nI fa341)) 16 pl342) 27 (nI (nd2 + 1))) 31 (nI wr2)) 64 (nI (at2 + 1))) 65 (nI (ne + 1))) 66 (nI (lk2 + 1))) (updA X494 2 K) (at2 + 1) T fa341 K 93 (by omega) (by omega) hK (by omega) (by decide) (by decide)) (gV pw_1614 pw_1615 pw_1616 pw_1523 pw_1601) hV_X12_take 0 9 rfl rfl rfl rfl (Nat.le_of_ble_eq_true rfl) dX12_chain_72 ⟨Nat.le_of_ble_eq_true rfl, Nat.le_of_ble_eq_true rfl⟩ ⟨(by show 4 + 1 ≤ (20 * n + 12); omega), (by show 8 + (2 + 11) + 103 ≤ (1000 * n + 40 * 12); omega)⟩ (fun v499 u497 H locs hw498 hP hD hS => ?_)
              obtain ⟨at500, fa501, pl502⟩ := u497
              obtain ⟨hw498, h503, h504, h505, h506, h507, h508, h509, h510⟩ := hw498
              have h503 : (at2 + 1) ≤ at500 := h503
              have h504 : at500 ≤ T := h504
              have h505 : fa341 ≤ fa501 := h505
              have h506 : fa501 ≤ 100 := h506
              have h507 : If (0 < fa341) (at500 = (at2 + 1) ∧ fa501 = fa341) := h507
              have h508 : at500 ≤ (at2 + 1) + 1 := h508
              have h509 : (at2 + 1) + 1 ≤ at500 + fa501 := h509
              have h510 : If (fa501 = 0) (K (at2 + 1) = 93) := h510
              obtain rfl : v499 = none := hw498
              have hP : va_P G.1 pCl (mW G h0 a (upd (upd (upd (upd (upd (upd (upd F 15 (nI fa501)) 16 pl502) 27 (nI (nd2 + 1))) 31 (nI wr2)) 64 (nI at500)) 65 (nI (ne + 1))) 66 (nI (lk2 + 1))) (updA X494 2 K)) _ := mW_to (F := F) (l1 := [(15, (nI fa341)), (16, pl342), (27, (nI (nd2 + 1))), (31, (nI wr2)), (64, (nI (at2 + 1))), (65, (nI (ne + 1))), (66, (nI (lk2 + 1))), (15, (nI fa501)), (16, pl502), (64, (nI at500))]) (l2 := [(15, (nI fa501)), (16, pl502), (27, (nI (nd2 + 1))), (31, (nI wr2)), (64, (nI at500)), (65, (nI (ne + 1))), (66, (nI (lk2 + 1)))]) (V := [(nI fa501), pl502, (nI (nd2 + 1)), (nI wr2), (nI at500), (nI (ne + 1)), (nI (lk2 + 1)), (nI fa501), pl502, (nI at500), (nI fa501), pl502, (nI (nd2 + 1)), (nI wr2), (nI at500), (nI (ne + 1)), (nI (lk2 + 1))]) rfl rfl (show (updA (updA X494 2 K) 2 K) = (updA X494 2 K) from updsA_eq2 (F := X494) (l1 := [(2, K), (2, K)]) (l2 := [(2, K)]) (V := [K, K, K]) rfl rfl) hP
              have hD : va_D A (mW G h0 a (upd (upd (upd (upd (upd (upd (upd F 15 (nI fa501)) 16 pl502) 27 (nI (nd2 + 1))) 31 (nI wr2)) 64 (nI at500)) 65 (nI (ne + 1))) 66 (nI (lk2 + 1))) (updA X494 2 K)) := mW_D hD
              refine W.widen (k := 0) (n := 0) (Nat.le_of_ble_eq_true rfl) (Nat.le_of_ble_eq_true rfl) ?_
              refine W.eq (g2 := F0 m 75 ls []) rfl ?_
              obtain ⟨n512, n511⟩ := h507 e347
              replace n512 := n512.symm
              subst n512
              replace n511 := n511.symm
              subst n511
              refine lv_aload_n hx hb dX12_chain_75 rfl (lv_at hl 2 rfl) ?_
              refine lv_dup hx hb dX12_chain_76 rfl ?_
              refine r_get (v := .int (nI (ne + 1))) hx hb hown hq hE hP 65 366 tFX12_65 (by decide) pw_1612 rfl dX12_chain_77 ?_
              refine lv_iconst (v := 1) hx hb dX12_chain_80 (by decide) ?_
              refine lv_isub hx hb dX12_chain_81 ?_
              refine lv_topi (fun x513 e514 => ?_)
              obtain rfl : x513 = nI ((ne + 1) - 1) := e514.trans (nI_subN (a := 1) (b := (ne + 1)) (by omega))
              refine r_put (v := (nI ((ne + 1) - 1))) (ty := .int) hx hb hown hq hE hP hD hS 65 366 tFX12_65 (by decide) pw_1612 (by decide) rfl rfl (ms_65 a _ _) dX12_chain_82 (fun H locs hP hD hS => ?_)
              refine lv_goto (tgt := 7) hx hb dX12_chain_85 (by decide) ?_
              refine lv_iload_n hx hb dX12_chain_7 rfl (lv_at hl 1 rfl) ?_
              refine lv_if_eq (tgt := 207) hx hb dX12_chain_8 (by decide) (fun c515 => absurd c515 (by decide)) (fun c515 => ?_)
              refine lv_aload_n hx hb dX12_chain_11 rfl (lv_at hl 2 rfl) ?_
              refine r_get (v := .int (nI fa341)) hx hb hown hq hE hP 15 350 tFX12_15 (by decide) pw_1594 rfl dX12_chain_12 ?_
              refine lv_if_ne (tgt := 207) hx hb dX12_chain_15 (by decide) (fun c516 => ?_) (fun c516 => (by have n517 : fa341 = 0 := (nI_eq (a := fa341) (b := 0) (by omega) (by omega)).mp c516; omega))
              refine lv_iload_n hx hb dX12_chain_207 rfl (lv_at hl 0 rfl) ?_
              have hz518 : at0 ≤ (at2 + 1) := (by omega)
              have hz519 : (at2 + 1) ≤ T := (by omega)
              have hz520 : fa341 ≤ 100 := (by omega)
              have hz521 : nd ≤ (nd2 + 1) := (by omega)
              have hz522 : (nd2 + 1) + 2 * at0 ≤ nd + 2 * (at2 + 1) + 100000 * fa341 := (by omega)
              have hz523 : (nd2 + 1) + 2 * at0 ≤ nd + 2 * (at2 + 1) + 40 * (21 - ne) := (by omega)
              have hz524 : wr ≤ wr2 := (by omega)
              have hz525 : wr2 + at0 ≤ wr + (at2 + 1) := (by omega)
              have hz526 : lk ≤ (lk2 + 1) := (by omega)
              have hz527 : (lk2 + 1) ≤ 60 + 100 * fa341 := (by omega)
              have hz528 : at0 + 1 ≤ (at2 + 1) + fa341 := (by omega)
              have hz529 : nd2 ≤ (nd2 + 1) := (by omega)
              have hz530 : Kp B X494 wr2 T := hkp496
              have hz531 : If (fa341 = 0) (Low B X494 nd wr ∧ Frs K T wr2 X494 nd (nd2 + 1) 20000 [(nd2, (210 + (lk2 + 1) - (10 * ne + lk)))] ∧ kcl 1 (X494 9 nd2) = true) := (fun e => absurd e (by omega))
              have hP : va_P G.1 pCl (mW G h0 a (upd (upd (upd (upd (upd (upd (upd F 15 (nI fa341)) 16 pl502) 27 (nI (nd2 + 1))) 31 (nI wr2)) 64 (nI (at2 + 1))) 65 (nI ne)) 66 (nI (lk2 + 1))) (updA X494 2 K)) _ := hP
              have hD : va_D A (mW G h0 a (upd (upd (upd (upd (upd (upd (upd F 15 (nI fa341)) 16 pl502) 27 (nI (nd2 + 1))) 31 (nI wr2)) 64 (nI (at2 + 1))) 65 (nI ne)) 66 (nI (lk2 + 1))) (updA X494 2 K)) := mW_D hD
              exact W.iret (v := (nI nd2)) hx hb hr (fun t9 ht9 hW9 => ⟨⟨_, ((at2 + 1), fa341, pl502, (nd2 + 1), (lk2 + 1), wr2, nd2, X494), rfl, ⟨rfl, hz518, hz519, hz520, hz521, hz522, hz523, hz524, hz525, hz526, hz527, hz528, hz529, hz530, hz531⟩, by rw [ht9]; exact hP, hD⟩, hS.F ht9⟩) hS.2.2 dX12_chain_208
          · have e336 := e336
            refine lv_aload_n hx hb dX12_chain_31 rfl (lv_at hl 2 rfl) ?_
            have hP : va_P G.1 pCl (mW G h0 a (upd (upd (upd (upd (upd (upd (upd (upd (upd (upd F 15 (nI fa330)) 16 pl331) 27 (nI nd2)) 31 (nI wr2)) 64 (nI at2)) 65 (nI ne)) 66 (nI (lk2 + 1))) 15 (nI fa330)) 64 (nI at2)) 65 (nI ne)) (updA (updA X2 2 K) 2 K)) _ := mW_to (F := F) (l1 := [(15, (nI fa330)), (16, pl331), (27, (nI nd2)), (31, (nI wr2)), (64, (nI at2)), (65, (nI ne)), (66, (nI (lk2 + 1)))]) (l2 := [(15, (nI fa330)), (16, pl331), (27, (nI nd2)), (31, (nI wr2)), (64, (nI at2)), (65, (nI ne)), (66, (nI (lk2 + 1))), (15, (nI fa330)), (64, (nI at2)), (65, (nI ne))]) (V := [(nI fa330), pl331, (nI nd2), (nI wr2), (nI at2), (nI ne), (nI (lk2 + 1)), (nI fa330), pl331, (nI nd2), (nI wr2), (nI at2), (nI ne), (nI (lk2 + 1)), (nI fa330), (nI at2), (nI ne)]) rfl rfl (show (updA X2 2 K) = (updA (updA X2 2 K) 2 K) from updsA_eq2 (F := X2) (l1 := [(2, K)]) (l2 := [(2, K), (2, K)]) (V := [K, K, K]) rfl rfl) hP
            have hD : va_D A (mW G h0 a (upd (upd (upd (upd (upd (upd (upd (upd (upd (upd F 15 (nI fa330)) 16 pl331) 27 (nI nd2)) 31 (nI wr2)) 64 (nI at2)) 65 (nI ne)) 66 (nI (lk2 + 1))) 15 (nI fa330)) 64 (nI at2)) 65 (nI ne)) (updA (updA X2 2 K) 2 K)) := mW_D hD
            refine pc_V0 (G := G) (As := []) (rest := []) hx hb hml hown hq hE hX pX0_al hP hD hS hA hl.1 (R_deeper l G h0 a (upd (upd (upd (upd (upd (upd (upd F 15 (nI fa330)) 16 pl331) 27 (nI nd2)) 31 (nI wr2)) 64 (nI at2)) 65 (nI ne)) 66 (nI (lk2 + 1))) (updA X2 2 K) at2 T fa330 K ne (by omega) (by omega) hK (by omega) (by omega)) (gV pw_1637 pw_1638 pw_1639 pw_1523 pw_1611) hV_X12_deeper 0 9 rfl rfl rfl rfl (Nat.le_of_ble_eq_true rfl) dX12_chain_32 ⟨Nat.le_of_ble_eq_true rfl, Nat.le_of_ble_eq_true rfl⟩ ⟨(by show 4 + 1 ≤ (20 * n + 12); omega), (by show 8 + (1 + 11) + 103 ≤ (1000 * n + 40 * 12); omega)⟩ (fun v534 u532 H locs hw533 hP hD hS => ?_)
            obtain ⟨fa535, pl536⟩ := u532
            obtain ⟨hw533, h537, h538, h539, h540⟩ := hw533
            have h537 : fa330 ≤ fa535 := h537
            have h538 : fa535 ≤ 100 := h538
            have h539 : If (0 < fa330) (fa535 = fa330) := h539
            have h540 : If (ne ≤ 20) (ne + 1 ≤ 20 + fa535) := h540
            obtain rfl : v534 = none := hw533
            have hP : va_P G.1 pCl (mW G h0 a (upd (upd (upd (upd (upd (upd (upd F 15 (nI fa535)) 16 pl536) 27 (nI nd2)) 31 (nI wr2)) 64 (nI at2)) 65 (nI (ne + 1))) 66 (nI (lk2 + 1))) (updA X2 2 K)) _ := mW_to (F := F) (l1 := [(15, (nI fa330)), (16, pl331), (27, (nI nd2)), (31, (nI wr2)), (64, (nI at2)), (65, (nI ne)), (66, (nI (lk2 + 1))), (15, (nI fa535)), (16, pl536), (64, (nI at2)), (65, (nI (ne + 1)))]) (l2 := [(15, (nI fa535)), (16, pl536), (27, (nI nd2)), (31, (nI wr2)), (64, (nI at2)), (65, (nI (ne + 1))), (66, (nI (lk2 + 1)))]) (V := [(nI fa535), pl536, (nI nd2), (nI wr2), (nI at2), (nI (ne + 1)), (nI (lk2 + 1)), (nI fa535), pl536, (nI at2), (nI (ne + 1)), (nI fa535), pl536, (nI nd2), (nI wr2), (nI at2), (nI (ne + 1)), (nI (lk2 + 1))]) rfl rfl (show (updA (updA X2 2 K) 2 K) = (updA X2 2 K) from updsA_eq2 (F := X2) (l1 := [(2, K), (2, K)]) (l2 := [(2, K)]) (V := [K, K, K]) rfl rfl) hP
            have hD : va_D A (mW G h0 a (upd (upd (upd (upd (upd (upd (upd F 15 (nI fa535)) 16 pl536) 27 (nI nd2)) 31 (nI wr2)) 64 (nI at2)) 65 (nI (ne + 1))) 66 (nI (lk2 + 1))) (updA X2 2 K)) := mW_D hD
            refine W.widen (k := 0) (n := 0) (Nat.le_of_ble_eq_true rfl) (Nat.le_of_ble_eq_true rfl) ?_
            refine W.eq (g2 := F0 m 35 ls []) rfl ?_
            have n541 := h539 e336
            replace n541 := n541.symm
            subst n541
            refine lv_aload_n hx hb dX12_chain_35 rfl (lv_at hl 2 rfl) ?_
            refine lv_dup hx hb dX12_chain_36 rfl ?_
            refine r_get (v := .int (nI at2)) hx hb hown hq hE hP 64 343 tFX12_64 (by decide) pw_1592 rfl dX12_chain_37 ?_
            refine lv_iconst (v := 1) hx hb dX12_chain_40 (by decide) ?_
            refine lv_iadd hx hb dX12_chain_41 ?_
            refine lv_topi (fun x543 e544 => ?_)
            obtain rfl : x543 = nI (at2 + 1) := e544.trans (nI_add (at2) (1))
            refine r_put (v := (nI (at2 + 1))) (ty := .int) hx hb hown hq hE hP hD hS 64 343 tFX12_64 (by decide) pw_1592 (by decide) rfl rfl (ms_64 a _ _) dX12_chain_42 (fun H locs hP hD hS => ?_)
            refine lv_aload_n hx hb dX12_chain_45 rfl (lv_at hl 2 rfl) ?_
            refine lv_bipush (v := 15) hx hb dX12_chain_46 (by decide) ?_
            refine lv_aload_n hx hb dX12_chain_48 rfl (lv_at hl 2 rfl) ?_
            refine r_get (v := .ref (a 10)) hx hb hown hq hE hP 18 41 tFX12_18 (by decide) pw_1440 rfl dX12_chain_49 ?_
            refine lv_iload_n hx hb dX12_chain_52 rfl (lv_at hl 1 rfl) ?_
            refine r_ldi (f := (X2 10)) (j := r2) hx hb hE hP 10 (ma_10 G a _) rfl (by omega) (by decide) dX12_chain_53 ?_
            refine lv_topi (fun x545 e546 => ?_)
            refine lv_aload_n hx hb dX12_chain_54 rfl (lv_at hl 2 rfl) ?_
            refine r_get (v := .int (nI (at2 + 1))) hx hb hown hq hE hP 64 343 tFX12_64 (by decide) pw_1592 rfl dX12_chain_55 ?_
            refine lv_iconst (v := 1) hx hb dX12_chain_58 (by decide) ?_
            refine lv_isub hx hb dX12_chain_59 ?_
            refine lv_topi (fun x547 e548 => ?_)
            obtain rfl : x547 = nI ((at2 + 1) - 1) := e548.trans (nI_subN (a := 1) (b := (at2 + 1)) (by omega))
            refine lv_iload_n hx hb dX12_chain_60 rfl (lv_at hl 1 rfl) ?_
            refine lv_aload_n hx hb dX12_chain_61 rfl (lv_at hl 2 rfl) ?_
            have hP : va_P G.1 pCl (mW G h0 a (upd (upd (upd (upd (upd (upd (upd (upd (upd F 15 (nI fa330)) 16 pl536) 27 (nI nd2)) 31 (nI wr2)) 64 (nI (at2 + 1))) 65 (nI (ne + 1))) 66 (nI (lk2 + 1))) 15 (nI fa330)) 64 (nI (at2 + 1))) (updA (updA X2 2 K) 2 K)) _ := hP
            have hD : va_D A (mW G h0 a (upd (upd (upd (upd (upd (upd (upd (upd (upd F 15 (nI fa330)) 16 pl536) 27 (nI nd2)) 31 (nI wr2)) 64 (nI (at2 + 1))) 65 (nI (ne + 1))) 66 (nI (lk2 + 1))) 15 (nI fa330)) 64 (nI (at2 + 1))) (updA (updA X2 2 K) 2 K)) := mW_D hD
            refine pc_V0 (G := G) (As := []) (rest := [.int (nI r2), .int (nI ((at2 + 1) - 1)), .int x545, .int 15, .ref h0]) hx hb hml hown hq hE hX pX0_al hP hD hS hA hl.1 (RF_choice l G h0 a (upd (upd (upd (upd (upd (upd (upd F 15 (nI fa330)) 16 pl536) 27 (nI nd2)) 31 (nI wr2)) 64 (nI (at2 + 1))) 65 (nI (ne + 1))) 66 (nI (lk2 + 1))) (updA X2 2 K) (at2 + 1) T fa330 K (by omega) (by omega) hK (by omega) e336) (gV pw_1640 pw_1641 pw_1642 pw_1523 pw_1656) hV_X12_choice 0 9 rfl rfl rfl rfl (Nat.le_of_ble_eq_true rfl) dX12_chain_62 ⟨Nat.le_of_ble_eq_true rfl, Nat.le_of_ble_eq_true rfl⟩ ⟨(by show 16 + 1 ≤ (20 * n + 12); omega), (by show 8 + (4 + 11) + 405 ≤ (1000 * n + 40 * 12); omega)⟩ (fun v551 u549 H locs hw550 hP hD hS => ?_)
            obtain rfl : v551 = some (.int 0) := hw550
            have hP : va_P G.1 pCl (mW G h0 a (upd (upd (upd (upd (upd (upd (upd F 15 (nI fa330)) 16 pl536) 27 (nI nd2)) 31 (nI wr2)) 64 (nI (at2 + 1))) 65 (nI (ne + 1))) 66 (nI (lk2 + 1))) (updA X2 2 K)) _ := mW_to (F := F) (l1 := [(15, (nI fa330)), (16, pl536), (27, (nI nd2)), (31, (nI wr2)), (64, (nI (at2 + 1))), (65, (nI (ne + 1))), (66, (nI (lk2 + 1))), (15, (nI fa330)), (64, (nI (at2 + 1)))]) (l2 := [(15, (nI fa330)), (16, pl536), (27, (nI nd2)), (31, (nI wr2)), (64, (nI (at2 + 1))), (65, (nI (ne + 1))), (66, (nI (lk2 + 1)))]) (V := [(nI fa330), pl536, (nI nd2), (nI wr2), (nI (at2 + 1)), (nI (ne + 1)), (nI (lk2 + 1)), (nI fa330), (nI (at2 + 1)), (nI fa330), pl536, (nI nd2), (nI wr2), (nI (at2 + 1)), (nI (ne + 1)), (nI (lk2 + 1))]) rfl rfl (show (updA (updA X2 2 K) 2 K) = (updA X2 2 K) from updsA_eq2 (F := X2) (l1 := [(2, K), (2, K)]) (l2 := [(2, K)]) (V := [K, K, K]) rfl rfl) hP
            have hD : va_D A (mW G h0 a (upd (upd (upd (upd (upd (upd (upd F 15 (nI fa330)) 16 pl536) 27 (nI nd2)) 31 (nI wr2)) 64 (nI (at2 + 1))) 65 (nI (ne + 1))) 66 (nI (lk2 + 1))) (updA X2 2 K)) := mW_D hD
            refine W.widen (k := 0) (n := 0) (Nat.le_of_ble_eq_true rfl) (Nat.le_of_ble_eq_true rfl) ?_
            refine W.eq (g2 := F0 m 65 ls [.int 0, .int (nI r2), .int (nI ((at2 + 1) - 1)), .int x545, .int 15, .ref h0]) rfl ?_
            have hP : va_P G.1 pCl (mW G h0 a (upd (upd (upd (upd (upd (upd (upd (upd F 15 (nI fa330)) 16 pl536) 27 (nI nd2)) 31 (nI wr2)) 64 (nI (at2 + 1))) 65 (nI (ne + 1))) 66 (nI (lk2 + 1))) 27 (nI nd2)) (updA X2 2 K)) _ := mW_to (F := F) (l1 := [(15, (nI fa330)), (16, pl536), (27, (nI nd2)), (31, (nI wr2)), (64, (nI (at2 + 1))), (65, (nI (ne + 1))), (66, (nI (lk2 + 1)))]) (l2 := [(15, (nI fa330)), (16, pl536), (27, (nI nd2)), (31, (nI wr2)), (64, (nI (at2 + 1))), (65, (nI (ne + 1))), (66, (nI (lk2 + 1))), (27, (nI nd2))]) (V := [(nI fa330), pl536, (nI nd2), (nI wr2), (nI (at2 + 1)), (nI (ne + 1)), (nI (lk2 + 1)), (nI fa330), pl536, (nI nd2), (nI wr2), (nI (at2 + 1)), (nI (ne + 1)), (nI (lk2 + 1)), (nI nd2)]) rfl rfl rfl hP
            have hD : va_D A (mW G h0 a (upd (upd (upd (upd (upd (upd (upd (upd F 15 (nI fa330)) 16 pl536) 27 (nI nd2)) 31 (nI wr2)) 64 (nI (at2 + 1))) 65 (nI (ne + 1))) 66 (nI (lk2 + 1))) 27 (nI nd2)) (updA X2 2 K)) := mW_D hD
            refine pc_V0 (G := G) (As := [.int 15, .int x545, .int (nI ((at2 + 1) - 1)), .int (nI r2), .int 0]) (rest := []) hx hb hml hown hq hE hX pX0_al hP hD hS hA hl.1 (R_nodeB l G h0 a (upd (upd (upd (upd (upd (upd (upd F 15 (nI fa330)) 16 pl536) 27 (nI nd2)) 31 (nI wr2)) 64 (nI (at2 + 1))) 65 (nI (ne + 1))) 66 (nI (lk2 + 1))) X2 15 x545 (nI ((at2 + 1) - 1)) (nI r2) 0 nd2 K (by omega)) (gV pw_1650 pw_1651 pw_1652 pw_1523 pw_1589) hV_X12_node 0 9 rfl rfl rfl rfl (Nat.le_of_ble_eq_true rfl) dX12_chain_65 ⟨Nat.le_of_ble_eq_true rfl, Nat.le_of_ble_eq_true rfl⟩ ⟨(by show 2 + 1 ≤ (20 * n + 12); omega), (by show 8 + (7 + 11) + 60 ≤ (1000 * n + 40 * 12); omega)⟩ (fun v554 u552 H locs hw553 hP hD hS => ?_)
            obtain ⟨X555, rfl⟩ : ∃ z, z = u552 := ⟨_, rfl⟩
            obtain ⟨hw553, h556⟩ := hw553
            have h556 : NewN X2 X555 nd2 15 x545 (nI ((at2 + 1) - 1)) (nI r2) 0 := h556
            obtain rfl : v554 = some (.int (nI nd2)) := hw553
            have hP : va_P G.1 pCl (mW G h0 a (upd (upd (upd (upd (upd (upd (upd F 15 (nI fa330)) 16 pl536) 27 (nI (nd2 + 1))) 31 (nI wr2)) 64 (nI (at2 + 1))) 65 (nI (ne + 1))) 66 (nI (lk2 + 1))) (updA X555 2 K)) _ := mW_to (F := F) (l1 := [(15, (nI fa330)), (16, pl536), (27, (nI nd2)), (31, (nI wr2)), (64, (nI (at2 + 1))), (65, (nI (ne + 1))), (66, (nI (lk2 + 1))), (27, (nI (nd2 + 1)))]) (l2 := [(15, (nI fa330)), (16, pl536), (27, (nI (nd2 + 1))), (31, (nI wr2)), (64, (nI (at2 + 1))), (65, (nI (ne + 1))), (66, (nI (lk2 + 1)))]) (V := [(nI fa330), pl536, (nI (nd2 + 1)), (nI wr2), (nI (at2 + 1)), (nI (ne + 1)), (nI (lk2 + 1)), (nI (nd2 + 1)), (nI fa330), pl536, (nI (nd2 + 1)), (nI wr2), (nI (at2 + 1)), (nI (ne + 1)), (nI (lk2 + 1))]) rfl rfl rfl hP
            have hD : va_D A (mW G h0 a (upd (upd (upd (upd (upd (upd (upd F 15 (nI fa330)) 16 pl536) 27 (nI (nd2 + 1))) 31 (nI wr2)) 64 (nI (at2 + 1))) 65 (nI (ne + 1))) 66 (nI (lk2 + 1))) (updA X555 2 K)) := mW_D hD
            refine W.widen (k := 0) (n := 0) (Nat.le_of_ble_eq_true rfl) (Nat.le_of_ble_eq_true rfl) ?_
            refine W.eq (g2 := F0 m 68 ls [.int (nI nd2)]) rfl ?_
            have hkp557 : Kp B X555 wr2 T := (Kp.new hkp2 h556)
            refine lv_istore_n (lv' := [(1, .int (nI nd2)), (2, .int 1), (0, .ref h0)]) hx hb dX12_chain_68 rfl hl (by decide) rfl (fun ls hl => ?_)
            refine lv_aload_n hx hb dX12_chain_69 rfl (lv_at hl 2 rfl) ?_
            refine lv_bipush (v := 93) hx hb dX12_chain_70 (by decide) ?_
            have hP : va_P G.1 pCl (mW G h0 a (upd (upd (upd (upd (upd (upd (upd (upd (upd F 15 (nI fa330)) 16 pl536) 27 (nI (nd2 + 1))) 31 (nI wr2)) 64 (nI (at2 + 1))) 65 (nI (ne + 1))) 66 (nI (lk2 + 1))) 15 (nI fa330)) 64 (nI (at2 + 1))) (updA (updA X555 2 K) 2 K)) _ := mW_to (F := F) (l1 := [(15, (nI fa330)), (16, pl536), (27, (nI (nd2 + 1))), (31, (nI wr2)), (64, (nI (at2 + 1))), (65, (nI (ne + 1))), (66, (nI (lk2 + 1)))]) (l2 := [(15, (nI fa330)), (16, pl536), (27, (nI (nd2 + 1))), (31, (nI wr2)), (64, (nI (at2 + 1))), (65, (nI (ne + 1))), (66, (nI (lk2 + 1))), (15, (nI fa330)), (64, (nI (at2 + 1)))]) (V := [(nI fa330), pl536, (nI (nd2 + 1)), (nI wr2), (nI (at2 + 1)), (nI (ne + 1)), (nI (lk2 + 1)), (nI fa330), pl536, (nI (nd2 + 1)), (nI wr2), (nI (at2 + 1)), (nI (ne + 1)), (nI (lk2 + 1)), (nI fa330), (nI (at2 + 1))]) rfl rfl (show (updA X555 2 K) = (updA (updA X555 2 K) 2 K) from updsA_eq2 (F := X555) (l1 := [(2, K)]) (l2 := [(2, K), (2, K)]) (V := [K, K, K]) rfl rfl) hP
            have hD : va_D A (mW G h0 a (upd (upd (upd (upd (upd (upd (upd (upd (upd F 15 (nI fa330)) 16 pl536) 27 (nI (nd2 + 1))) 31 (nI wr2)) 64 (nI (at2 + 1))) 65 (nI (ne + 1))) 66 (nI (lk2 + 1))) 15 (nI fa330)) 64 (nI (at2 + 1))) (updA (updA X555 2 K) 2 K)) := mW_D hD
            refine pc_V0 (G := G) (As := [.int 93]) (rest := []) hx hb hml hown hq hE hX pX0_al hP hD hS hA hl.1 (R_take l G h0 a (upd (upd (upd (upd (upd (upd (upd F 15 (nI fa330)) 16 pl536) 27 (nI (nd2 + 1))) 31 (nI wr2)) 64 (nI (at2 + 1))) 65 (nI (ne + 1))) 66 (nI (lk2 + 1))) (updA X555 2 K) (at2 + 1) T fa330 K 93 (by omega) (by omega) hK (by omega) (by decide) (by decide)) (gV pw_1614 pw_1615 pw_1616 pw_1523 pw_1601) hV_X12_take 0 9 rfl rfl rfl rfl (Nat.le_of_ble_eq_true rfl) dX12_chain_72 ⟨Nat.le_of_ble_eq_true rfl, Nat.le_of_ble_eq_true rfl⟩ ⟨(by show 4 + 1 ≤ (20 * n + 12); omega), (by show 8 + (2 + 11) + 103 ≤ (1000 * n + 40 * 12); omega)⟩ (fun v560 u558 H locs hw559 hP hD hS => ?_)
            obtain ⟨at561, fa562, pl563⟩ := u558
            obtain ⟨hw559, h564, h565, h566, h567, h568, h569, h570, h571⟩ := hw559
            have h564 : (at2 + 1) ≤ at561 := h564
            have h565 : at561 ≤ T := h565
            have h566 : fa330 ≤ fa562 := h566
            have h567 : fa562 ≤ 100 := h567
            have h568 : If (0 < fa330) (at561 = (at2 + 1) ∧ fa562 = fa330) := h568
            have h569 : at561 ≤ (at2 + 1) + 1 := h569
            have h570 : (at2 + 1) + 1 ≤ at561 + fa562 := h570
            have h571 : If (fa562 = 0) (K (at2 + 1) = 93) := h571
            obtain rfl : v560 = none := hw559
            have hP : va_P G.1 pCl (mW G h0 a (upd (upd (upd (upd (upd (upd (upd F 15 (nI fa562)) 16 pl563) 27 (nI (nd2 + 1))) 31 (nI wr2)) 64 (nI at561)) 65 (nI (ne + 1))) 66 (nI (lk2 + 1))) (updA X555 2 K)) _ := mW_to (F := F) (l1 := [(15, (nI fa330)), (16, pl536), (27, (nI (nd2 + 1))), (31, (nI wr2)), (64, (nI (at2 + 1))), (65, (nI (ne + 1))), (66, (nI (lk2 + 1))), (15, (nI fa562)), (16, pl563), (64, (nI at561))]) (l2 := [(15, (nI fa562)), (16, pl563), (27, (nI (nd2 + 1))), (31, (nI wr2)), (64, (nI at561)), (65, (nI (ne + 1))), (66, (nI (lk2 + 1)))]) (V := [(nI fa562), pl563, (nI (nd2 + 1)), (nI wr2), (nI at561), (nI (ne + 1)), (nI (lk2 + 1)), (nI fa562), pl563, (nI at561), (nI fa562), pl563, (nI (nd2 + 1)), (nI wr2), (nI at561), (nI (ne + 1)), (nI (lk2 + 1))]) rfl rfl (show (updA (updA X555 2 K) 2 K) = (updA X555 2 K) from updsA_eq2 (F := X555) (l1 := [(2, K), (2, K)]) (l2 := [(2, K)]) (V := [K, K, K]) rfl rfl) hP
            have hD : va_D A (mW G h0 a (upd (upd (upd (upd (upd (upd (upd F 15 (nI fa562)) 16 pl563) 27 (nI (nd2 + 1))) 31 (nI wr2)) 64 (nI at561)) 65 (nI (ne + 1))) 66 (nI (lk2 + 1))) (updA X555 2 K)) := mW_D hD
            refine W.widen (k := 0) (n := 0) (Nat.le_of_ble_eq_true rfl) (Nat.le_of_ble_eq_true rfl) ?_
            refine W.eq (g2 := F0 m 75 ls []) rfl ?_
            obtain ⟨n573, n572⟩ := h568 e336
            replace n573 := n573.symm
            subst n573
            replace n572 := n572.symm
            subst n572
            refine lv_aload_n hx hb dX12_chain_75 rfl (lv_at hl 2 rfl) ?_
            refine lv_dup hx hb dX12_chain_76 rfl ?_
            refine r_get (v := .int (nI (ne + 1))) hx hb hown hq hE hP 65 366 tFX12_65 (by decide) pw_1612 rfl dX12_chain_77 ?_
            refine lv_iconst (v := 1) hx hb dX12_chain_80 (by decide) ?_
            refine lv_isub hx hb dX12_chain_81 ?_
            refine lv_topi (fun x574 e575 => ?_)
            obtain rfl : x574 = nI ((ne + 1) - 1) := e575.trans (nI_subN (a := 1) (b := (ne + 1)) (by omega))
            refine r_put (v := (nI ((ne + 1) - 1))) (ty := .int) hx hb hown hq hE hP hD hS 65 366 tFX12_65 (by decide) pw_1612 (by decide) rfl rfl (ms_65 a _ _) dX12_chain_82 (fun H locs hP hD hS => ?_)
            refine lv_goto (tgt := 7) hx hb dX12_chain_85 (by decide) ?_
            refine lv_iload_n hx hb dX12_chain_7 rfl (lv_at hl 1 rfl) ?_
            refine lv_if_eq (tgt := 207) hx hb dX12_chain_8 (by decide) (fun c576 => absurd c576 (by decide)) (fun c576 => ?_)
            refine lv_aload_n hx hb dX12_chain_11 rfl (lv_at hl 2 rfl) ?_
            refine r_get (v := .int (nI fa330)) hx hb hown hq hE hP 15 350 tFX12_15 (by decide) pw_1594 rfl dX12_chain_12 ?_
            refine lv_if_ne (tgt := 207) hx hb dX12_chain_15 (by decide) (fun c577 => ?_) (fun c577 => (by have n578 : fa330 = 0 := (nI_eq (a := fa330) (b := 0) (by omega) (by omega)).mp c577; omega))
            refine lv_iload_n hx hb dX12_chain_207 rfl (lv_at hl 0 rfl) ?_
            have hz579 : at0 ≤ (at2 + 1) := (by omega)
            have hz580 : (at2 + 1) ≤ T := (by omega)
            have hz581 : fa330 ≤ 100 := (by omega)
            have hz582 : nd ≤ (nd2 + 1) := (by omega)
            have hz583 : (nd2 + 1) + 2 * at0 ≤ nd + 2 * (at2 + 1) + 100000 * fa330 := (by omega)
            have hz584 : (nd2 + 1) + 2 * at0 ≤ nd + 2 * (at2 + 1) + 40 * (21 - ne) := (by omega)
            have hz585 : wr ≤ wr2 := (by omega)
            have hz586 : wr2 + at0 ≤ wr + (at2 + 1) := (by omega)
            have hz587 : lk ≤ (lk2 + 1) := (by omega)
            have hz588 : (lk2 + 1) ≤ 60 + 100 * fa330 := (by omega)
            have hz589 : at0 + 1 ≤ (at2 + 1) + fa330 := (by omega)
            have hz590 : nd2 ≤ (nd2 + 1) := (by omega)
            have hz591 : Kp B X555 wr2 T := hkp557
            have hz592 : If (fa330 = 0) (Low B X555 nd wr ∧ Frs K T wr2 X555 nd (nd2 + 1) 20000 [(nd2, (210 + (lk2 + 1) - (10 * ne + lk)))] ∧ kcl 1 (X555 9 nd2) = true) := (fun e => absurd e (by omega))
            have hP : va_P G.1 pCl (mW G h0 a (upd (upd (upd (upd (upd (upd (upd F 15 (nI fa330)) 16 pl563) 27 (nI (nd2 + 1))) 31 (nI wr2)) 64 (nI (at2 + 1))) 65 (nI ne)) 66 (nI (lk2 + 1))) (updA X555 2 K)) _ := hP
            have hD : va_D A (mW G h0 a (upd (upd (upd (upd (upd (upd (upd F 15 (nI fa330)) 16 pl563) 27 (nI (nd2 + 1))) 31 (nI wr2)) 64 (nI (at2 + 1))) 65 (nI ne)) 66 (nI (lk2 + 1))) (updA X555 2 K)) := mW_D hD
            exact W.iret (v := (nI nd2)) hx hb hr (fun t9 ht9 hW9 => ⟨⟨_, ((at2 + 1), fa330, pl563, (nd2 + 1), (lk2 + 1), wr2, nd2, X555), rfl, ⟨rfl, hz579, hz580, hz581, hz582, hz583, hz584, hz585, hz586, hz587, hz588, hz589, hz590, hz591, hz592⟩, by rw [ht9]; exact hP, hD⟩, hS.F ht9⟩) hS.2.2 dX12_chain_208
    have hP : va_P G.1 pCl (mW G h0 a (upd (upd (upd (upd (upd (upd (upd F 15 0) 16 pl8) 27 (nI nd9)) 31 (nI wr11)) 64 (nI at6)) 65 (nI ne)) 66 (nI lk10)) (updA X13 2 K)) _ := hP
    have hD : va_D A (mW G h0 a (upd (upd (upd (upd (upd (upd (upd F 15 0) 16 pl8) 27 (nI nd9)) 31 (nI wr11)) 64 (nI at6)) 65 (nI ne)) 66 (nI lk10)) (updA X13 2 K)) := mW_D hD
    exact loop_o (T + 1) at6 nd9 wr11 lk10 pl8 X13 r12 _ _ _ (by omega) (by omega) (by omega) (by omega) (by omega) (by omega) (by omega) (by omega) (by omega) hkp28 hlo33 (by omega) (Frs.up hf31 (by omega)) hc32 hP hD hS (lv_sub hl [0, 1, 2] rfl)
  · have e29 := e29
    refine lv_istore_n (lv' := [(1, .int (nI r12)), (0, .ref h0)]) hx hb dX12_chain_4 rfl hl (by decide) rfl (fun ls hl => ?_)
    refine lv_iconst (v := 1) hx hb dX12_chain_5 (by decide) ?_
    refine lv_istore_n (lv' := [(2, .int 1), (1, .int (nI r12)), (0, .ref h0)]) hx hb dX12_chain_6 rfl hl (by decide) rfl (fun ls hl => ?_)
    refine lv_iload_n hx hb dX12_chain_7 rfl (lv_at hl 0 rfl) ?_
    refine lv_if_eq (tgt := 207) hx hb dX12_chain_8 (by decide) (fun c593 => absurd c593 (by decide)) (fun c593 => ?_)
    refine lv_aload_n hx hb dX12_chain_11 rfl (lv_at hl 2 rfl) ?_
    refine r_get (v := .int (nI fa7)) hx hb hown hq hE hP 15 350 tFX12_15 (by decide) pw_1594 rfl dX12_chain_12 ?_
    refine lv_if_ne (tgt := 207) hx hb dX12_chain_15 (by decide) (fun c594 => ?_) (fun c594 => (by have n595 : fa7 = 0 := (nI_eq (a := fa7) (b := 0) (by omega) (by omega)).mp c594; omega))
    refine lv_iload_n hx hb dX12_chain_207 rfl (lv_at hl 1 rfl) ?_
    have hz596 : at0 ≤ at6 := (by omega)
    have hz597 : at6 ≤ T := (by omega)
    have hz598 : fa7 ≤ 100 := (by omega)
    have hz599 : nd ≤ nd9 := (by omega)
    have hz600 : nd9 + 2 * at0 ≤ nd + 2 * at6 + 100000 * fa7 := (by omega)
    have hz601 : nd9 + 2 * at0 ≤ nd + 2 * at6 + 40 * (21 - ne) := (by omega)
    have hz602 : wr ≤ wr11 := (by omega)
    have hz603 : wr11 + at0 ≤ wr + at6 := (by omega)
    have hz604 : lk ≤ lk10 := (by omega)
    have hz605 : lk10 ≤ 60 + 100 * fa7 := (by omega)
    have hz606 : at0 + 1 ≤ at6 + fa7 := (by omega)
    have hz607 : r12 ≤ nd9 := (by omega)
    have hz608 : Kp B X13 wr11 T := hkp28
    have hz609 : If (fa7 = 0) (Low B X13 nd wr ∧ Frs K T wr11 X13 nd nd9 20000 [(r12, (210 + lk10 - (10 * ne + lk)))] ∧ kcl 1 (X13 9 r12) = true) := (fun e => absurd e (by omega))
    have hP : va_P G.1 pCl (mW G h0 a (upd (upd (upd (upd (upd (upd (upd F 15 (nI fa7)) 16 pl8) 27 (nI nd9)) 31 (nI wr11)) 64 (nI at6)) 65 (nI ne)) 66 (nI lk10)) (updA X13 2 K)) _ := hP
    have hD : va_D A (mW G h0 a (upd (upd (upd (upd (upd (upd (upd F 15 (nI fa7)) 16 pl8) 27 (nI nd9)) 31 (nI wr11)) 64 (nI at6)) 65 (nI ne)) 66 (nI lk10)) (updA X13 2 K)) := mW_D hD
    exact W.iret (v := (nI r12)) hx hb hr (fun t9 ht9 hW9 => ⟨⟨_, (at6, fa7, pl8, nd9, lk10, wr11, r12, X13), rfl, ⟨rfl, hz596, hz597, hz598, hz599, hz600, hz601, hz602, hz603, hz604, hz605, hz606, hz607, hz608, hz609⟩, by rw [ht9]; exact hP, hD⟩, hS.F ht9⟩) hS.2.2 dX12_chain_208

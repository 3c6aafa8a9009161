theorem dX12_newHere_0 : decode cX12_newHere 0 = .ok (.aload_n 0, 1) := by decide +kernel
theorem dX12_newHere_1 : decode cX12_newHere 1 = .ok (.getfield 350, 3) := by decide +kernel
theorem dX12_newHere_4 : decode cX12_newHere 4 = .ok (.ifCond .ne 15, 3) := by decide +kernel
theorem dX12_newHere_7 : decode cX12_newHere 7 = .ok (.aload_n 0, 1) := by decide +kernel
theorem dX12_newHere_8 : decode cX12_newHere 8 = .ok (.invokevirtual 402, 3) := by decide +kernel
theorem dX12_newHere_11 : decode cX12_newHere 11 = .ok (.ifCond .ne 8, 3) := by decide +kernel
theorem dX12_newHere_19 : decode cX12_newHere 19 = .ok (.aload_n 0, 1) := by decide +kernel
theorem dX12_newHere_20 : decode cX12_newHere 20 = .ok (.getfield 350, 3) := by decide +kernel
theorem dX12_newHere_23 : decode cX12_newHere 23 = .ok (.ifCond .le 5, 3) := by decide +kernel
theorem dX12_newHere_28 : decode cX12_newHere 28 = .ok (.aload_n 0, 1) := by decide +kernel
theorem dX12_newHere_29 : decode cX12_newHere 29 = .ok (.getfield 343, 3) := by decide +kernel
theorem dX12_newHere_32 : decode cX12_newHere 32 = .ok (.istore_n 2, 1) := by decide +kernel
theorem dX12_newHere_33 : decode cX12_newHere 33 = .ok (.aload_n 0, 1) := by decide +kernel
theorem dX12_newHere_34 : decode cX12_newHere 34 = .ok (.dup, 1) := by decide +kernel
theorem dX12_newHere_35 : decode cX12_newHere 35 = .ok (.getfield 343, 3) := by decide +kernel
theorem dX12_newHere_38 : decode cX12_newHere 38 = .ok (.iconst 1, 1) := by decide +kernel
theorem dX12_newHere_39 : decode cX12_newHere 39 = .ok (.iadd, 1) := by decide +kernel
theorem dX12_newHere_40 : decode cX12_newHere 40 = .ok (.putfield 343, 3) := by decide +kernel
theorem dX12_newHere_43 : decode cX12_newHere 43 = .ok (.aload_n 0, 1) := by decide +kernel
theorem dX12_newHere_44 : decode cX12_newHere 44 = .ok (.getfield 16, 3) := by decide +kernel
theorem dX12_newHere_47 : decode cX12_newHere 47 = .ok (.iload_n 2, 1) := by decide +kernel
theorem dX12_newHere_48 : decode cX12_newHere 48 = .ok (.iaload, 1) := by decide +kernel
theorem dX12_newHere_49 : decode cX12_newHere 49 = .ok (.iconst 1, 1) := by decide +kernel
theorem dX12_newHere_50 : decode cX12_newHere 50 = .ok (.if_icmp .ne 53, 3) := by decide +kernel
theorem dX12_newHere_103 : decode cX12_newHere 103 = .ok (.aload_n 0, 1) := by decide +kernel
theorem dX12_newHere_104 : decode cX12_newHere 104 = .ok (.getfield 399, 3) := by decide +kernel
theorem dX12_newHere_107 : decode cX12_newHere 107 = .ok (.istore_n 3, 1) := by decide +kernel
theorem dX12_newHere_108 : decode cX12_newHere 108 = .ok (.aload_n 0, 1) := by decide +kernel
theorem dX12_newHere_109 : decode cX12_newHere 109 = .ok (.dup, 1) := by decide +kernel
theorem dX12_newHere_110 : decode cX12_newHere 110 = .ok (.getfield 399, 3) := by decide +kernel
theorem dX12_newHere_113 : decode cX12_newHere 113 = .ok (.iconst 1, 1) := by decide +kernel
theorem dX12_newHere_114 : decode cX12_newHere 114 = .ok (.iadd, 1) := by decide +kernel
theorem dX12_newHere_115 : decode cX12_newHere 115 = .ok (.putfield 399, 3) := by decide +kernel
theorem dX12_newHere_118 : decode cX12_newHere 118 = .ok (.aload_n 0, 1) := by decide +kernel
theorem dX12_newHere_119 : decode cX12_newHere 119 = .ok (.getfield 68, 3) := by decide +kernel
theorem dX12_newHere_122 : decode cX12_newHere 122 = .ok (.iload_n 3, 1) := by decide +kernel
theorem dX12_newHere_123 : decode cX12_newHere 123 = .ok (.iload_n 2, 1) := by decide +kernel
theorem dX12_newHere_124 : decode cX12_newHere 124 = .ok (.iastore, 1) := by decide +kernel
theorem dX12_newHere_125 : decode cX12_newHere 125 = .ok (.aload_n 0, 1) := by decide +kernel
theorem dX12_newHere_126 : decode cX12_newHere 126 = .ok (.getfield 71, 3) := by decide +kernel
theorem dX12_newHere_129 : decode cX12_newHere 129 = .ok (.iload_n 3, 1) := by decide +kernel
theorem dX12_newHere_130 : decode cX12_newHere 130 = .ok (.iconst 0, 1) := by decide +kernel
theorem dX12_newHere_131 : decode cX12_newHere 131 = .ok (.bastore, 1) := by decide +kernel
theorem dX12_newHere_132 : decode cX12_newHere 132 = .ok (.aload_n 0, 1) := by decide +kernel
theorem dX12_newHere_133 : decode cX12_newHere 133 = .ok (.getfield 350, 3) := by decide +kernel
theorem dX12_newHere_136 : decode cX12_newHere 136 = .ok (.ifCond .ne 17, 3) := by decide +kernel
theorem dX12_newHere_139 : decode cX12_newHere 139 = .ok (.aload_n 0, 1) := by decide +kernel
theorem dX12_newHere_140 : decode cX12_newHere 140 = .ok (.invokevirtual 381, 3) := by decide +kernel
theorem dX12_newHere_143 : decode cX12_newHere 143 = .ok (.bipush 91, 2) := by decide +kernel
theorem dX12_newHere_145 : decode cX12_newHere 145 = .ok (.if_icmp .eq 8, 3) := by decide +kernel
theorem dX12_newHere_153 : decode cX12_newHere 153 = .ok (.aload_n 0, 1) := by decide +kernel
theorem dX12_newHere_154 : decode cX12_newHere 154 = .ok (.invokevirtual 441, 3) := by decide +kernel
theorem dX12_newHere_157 : decode cX12_newHere 157 = .ok (.aload_n 0, 1) := by decide +kernel
theorem dX12_newHere_158 : decode cX12_newHere 158 = .ok (.bipush 91, 2) := by decide +kernel
theorem dX12_newHere_160 : decode cX12_newHere 160 = .ok (.invokevirtual 369, 3) := by decide +kernel
theorem dX12_newHere_163 : decode cX12_newHere 163 = .ok (.aload_n 0, 1) := by decide +kernel
theorem dX12_newHere_164 : decode cX12_newHere 164 = .ok (.bipush 10, 2) := by decide +kernel
theorem dX12_newHere_166 : decode cX12_newHere 166 = .ok (.iload_n 1, 1) := by decide +kernel
theorem dX12_newHere_167 : decode cX12_newHere 167 = .ok (.iload_n 2, 1) := by decide +kernel
theorem dX12_newHere_168 : decode cX12_newHere 168 = .ok (.aload_n 0, 1) := by decide +kernel
theorem dX12_newHere_169 : decode cX12_newHere 169 = .ok (.invokevirtual 447, 3) := by decide +kernel
theorem dX12_newHere_172 : decode cX12_newHere 172 = .ok (.iload_n 3, 1) := by decide +kernel
theorem dX12_newHere_173 : decode cX12_newHere 173 = .ok (.invokevirtual 428, 3) := by decide +kernel
theorem dX12_newHere_176 : decode cX12_newHere 176 = .ok (.istore 4, 2) := by decide +kernel
theorem dX12_newHere_178 : decode cX12_newHere 178 = .ok (.aload_n 0, 1) := by decide +kernel
theorem dX12_newHere_179 : decode cX12_newHere 179 = .ok (.bipush 93, 2) := by decide +kernel
theorem dX12_newHere_181 : decode cX12_newHere 181 = .ok (.invokevirtual 369, 3) := by decide +kernel
theorem dX12_newHere_184 : decode cX12_newHere 184 = .ok (.aload_n 0, 1) := by decide +kernel
theorem dX12_newHere_185 : decode cX12_newHere 185 = .ok (.dup, 1) := by decide +kernel
theorem dX12_newHere_186 : decode cX12_newHere 186 = .ok (.getfield 366, 3) := by decide +kernel
theorem dX12_newHere_189 : decode cX12_newHere 189 = .ok (.iconst 1, 1) := by decide +kernel
theorem dX12_newHere_190 : decode cX12_newHere 190 = .ok (.isub, 1) := by decide +kernel
theorem dX12_newHere_191 : decode cX12_newHere 191 = .ok (.putfield 366, 3) := by decide +kernel
theorem dX12_newHere_194 : decode cX12_newHere 194 = .ok (.iload 4, 2) := by decide +kernel
theorem dX12_newHere_196 : decode cX12_newHere 196 = .ok (.ireturn, 1) := by decide +kernel
theorem dX12_newHere_148 : decode cX12_newHere 148 = .ok (.aload_n 0, 1) := by decide +kernel
theorem dX12_newHere_149 : decode cX12_newHere 149 = .ok (.iconst 1, 1) := by decide +kernel
theorem dX12_newHere_150 : decode cX12_newHere 150 = .ok (.invokevirtual 356, 3) := by decide +kernel
theorem dX12_newHere_53 : decode cX12_newHere 53 = .ok (.aload_n 0, 1) := by decide +kernel
theorem dX12_newHere_54 : decode cX12_newHere 54 = .ok (.bipush 40, 2) := by decide +kernel
theorem dX12_newHere_56 : decode cX12_newHere 56 = .ok (.invokevirtual 360, 3) := by decide +kernel
theorem dX12_newHere_59 : decode cX12_newHere 59 = .ok (.ifCond .eq 44, 3) := by decide +kernel
theorem dX12_newHere_62 : decode cX12_newHere 62 = .ok (.aload_n 0, 1) := by decide +kernel
theorem dX12_newHere_63 : decode cX12_newHere 63 = .ok (.invokevirtual 441, 3) := by decide +kernel
theorem dX12_newHere_66 : decode cX12_newHere 66 = .ok (.aload_n 0, 1) := by decide +kernel
theorem dX12_newHere_67 : decode cX12_newHere 67 = .ok (.dup, 1) := by decide +kernel
theorem dX12_newHere_68 : decode cX12_newHere 68 = .ok (.getfield 343, 3) := by decide +kernel
theorem dX12_newHere_71 : decode cX12_newHere 71 = .ok (.iconst 1, 1) := by decide +kernel
theorem dX12_newHere_72 : decode cX12_newHere 72 = .ok (.iadd, 1) := by decide +kernel
theorem dX12_newHere_73 : decode cX12_newHere 73 = .ok (.putfield 343, 3) := by decide +kernel
theorem dX12_newHere_76 : decode cX12_newHere 76 = .ok (.aload_n 0, 1) := by decide +kernel
theorem dX12_newHere_77 : decode cX12_newHere 77 = .ok (.bipush 41, 2) := by decide +kernel
theorem dX12_newHere_79 : decode cX12_newHere 79 = .ok (.invokevirtual 369, 3) := by decide +kernel
theorem dX12_newHere_82 : decode cX12_newHere 82 = .ok (.aload_n 0, 1) := by decide +kernel
theorem dX12_newHere_83 : decode cX12_newHere 83 = .ok (.dup, 1) := by decide +kernel
theorem dX12_newHere_84 : decode cX12_newHere 84 = .ok (.getfield 366, 3) := by decide +kernel
theorem dX12_newHere_87 : decode cX12_newHere 87 = .ok (.iconst 1, 1) := by decide +kernel
theorem dX12_newHere_88 : decode cX12_newHere 88 = .ok (.isub, 1) := by decide +kernel
theorem dX12_newHere_89 : decode cX12_newHere 89 = .ok (.putfield 366, 3) := by decide +kernel
theorem dX12_newHere_92 : decode cX12_newHere 92 = .ok (.aload_n 0, 1) := by decide +kernel
theorem dX12_newHere_93 : decode cX12_newHere 93 = .ok (.bipush 9, 2) := by decide +kernel
theorem dX12_newHere_95 : decode cX12_newHere 95 = .ok (.iload_n 1, 1) := by decide +kernel
theorem dX12_newHere_96 : decode cX12_newHere 96 = .ok (.iload_n 2, 1) := by decide +kernel
theorem dX12_newHere_97 : decode cX12_newHere 97 = .ok (.iconst (-1), 1) := by decide +kernel
theorem dX12_newHere_98 : decode cX12_newHere 98 = .ok (.iconst (-1), 1) := by decide +kernel
theorem dX12_newHere_99 : decode cX12_newHere 99 = .ok (.invokevirtual 428, 3) := by decide +kernel
theorem dX12_newHere_102 : decode cX12_newHere 102 = .ok (.ireturn, 1) := by decide +kernel
theorem dX12_newHere_14 : decode cX12_newHere 14 = .ok (.aload_n 0, 1) := by decide +kernel
theorem dX12_newHere_15 : decode cX12_newHere 15 = .ok (.iconst 1, 1) := by decide +kernel
theorem dX12_newHere_16 : decode cX12_newHere 16 = .ok (.invokevirtual 356, 3) := by decide +kernel
theorem dX12_newHere_26 : decode cX12_newHere 26 = .ok (.iconst 0, 1) := by decide +kernel
theorem dX12_newHere_27 : decode cX12_newHere 27 = .ok (.ireturn, 1) := by decide +kernel
set_option maxHeartbeats 2000000 in
set_option maxRecDepth 100000 in
/-- newHere(first), no fault ahead -/
theorem RT_newHere (l : Launch) (G : pT) (h0 : Nat) (a : Nat → Nat) (F : Nat → Int32) (B : Nat → Nat → Int32) (at0 : Nat) (T : Nat) (n : Nat) (ne : Nat) (nd : Nat) (wr : Nat) (lk : Nat) (K : Nat → Int32) (fi : Nat) (hat : at0 ≤ T) (hT : T ≤ 5000) (hK : K T = 0 ∨ K T = 3) (hne : ne ≤ 20) (hnd : nd ≤ 2 * at0) (hwr : wr ≤ at0) (hlk : lk ≤ 60) (hy : tkRow (B 19) wr T) (hn : 21 ≤ n + ne) (hfi : fi ≤ T) (ihc : Pchoice l G (n - 1)) : PM l G pX0 yX12_newHere cX12_newHere 5 (some .int) ({ frames := (20 * n + 8), cells := 0, slots := 0, locals := (1000 * n + 40 * 8) }) [.ref h0, .int (nI fi)] (mW G h0 a (upd (upd (upd (upd (upd (upd F 15 0) 27 (nI nd)) 31 (nI wr)) 64 (nI at0)) 65 (nI ne)) 66 (nI lk)) (updA B 2 K)) (fun (v : Option Value) (u : Nat × Nat × Int32 × Nat × Nat × Nat × Nat × (Nat → Nat → Int32)) => v = some (.int (nI u.2.2.2.2.2.2.1)) ∧ (at0 ≤ u.1) ∧ (u.1 ≤ T) ∧ (u.2.1 ≤ 100) ∧ (nd ≤ u.2.2.2.1) ∧ (u.2.2.2.1 + 2 * at0 ≤ nd + 2 * u.1 + 100000 * u.2.1) ∧ (u.2.2.2.1 + 2 * at0 ≤ nd + 2 * u.1 + 40 * (21 - ne)) ∧ (wr ≤ u.2.2.2.2.2.1) ∧ (u.2.2.2.2.2.1 + at0 ≤ wr + u.1) ∧ (lk ≤ u.2.2.2.2.1) ∧ (u.2.2.2.2.1 ≤ 60 + 100 * u.2.1) ∧ (at0 + 1 ≤ u.1 + u.2.1) ∧ (u.2.2.2.2.2.2.1 ≤ u.2.2.2.1) ∧ (Kp B u.2.2.2.2.2.2.2 u.2.2.2.2.2.1 T) ∧ (If (u.2.1 = 0) (Low B u.2.2.2.2.2.2.2 nd wr ∧ Frs K T u.2.2.2.2.2.1 u.2.2.2.2.2.2.2 nd u.2.2.2.1 20000 [(u.2.2.2.2.2.2.1, (210 + u.2.2.2.2.1 - (10 * ne + lk)))] ∧ kcl 1 (u.2.2.2.2.2.2.2 9 u.2.2.2.2.2.2.1) = true))) (fun u => (mW G h0 a (upd (upd (upd (upd (upd (upd (upd F 15 (nI u.2.1)) 16 u.2.2.1) 27 (nI u.2.2.2.1)) 31 (nI u.2.2.2.2.2.1)) 64 (nI u.1)) 65 (nI ne)) 66 (nI u.2.2.2.2.1)) (updA u.2.2.2.2.2.2.2 2 K))) := by
  intro sz
  refine Met.ofW (cc := cX12_newHere) (maxL := 5) (ret := (some .int)) (by decide) rfl ?_
  intro p e s m args below meth c s₁ B9 hml hv
  obtain ⟨rfl, hsz, hP, hD0, hE, hX⟩ := hv
  have hx := B9.exec
  have hb := B9.bytes
  have hr := B9.returns
  have hts := atoms_spec (ws := Cond.code yX12_newHere cX12_newHere 5 (some .int) :: pw) B9.pre
  have hq : ∀ w ∈ pw, w.before _ s = true := fun w h => hts w (List.mem_cons_of_mem _ h)
  have hown : s.vm.findClass RX12 = some m.cls := findClass_of_methodNamed B9.named
  have hlocks := B9.notSynchronized
  subst hsz
  have hD := hD0.self (sz := s.heap.size)
  have hA : ∀ q : Nat, s.heap.size ≤ q → va_A (mW G h0 a (upd (upd (upd (upd (upd (upd F 15 0) 27 (nI nd)) 31 (nI wr)) 64 (nI at0)) 65 (nI ne)) 66 (nI lk)) (updA B 2 K)) s.heap.size q := fun q h => Or.inr h
  have hP : va_P G.1 pCl (mW G h0 a (upd (upd (upd (upd (upd (upd F 15 0) 27 (nI nd)) 31 (nI wr)) 64 (nI at0)) 65 (nI ne)) 66 (nI lk)) (updA B 2 K)) s.heap := hP
  generalize va_A (mW G h0 a (upd (upd (upd (upd (upd (upd F 15 0) 27 (nI nd)) 31 (nI wr)) 64 (nI at0)) 65 (nI ne)) 66 (nI lk)) (updA B 2 K)) s.heap.size = A at hD hE hA ⊢
  have hS : va_S A s.heap s.heap [] := va_S.rf
  have hl := lv_entry ([.ref h0, .int (nI fi)]) (n := 5) (Nat.le_of_ble_eq_true rfl)
  rw [lg_entry_eq]
  generalize (lg_sl ([.ref h0, .int (nI fi)]) ++ List.replicate (5 - (lg_sl ([.ref h0, .int (nI fi)])).length) Slot.unset).toArray = ls at hl ⊢
  have hl : lv_has ls 5 [(0, .ref h0), (1, .int (nI fi))] := hl
  have hkp1 : Kp B B wr T := Kp.rfl hy
  have hlo2 : Low B B nd wr := Low.rfl
  refine lv_aload_n hx hb dX12_newHere_0 rfl (lv_at hl 0 rfl) ?_
  refine r_get (v := .int 0) hx hb hown hq hE hP 15 350 tFX12_15 (by decide) pw_1594 rfl dX12_newHere_1 ?_
  refine lv_if_ne (tgt := 19) hx hb dX12_newHere_4 (by decide) (fun c3 => absurd c3 (by decide)) (fun c3 => ?_)
  refine lv_aload_n hx hb dX12_newHere_7 rfl (lv_at hl 0 rfl) ?_
  have hP : va_P G.1 pCl (mW G h0 a (upd (upd (upd (upd (upd (upd (upd (upd F 15 0) 27 (nI nd)) 31 (nI wr)) 64 (nI at0)) 65 (nI ne)) 66 (nI lk)) 15 (nI 0)) 64 (nI at0)) (updA (updA B 2 K) 2 K)) _ := mW_to (F := F) (l1 := [(15, 0), (27, (nI nd)), (31, (nI wr)), (64, (nI at0)), (65, (nI ne)), (66, (nI lk))]) (l2 := [(15, 0), (27, (nI nd)), (31, (nI wr)), (64, (nI at0)), (65, (nI ne)), (66, (nI lk)), (15, (nI 0)), (64, (nI at0))]) (V := [(nI 0), (nI nd), (nI wr), (nI at0), (nI ne), (nI lk), (nI 0), (nI nd), (nI wr), (nI at0), (nI ne), (nI lk), (nI 0), (nI at0)]) rfl rfl (show (updA B 2 K) = (updA (updA B 2 K) 2 K) from updsA_eq2 (F := B) (l1 := [(2, K)]) (l2 := [(2, K), (2, K)]) (V := [K, K, K]) rfl rfl) hP
  have hD : va_D A (mW G h0 a (upd (upd (upd (upd (upd (upd (upd (upd F 15 0) 27 (nI nd)) 31 (nI wr)) 64 (nI at0)) 65 (nI ne)) 66 (nI lk)) 15 (nI 0)) 64 (nI at0)) (updA (updA B 2 K) 2 K)) := mW_D hD
  refine pc_V0 (G := G) (As := []) (rest := []) hx hb hml hown hq hE hX pX0_al hP hD hS hA hl.1 (R_isSort l G h0 a (upd (upd (upd (upd (upd (upd F 15 0) 27 (nI nd)) 31 (nI wr)) 64 (nI at0)) 65 (nI ne)) 66 (nI lk)) (updA B 2 K) at0 T 0 K (by omega) (by omega) hK (by omega)) (gV pw_1630 pw_1631 pw_1632 pw_1523 pw_1625) hV_X12_isSort 0 9 rfl rfl rfl rfl (Nat.le_of_ble_eq_true rfl) dX12_newHere_8 ⟨Nat.le_of_ble_eq_true rfl, Nat.le_of_ble_eq_true rfl⟩ ⟨(by show 3 + 1 ≤ (20 * n + 8); omega), (by show 8 + (1 + 11) + 80 ≤ (1000 * n + 40 * 8); omega)⟩ (fun v6 u4 H locs hw5 hP hD hS => ?_)
  obtain ⟨r7, rfl⟩ : ∃ z, z = u4 := ⟨_, rfl⟩
  obtain ⟨hw5, h8, h9⟩ := hw5
  have h8 : r7 ≤ 1 := h8
  have h9 : at0 + r7 ≤ T := h9
  obtain rfl : v6 = some (.int (nI r7)) := hw5
  have hP : va_P G.1 pCl (mW G h0 a (upd (upd (upd (upd (upd (upd F 15 0) 27 (nI nd)) 31 (nI wr)) 64 (nI at0)) 65 (nI ne)) 66 (nI lk)) (updA B 2 K)) _ := mW_to (F := F) (l1 := [(15, 0), (27, (nI nd)), (31, (nI wr)), (64, (nI at0)), (65, (nI ne)), (66, (nI lk)), (15, (nI 0)), (64, (nI at0))]) (l2 := [(15, 0), (27, (nI nd)), (31, (nI wr)), (64, (nI at0)), (65, (nI ne)), (66, (nI lk))]) (V := [0, (nI nd), (nI wr), (nI at0), (nI ne), (nI lk), 0, (nI at0), 0, (nI nd), (nI wr), (nI at0), (nI ne), (nI lk)]) rfl rfl (show (updA (updA B 2 K) 2 K) = (updA B 2 K) from updsA_eq2 (F := B) (l1 := [(2, K), (2, K)]) (l2 := [(2, K)]) (V := [K, K, K]) rfl rfl) hP
  have hD : va_D A (mW G h0 a (upd (upd (upd (upd (upd (upd F 15 0) 27 (nI nd)) 31 (nI wr)) 64 (nI at0)) 65 (nI ne)) 66 (nI lk)) (updA B 2 K)) := mW_D hD
  refine W.widen (k := 0) (n := 0) (Nat.le_of_ble_eq_true rfl) (Nat.le_of_ble_eq_true rfl) ?_
  refine W.eq (g2 := F0 m 11 ls [.int (nI r7)]) rfl ?_
  refine lv_if_ne (tgt := 19) hx hb dX12_newHere_11 (by decide) (fun c10 => ?_) (fun c10 => ?_)
  · have n11 : ¬ (r7 = 0) := fun h9 => c10 ((nI_eq (a := r7) (b := 0) (by omega) (by omega)).mpr h9)
    refine lv_aload_n hx hb dX12_newHere_19 rfl (lv_at hl 0 rfl) ?_
    refine r_get (v := .int 0) hx hb hown hq hE hP 15 350 tFX12_15 (by decide) pw_1594 rfl dX12_newHere_20 ?_
    refine lv_if_le (tgt := 28) hx hb dX12_newHere_23 (by decide) (fun c12 => ?_) (fun c12 => absurd c12 (by decide))
    refine lv_aload_n hx hb dX12_newHere_28 rfl (lv_at hl 0 rfl) ?_
    refine r_get (v := .int (nI at0)) hx hb hown hq hE hP 64 343 tFX12_64 (by decide) pw_1592 rfl dX12_newHere_29 ?_
    refine lv_istore_n (lv' := [(2, .int (nI at0)), (0, .ref h0), (1, .int (nI fi))]) hx hb dX12_newHere_32 rfl hl (by decide) rfl (fun ls hl => ?_)
    refine lv_aload_n hx hb dX12_newHere_33 rfl (lv_at hl 1 rfl) ?_
    refine lv_dup hx hb dX12_newHere_34 rfl ?_
    refine r_get (v := .int (nI at0)) hx hb hown hq hE hP 64 343 tFX12_64 (by decide) pw_1592 rfl dX12_newHere_35 ?_
    refine lv_iconst (v := 1) hx hb dX12_newHere_38 (by decide) ?_
    refine lv_iadd hx hb dX12_newHere_39 ?_
    refine lv_topi (fun x13 e14 => ?_)
    obtain rfl : x13 = nI (at0 + 1) := e14.trans (nI_add (at0) (1))
    refine r_put (v := (nI (at0 + 1))) (ty := .int) hx hb hown hq hE hP hD hS 64 343 tFX12_64 (by decide) pw_1592 (by decide) rfl rfl (ms_64 a _ _) dX12_newHere_40 (fun H locs hP hD hS => ?_)
    refine lv_aload_n hx hb dX12_newHere_43 rfl (lv_at hl 1 rfl) ?_
    refine r_get (v := .ref (a 2)) hx hb hown hq hE hP 5 16 tFX12_5 (by decide) pw_1432 rfl dX12_newHere_44 ?_
    refine lv_iload_n hx hb dX12_newHere_47 rfl (lv_at hl 0 rfl) ?_
    refine r_ldi (f := K) (j := at0) hx hb hE hP 2 (ma_2 G a _) rfl (by omega) (by decide) dX12_newHere_48 ?_
    refine lv_iconst (v := 1) hx hb dX12_newHere_49 (by decide) ?_
    refine lv_icmp_ne (tgt := 103) hx hb dX12_newHere_50 (by decide) (fun c15 => ?_) (fun c15 => ?_)
    · refine lv_aload_n hx hb dX12_newHere_103 rfl (lv_at hl 1 rfl) ?_
      refine r_get (v := .int (nI wr)) hx hb hown hq hE hP 31 399 tFX12_31 (by decide) pw_1629 rfl dX12_newHere_104 ?_
      refine lv_istore_n (lv' := [(3, .int (nI wr)), (2, .int (nI at0)), (0, .ref h0), (1, .int (nI fi))]) hx hb dX12_newHere_107 rfl hl (by decide) rfl (fun ls hl => ?_)
      refine lv_aload_n hx hb dX12_newHere_108 rfl (lv_at hl 2 rfl) ?_
      refine lv_dup hx hb dX12_newHere_109 rfl ?_
      refine r_get (v := .int (nI wr)) hx hb hown hq hE hP 31 399 tFX12_31 (by decide) pw_1629 rfl dX12_newHere_110 ?_
      refine lv_iconst (v := 1) hx hb dX12_newHere_113 (by decide) ?_
      refine lv_iadd hx hb dX12_newHere_114 ?_
      refine lv_topi (fun x16 e17 => ?_)
      obtain rfl : x16 = nI (wr + 1) := e17.trans (nI_add (wr) (1))
      refine r_put (v := (nI (wr + 1))) (ty := .int) hx hb hown hq hE hP hD hS 31 399 tFX12_31 (by decide) pw_1629 (by decide) rfl rfl (ms_31 a _ _) dX12_newHere_115 (fun H locs hP hD hS => ?_)
      refine lv_aload_n hx hb dX12_newHere_118 rfl (lv_at hl 2 rfl) ?_
      refine r_get (v := .ref (a 19)) hx hb hown hq hE hP 28 68 tFX12_28 (by decide) pw_1449 rfl dX12_newHere_119 ?_
      refine lv_iload_n hx hb dX12_newHere_122 rfl (lv_at hl 0 rfl) ?_
      refine lv_iload_n hx hb dX12_newHere_123 rfl (lv_at hl 1 rfl) ?_
      refine r_sti (f := (B 19)) (j := wr) hx hb hE hP hD hS 19 (ma_19 G a _) rfl (mas_19 G a _) (by omega) (by decide) dX12_newHere_124 (fun H locs hP hD hS => ?_)
      refine lv_aload_n hx hb dX12_newHere_125 rfl (lv_at hl 2 rfl) ?_
      refine r_get (v := .ref (a 20)) hx hb hown hq hE hP 29 71 tFX12_29 (by decide) pw_1451 rfl dX12_newHere_126 ?_
      refine lv_iload_n hx hb dX12_newHere_129 rfl (lv_at hl 0 rfl) ?_
      refine lv_iconst (v := 0) hx hb dX12_newHere_130 (by decide) ?_
      refine r_stz (f := (B 20)) (j := wr) hx hb hE hP hD hS 20 (ma_20 G a _) rfl (mas_20 G a _) (by omega) (by decide) dX12_newHere_131 (fun H locs hP hD hS => ?_)
      have hP : va_P G.1 pCl (mW G h0 a (upd (upd (upd (upd (upd (upd F 15 0) 27 (nI nd)) 31 (nI (wr + 1))) 64 (nI (at0 + 1))) 65 (nI ne)) 66 (nI lk)) (updA (updA (updA B 19 (upd (B 19) wr (nI at0))) 20 (upd (B 20) wr 0)) 2 K)) _ := mW_to (F := F) (l1 := [(15, 0), (27, (nI nd)), (31, (nI wr)), (64, (nI at0)), (65, (nI ne)), (66, (nI lk)), (64, (nI (at0 + 1))), (31, (nI (wr + 1)))]) (l2 := [(15, 0), (27, (nI nd)), (31, (nI (wr + 1))), (64, (nI (at0 + 1))), (65, (nI ne)), (66, (nI lk))]) (V := [0, (nI nd), (nI (wr + 1)), (nI (at0 + 1)), (nI ne), (nI lk), (nI (at0 + 1)), (nI (wr + 1)), 0, (nI nd), (nI (wr + 1)), (nI (at0 + 1)), (nI ne), (nI lk)]) rfl rfl (show (updA (updA (updA B 2 K) 19 (upd (B 19) wr (nI at0))) 20 (upd (B 20) wr 0)) = (updA (updA (updA B 19 (upd (B 19) wr (nI at0))) 20 (upd (B 20) wr 0)) 2 K) from updsA_eq2 (F := B) (l1 := [(2, K), (19, (upd (B 19) wr (nI at0))), (20, (upd (B 20) wr 0))]) (l2 := [(19, (upd (B 19) wr (nI at0))), (20, (upd (B 20) wr 0)), (2, K)]) (V := [K, (upd (B 19) wr (nI at0)), (upd (B 20) wr 0), (upd (B 19) wr (nI at0)), (upd (B 20) wr 0), K]) rfl rfl) hP
      have hD : va_D A (mW G h0 a (upd (upd (upd (upd (upd (upd F 15 0) 27 (nI nd)) 31 (nI (wr + 1))) 64 (nI (at0 + 1))) 65 (nI ne)) 66 (nI lk)) (updA (updA (updA B 19 (upd (B 19) wr (nI at0))) 20 (upd (B 20) wr 0)) 2 K)) := mW_D hD
      have hkp18 : Kp B (updA (updA B 19 (upd (B 19) wr (nI at0))) 20 (upd (B 20) wr 0)) (wr + 1) T := (Kp.y hkp1 (tkRow_up hkp1.2 (by omega)))
      have hlo19 : Low B (updA (updA B 19 (upd (B 19) wr (nI at0))) 20 (upd (B 20) wr 0)) nd wr := (Low.y hlo2 (fun i z => upd_lt i (by omega)) (fun i z => upd_lt i (by omega)))
      refine lv_aload_n hx hb dX12_newHere_132 rfl (lv_at hl 2 rfl) ?_
      refine r_get (v := .int 0) hx hb hown hq hE hP 15 350 tFX12_15 (by decide) pw_1594 rfl dX12_newHere_133 ?_
      refine lv_if_ne (tgt := 153) hx hb dX12_newHere_136 (by decide) (fun c20 => absurd c20 (by decide)) (fun c20 => ?_)
      refine lv_aload_n hx hb dX12_newHere_139 rfl (lv_at hl 2 rfl) ?_
      have hP : va_P G.1 pCl (mW G h0 a (upd (upd (upd (upd (upd (upd (upd (upd F 15 0) 27 (nI nd)) 31 (nI (wr + 1))) 64 (nI (at0 + 1))) 65 (nI ne)) 66 (nI lk)) 15 (nI 0)) 64 (nI (at0 + 1))) (updA (updA (updA (updA B 19 (upd (B 19) wr (nI at0))) 20 (upd (B 20) wr 0)) 2 K) 2 K)) _ := mW_to (F := F) (l1 := [(15, 0), (27, (nI nd)), (31, (nI (wr + 1))), (64, (nI (at0 + 1))), (65, (nI ne)), (66, (nI lk))]) (l2 := [(15, 0), (27, (nI nd)), (31, (nI (wr + 1))), (64, (nI (at0 + 1))), (65, (nI ne)), (66, (nI lk)), (15, (nI 0)), (64, (nI (at0 + 1)))]) (V := [(nI 0), (nI nd), (nI (wr + 1)), (nI (at0 + 1)), (nI ne), (nI lk), (nI 0), (nI nd), (nI (wr + 1)), (nI (at0 + 1)), (nI ne), (nI lk), (nI 0), (nI (at0 + 1))]) rfl rfl (show (updA (updA (updA B 19 (upd (B 19) wr (nI at0))) 20 (upd (B 20) wr 0)) 2 K) = (updA (updA (updA (updA B 19 (upd (B 19) wr (nI at0))) 20 (upd (B 20) wr 0)) 2 K) 2 K) from updsA_eq2 (F := B) (l1 := [(19, (upd (B 19) wr (nI at0))), (20, (upd (B 20) wr 0)), (2, K)]) (l2 := [(19, (upd (B 19) wr (nI at0))), (20, (upd (B 20) wr 0)), (2, K), (2, K)]) (V := [(upd (B 19) wr (nI at0)), (upd (B 20) wr 0), K, (upd (B 19) wr (nI at0)), (upd (B 20) wr 0), K, K]) rfl rfl) hP
      have hD : va_D A (mW G h0 a (upd (upd (upd (upd (upd (upd (upd (upd F 15 0) 27 (nI nd)) 31 (nI (wr + 1))) 64 (nI (at0 + 1))) 65 (nI ne)) 66 (nI lk)) 15 (nI 0)) 64 (nI (at0 + 1))) (updA (updA (updA (updA B 19 (upd (B 19) wr (nI at0))) 20 (upd (B 20) wr 0)) 2 K) 2 K)) := mW_D hD
      refine pc_V0 (G := G) (As := []) (rest := []) hx hb hml hown hq hE hX pX0_al hP hD hS hA hl.1 (R_kind l G h0 a (upd (upd (upd (upd (upd (upd F 15 0) 27 (nI nd)) 31 (nI (wr + 1))) 64 (nI (at0 + 1))) 65 (nI ne)) 66 (nI lk)) (updA (updA (updA B 19 (upd (B 19) wr (nI at0))) 20 (upd (B 20) wr 0)) 2 K) (at0 + 1) T 0 K (by omega) (by omega) hK (by omega)) (gV pw_1626 pw_1627 pw_1628 pw_1523 pw_1591) hV_X12_kind 0 9 rfl rfl rfl rfl (Nat.le_of_ble_eq_true rfl) dX12_newHere_140 ⟨Nat.le_of_ble_eq_true rfl, Nat.le_of_ble_eq_true rfl⟩ ⟨(by show 2 + 1 ≤ (20 * n + 8); omega), (by show 8 + (1 + 11) + 60 ≤ (1000 * n + 40 * 8); omega)⟩ (fun v23 u21 H locs hw22 hP hD hS => ?_)
      obtain rfl : v23 = some (.int (K (at0 + 1))) := hw22
      have hP : va_P G.1 pCl (mW G h0 a (upd (upd (upd (upd (upd (upd F 15 0) 27 (nI nd)) 31 (nI (wr + 1))) 64 (nI (at0 + 1))) 65 (nI ne)) 66 (nI lk)) (updA (updA (updA B 19 (upd (B 19) wr (nI at0))) 20 (upd (B 20) wr 0)) 2 K)) _ := mW_to (F := F) (l1 := [(15, 0), (27, (nI nd)), (31, (nI (wr + 1))), (64, (nI (at0 + 1))), (65, (nI ne)), (66, (nI lk)), (15, (nI 0)), (64, (nI (at0 + 1)))]) (l2 := [(15, 0), (27, (nI nd)), (31, (nI (wr + 1))), (64, (nI (at0 + 1))), (65, (nI ne)), (66, (nI lk))]) (V := [0, (nI nd), (nI (wr + 1)), (nI (at0 + 1)), (nI ne), (nI lk), 0, (nI (at0 + 1)), 0, (nI nd), (nI (wr + 1)), (nI (at0 + 1)), (nI ne), (nI lk)]) rfl rfl (show (updA (updA (updA (updA B 19 (upd (B 19) wr (nI at0))) 20 (upd (B 20) wr 0)) 2 K) 2 K) = (updA (updA (updA B 19 (upd (B 19) wr (nI at0))) 20 (upd (B 20) wr 0)) 2 K) from updsA_eq2 (F := B) (l1 := [(19, (upd (B 19) wr (nI at0))), (20, (upd (B 20) wr 0)), (2, K), (2, K)]) (l2 := [(19, (upd (B 19) wr (nI at0))), (20, (upd (B 20) wr 0)), (2, K)]) (V := [(upd (B 19) wr (nI at0)), (upd (B 20) wr 0), K, K, (upd (B 19) wr (nI at0)), (upd (B 20) wr 0), K]) rfl rfl) hP
      have hD : va_D A (mW G h0 a (upd (upd (upd (upd (upd (upd F 15 0) 27 (nI nd)) 31 (nI (wr + 1))) 64 (nI (at0 + 1))) 65 (nI ne)) 66 (nI lk)) (updA (updA (updA B 19 (upd (B 19) wr (nI at0))) 20 (upd (B 20) wr 0)) 2 K)) := mW_D hD
      refine W.widen (k := 0) (n := 0) (Nat.le_of_ble_eq_true rfl) (Nat.le_of_ble_eq_true rfl) ?_
      refine W.eq (g2 := F0 m 143 ls [.int (K (at0 + 1))]) rfl ?_
      refine lv_bipush (v := 91) hx hb dX12_newHere_143 (by decide) ?_
      refine lv_icmp_eq (tgt := 153) hx hb dX12_newHere_145 (by decide) (fun c24 => ?_) (fun c24 => ?_)
      · refine lv_aload_n hx hb dX12_newHere_153 rfl (lv_at hl 2 rfl) ?_
        have hP : va_P G.1 pCl (mW G h0 a (upd (upd (upd (upd (upd (upd (upd (upd (upd F 15 0) 27 (nI nd)) 31 (nI (wr + 1))) 64 (nI (at0 + 1))) 65 (nI ne)) 66 (nI lk)) 15 (nI 0)) 64 (nI (at0 + 1))) 65 (nI ne)) (updA (updA (updA (updA B 19 (upd (B 19) wr (nI at0))) 20 (upd (B 20) wr 0)) 2 K) 2 K)) _ := mW_to (F := F) (l1 := [(15, 0), (27, (nI nd)), (31, (nI (wr + 1))), (64, (nI (at0 + 1))), (65, (nI ne)), (66, (nI lk))]) (l2 := [(15, 0), (27, (nI nd)), (31, (nI (wr + 1))), (64, (nI (at0 + 1))), (65, (nI ne)), (66, (nI lk)), (15, (nI 0)), (64, (nI (at0 + 1))), (65, (nI ne))]) (V := [(nI 0), (nI nd), (nI (wr + 1)), (nI (at0 + 1)), (nI ne), (nI lk), (nI 0), (nI nd), (nI (wr + 1)), (nI (at0 + 1)), (nI ne), (nI lk), (nI 0), (nI (at0 + 1)), (nI ne)]) rfl rfl (show (updA (updA (updA B 19 (upd (B 19) wr (nI at0))) 20 (upd (B 20) wr 0)) 2 K) = (updA (updA (updA (updA B 19 (upd (B 19) wr (nI at0))) 20 (upd (B 20) wr 0)) 2 K) 2 K) from updsA_eq2 (F := B) (l1 := [(19, (upd (B 19) wr (nI at0))), (20, (upd (B 20) wr 0)), (2, K)]) (l2 := [(19, (upd (B 19) wr (nI at0))), (20, (upd (B 20) wr 0)), (2, K), (2, K)]) (V := [(upd (B 19) wr (nI at0)), (upd (B 20) wr 0), K, (upd (B 19) wr (nI at0)), (upd (B 20) wr 0), K, K]) rfl rfl) hP
        have hD : va_D A (mW G h0 a (upd (upd (upd (upd (upd (upd (upd (upd (upd F 15 0) 27 (nI nd)) 31 (nI (wr + 1))) 64 (nI (at0 + 1))) 65 (nI ne)) 66 (nI lk)) 15 (nI 0)) 64 (nI (at0 + 1))) 65 (nI ne)) (updA (updA (updA (updA B 19 (upd (B 19) wr (nI at0))) 20 (upd (B 20) wr 0)) 2 K) 2 K)) := mW_D hD
        refine pc_V0 (G := G) (As := []) (rest := []) hx hb hml hown hq hE hX pX0_al hP hD hS hA hl.1 (R_deeper l G h0 a (upd (upd (upd (upd (upd (upd F 15 0) 27 (nI nd)) 31 (nI (wr + 1))) 64 (nI (at0 + 1))) 65 (nI ne)) 66 (nI lk)) (updA (updA (updA B 19 (upd (B 19) wr (nI at0))) 20 (upd (B 20) wr 0)) 2 K) (at0 + 1) T 0 K ne (by omega) (by omega) hK (by omega) (by omega)) (gV pw_1637 pw_1638 pw_1639 pw_1523 pw_1611) hV_X12_deeper 0 9 rfl rfl rfl rfl (Nat.le_of_ble_eq_true rfl) dX12_newHere_154 ⟨Nat.le_of_ble_eq_true rfl, Nat.le_of_ble_eq_true rfl⟩ ⟨(by show 4 + 1 ≤ (20 * n + 8); omega), (by show 8 + (1 + 11) + 103 ≤ (1000 * n + 40 * 8); omega)⟩ (fun v27 u25 H locs hw26 hP hD hS => ?_)
        obtain ⟨fa28, pl29⟩ := u25
        obtain ⟨hw26, h30, h31, h32, h33⟩ := hw26
        have h30 : 0 ≤ fa28 := h30
        have h31 : fa28 ≤ 100 := h31
        have h32 : If (0 < 0) (fa28 = 0) := h32
        have h33 : If (ne ≤ 20) (ne + 1 ≤ 20 + fa28) := h33
        obtain rfl : v27 = none := hw26
        have hP : va_P G.1 pCl (mW G h0 a (upd (upd (upd (upd (upd (upd (upd F 15 (nI fa28)) 16 pl29) 27 (nI nd)) 31 (nI (wr + 1))) 64 (nI (at0 + 1))) 65 (nI (ne + 1))) 66 (nI lk)) (updA (updA (updA B 19 (upd (B 19) wr (nI at0))) 20 (upd (B 20) wr 0)) 2 K)) _ := mW_to (F := F) (l1 := [(15, 0), (27, (nI nd)), (31, (nI (wr + 1))), (64, (nI (at0 + 1))), (65, (nI ne)), (66, (nI lk)), (15, (nI fa28)), (16, pl29), (64, (nI (at0 + 1))), (65, (nI (ne + 1)))]) (l2 := [(15, (nI fa28)), (16, pl29), (27, (nI nd)), (31, (nI (wr + 1))), (64, (nI (at0 + 1))), (65, (nI (ne + 1))), (66, (nI lk))]) (V := [(nI fa28), (nI nd), (nI (wr + 1)), (nI (at0 + 1)), (nI (ne + 1)), (nI lk), (nI fa28), pl29, (nI (at0 + 1)), (nI (ne + 1)), (nI fa28), pl29, (nI nd), (nI (wr + 1)), (nI (at0 + 1)), (nI (ne + 1)), (nI lk)]) rfl rfl (show (updA (updA (updA (updA B 19 (upd (B 19) wr (nI at0))) 20 (upd (B 20) wr 0)) 2 K) 2 K) = (updA (updA (updA B 19 (upd (B 19) wr (nI at0))) 20 (upd (B 20) wr 0)) 2 K) from updsA_eq2 (F := B) (l1 := [(19, (upd (B 19) wr (nI at0))), (20, (upd (B 20) wr 0)), (2, K), (2, K)]) (l2 := [(19, (upd (B 19) wr (nI at0))), (20, (upd (B 20) wr 0)), (2, K)]) (V := [(upd (B 19) wr (nI at0)), (upd (B 20) wr 0), K, K, (upd (B 19) wr (nI at0)), (upd (B 20) wr 0), K]) rfl rfl) hP
        have hD : va_D A (mW G h0 a (upd (upd (upd (upd (upd (upd (upd F 15 (nI fa28)) 16 pl29) 27 (nI nd)) 31 (nI (wr + 1))) 64 (nI (at0 + 1))) 65 (nI (ne + 1))) 66 (nI lk)) (updA (updA (updA B 19 (upd (B 19) wr (nI at0))) 20 (upd (B 20) wr 0)) 2 K)) := mW_D hD
        refine W.widen (k := 0) (n := 0) (Nat.le_of_ble_eq_true rfl) (Nat.le_of_ble_eq_true rfl) ?_
        refine W.eq (g2 := F0 m 157 ls []) rfl ?_
        rcases Nat.eq_zero_or_pos fa28 with e34 | e34
        · subst e34
          have hP : va_P G.1 pCl (mW G h0 a (upd (upd (upd (upd (upd (upd (upd F 15 0) 16 pl29) 27 (nI nd)) 31 (nI (wr + 1))) 64 (nI (at0 + 1))) 65 (nI (ne + 1))) 66 (nI lk)) (updA (updA (updA B 19 (upd (B 19) wr (nI at0))) 20 (upd (B 20) wr 0)) 2 K)) _ := hP
          have hD : va_D A (mW G h0 a (upd (upd (upd (upd (upd (upd (upd F 15 0) 16 pl29) 27 (nI nd)) 31 (nI (wr + 1))) 64 (nI (at0 + 1))) 65 (nI (ne + 1))) 66 (nI lk)) (updA (updA (updA B 19 (upd (B 19) wr (nI at0))) 20 (upd (B 20) wr 0)) 2 K)) := mW_D hD
          have n35 : ne + 1 ≤ 20 := (h33 (by omega))
          refine lv_aload_n hx hb dX12_newHere_157 rfl (lv_at hl 2 rfl) ?_
          refine lv_bipush (v := 91) hx hb dX12_newHere_158 (by decide) ?_
          have hP : va_P G.1 pCl (mW G h0 a (upd (upd (upd (upd (upd (upd (upd (upd (upd F 15 0) 16 pl29) 27 (nI nd)) 31 (nI (wr + 1))) 64 (nI (at0 + 1))) 65 (nI (ne + 1))) 66 (nI lk)) 15 (nI 0)) 64 (nI (at0 + 1))) (updA (updA (updA (updA B 19 (upd (B 19) wr (nI at0))) 20 (upd (B 20) wr 0)) 2 K) 2 K)) _ := mW_to (F := F) (l1 := [(15, 0), (16, pl29), (27, (nI nd)), (31, (nI (wr + 1))), (64, (nI (at0 + 1))), (65, (nI (ne + 1))), (66, (nI lk))]) (l2 := [(15, 0), (16, pl29), (27, (nI nd)), (31, (nI (wr + 1))), (64, (nI (at0 + 1))), (65, (nI (ne + 1))), (66, (nI lk)), (15, (nI 0)), (64, (nI (at0 + 1)))]) (V := [(nI 0), pl29, (nI nd), (nI (wr + 1)), (nI (at0 + 1)), (nI (ne + 1)), (nI lk), (nI 0), pl29, (nI nd), (nI (wr + 1)), (nI (at0 + 1)), (nI (ne + 1)), (nI lk), (nI 0), (nI (at0 + 1))]) rfl rfl (show (updA (updA (updA B 19 (upd (B 19) wr (nI at0))) 20 (upd (B 20) wr 0)) 2 K) = (updA (updA (updA (updA B 19 (upd (B 19) wr (nI at0))) 20 (upd (B 20) wr 0)) 2 K) 2 K) from updsA_eq2 (F := B) (l1 := [(19, (upd (B 19) wr (nI at0))), (20, (upd (B 20) wr 0)), (2, K)]) (l2 := [(19, (upd (B 19) wr (nI at0))), (20, (upd (B 20) wr 0)), (2, K), (2, K)]) (V := [(upd (B 19) wr (nI at0)), (upd (B 20) wr 0), K, (upd (B 19) wr (nI at0)), (upd (B 20) wr 0), K, K]) rfl rfl) hP
          have hD : va_D A (mW G h0 a (upd (upd (upd (upd (upd (upd (upd (upd (upd F 15 0) 16 pl29) 27 (nI nd)) 31 (nI (wr + 1))) 64 (nI (at0 + 1))) 65 (nI (ne + 1))) 66 (nI lk)) 15 (nI 0)) 64 (nI (at0 + 1))) (updA (updA (updA (updA B 19 (upd (B 19) wr (nI at0))) 20 (upd (B 20) wr 0)) 2 K) 2 K)) := mW_D hD
          refine pc_V0 (G := G) (As := [.int 91]) (rest := []) hx hb hml hown hq hE hX pX0_al hP hD hS hA hl.1 (R_take l G h0 a (upd (upd (upd (upd (upd (upd (upd F 15 0) 16 pl29) 27 (nI nd)) 31 (nI (wr + 1))) 64 (nI (at0 + 1))) 65 (nI (ne + 1))) 66 (nI lk)) (updA (updA (updA B 19 (upd (B 19) wr (nI at0))) 20 (upd (B 20) wr 0)) 2 K) (at0 + 1) T 0 K 91 (by omega) (by omega) hK (by omega) (by decide) (by decide)) (gV pw_1614 pw_1615 pw_1616 pw_1523 pw_1601) hV_X12_take 0 9 rfl rfl rfl rfl (Nat.le_of_ble_eq_true rfl) dX12_newHere_160 ⟨Nat.le_of_ble_eq_true rfl, Nat.le_of_ble_eq_true rfl⟩ ⟨(by show 4 + 1 ≤ (20 * n + 8); omega), (by show 8 + (2 + 11) + 103 ≤ (1000 * n + 40 * 8); omega)⟩ (fun v38 u36 H locs hw37 hP hD hS => ?_)
          obtain ⟨at39, fa40, pl41⟩ := u36
          obtain ⟨hw37, h42, h43, h44, h45, h46, h47, h48, h49⟩ := hw37
          have h42 : (at0 + 1) ≤ at39 := h42
          have h43 : at39 ≤ T := h43
          have h44 : 0 ≤ fa40 := h44
          have h45 : fa40 ≤ 100 := h45
          have h46 : If (0 < 0) (at39 = (at0 + 1) ∧ fa40 = 0) := h46
          have h47 : at39 ≤ (at0 + 1) + 1 := h47
          have h48 : (at0 + 1) + 1 ≤ at39 + fa40 := h48
          have h49 : If (fa40 = 0) (K (at0 + 1) = 91) := h49
          obtain rfl : v38 = none := hw37
          have hP : va_P G.1 pCl (mW G h0 a (upd (upd (upd (upd (upd (upd (upd F 15 (nI fa40)) 16 pl41) 27 (nI nd)) 31 (nI (wr + 1))) 64 (nI at39)) 65 (nI (ne + 1))) 66 (nI lk)) (updA (updA (updA B 19 (upd (B 19) wr (nI at0))) 20 (upd (B 20) wr 0)) 2 K)) _ := mW_to (F := F) (l1 := [(15, 0), (16, pl29), (27, (nI nd)), (31, (nI (wr + 1))), (64, (nI (at0 + 1))), (65, (nI (ne + 1))), (66, (nI lk)), (15, (nI fa40)), (16, pl41), (64, (nI at39))]) (l2 := [(15, (nI fa40)), (16, pl41), (27, (nI nd)), (31, (nI (wr + 1))), (64, (nI at39)), (65, (nI (ne + 1))), (66, (nI lk))]) (V := [(nI fa40), pl41, (nI nd), (nI (wr + 1)), (nI at39), (nI (ne + 1)), (nI lk), (nI fa40), pl41, (nI at39), (nI fa40), pl41, (nI nd), (nI (wr + 1)), (nI at39), (nI (ne + 1)), (nI lk)]) rfl rfl (show (updA (updA (updA (updA B 19 (upd (B 19) wr (nI at0))) 20 (upd (B 20) wr 0)) 2 K) 2 K) = (updA (updA (updA B 19 (upd (B 19) wr (nI at0))) 20 (upd (B 20) wr 0)) 2 K) from updsA_eq2 (F := B) (l1 := [(19, (upd (B 19) wr (nI at0))), (20, (upd (B 20) wr 0)), (2, K), (2, K)]) (l2 := [(19, (upd (B 19) wr (nI at0))), (20, (upd (B 20) wr 0)), (2, K)]) (V := [(upd (B 19) wr (nI at0)), (upd (B 20) wr 0), K, K, (upd (B 19) wr (nI at0)), (upd (B 20) wr 0), K]) rfl rfl) hP
          have hD : va_D A (mW G h0 a (upd (upd (upd (upd (upd (upd (upd F 15 (nI fa40)) 16 pl41) 27 (nI nd)) 31 (nI (wr + 1))) 64 (nI at39)) 65 (nI (ne + 1))) 66 (nI lk)) (updA (updA (updA B 19 (upd (B 19) wr (nI at0))) 20 (upd (B 20) wr 0)) 2 K)) := mW_D hD
          refine W.widen (k := 0) (n := 0) (Nat.le_of_ble_eq_true rfl) (Nat.le_of_ble_eq_true rfl) ?_
          refine W.eq (g2 := F0 m 163 ls []) rfl ?_
          rcases Nat.eq_zero_or_pos fa40 with e50 | e50
          · subst e50
            have hP : va_P G.1 pCl (mW G h0 a (upd (upd (upd (upd (upd (upd (upd F 15 0) 16 pl41) 27 (nI nd)) 31 (nI (wr + 1))) 64 (nI at39)) 65 (nI (ne + 1))) 66 (nI lk)) (updA (updA (updA B 19 (upd (B 19) wr (nI at0))) 20 (upd (B 20) wr 0)) 2 K)) _ := hP
            have hD : va_D A (mW G h0 a (upd (upd (upd (upd (upd (upd (upd F 15 0) 16 pl41) 27 (nI nd)) 31 (nI (wr + 1))) 64 (nI at39)) 65 (nI (ne + 1))) 66 (nI lk)) (updA (updA (updA B 19 (upd (B 19) wr (nI at0))) 20 (upd (B 20) wr 0)) 2 K)) := mW_D hD
            refine lv_aload_n hx hb dX12_newHere_163 rfl (lv_at hl 2 rfl) ?_
            refine lv_bipush (v := 10) hx hb dX12_newHere_164 (by decide) ?_
            refine lv_iload_n hx hb dX12_newHere_166 rfl (lv_at hl 3 rfl) ?_
            refine lv_iload_n hx hb dX12_newHere_167 rfl (lv_at hl 1 rfl) ?_
            refine lv_aload_n hx hb dX12_newHere_168 rfl (lv_at hl 2 rfl) ?_
            have hP : va_P G.1 pCl (mW G h0 a (upd (upd (upd (upd (upd (upd (upd (upd (upd (upd (upd (upd (upd F 15 0) 16 pl41) 27 (nI nd)) 31 (nI (wr + 1))) 64 (nI at39)) 65 (nI (ne + 1))) 66 (nI lk)) 15 0) 27 (nI nd)) 31 (nI (wr + 1))) 64 (nI at39)) 65 (nI (ne + 1))) 66 (nI lk)) (updA (updA (updA B 19 (upd (B 19) wr (nI at0))) 20 (upd (B 20) wr 0)) 2 K)) _ := mW_to (F := F) (l1 := [(15, 0), (16, pl41), (27, (nI nd)), (31, (nI (wr + 1))), (64, (nI at39)), (65, (nI (ne + 1))), (66, (nI lk))]) (l2 := [(15, 0), (16, pl41), (27, (nI nd)), (31, (nI (wr + 1))), (64, (nI at39)), (65, (nI (ne + 1))), (66, (nI lk)), (15, 0), (27, (nI nd)), (31, (nI (wr + 1))), (64, (nI at39)), (65, (nI (ne + 1))), (66, (nI lk))]) (V := [0, pl41, (nI nd), (nI (wr + 1)), (nI at39), (nI (ne + 1)), (nI lk), 0, pl41, (nI nd), (nI (wr + 1)), (nI at39), (nI (ne + 1)), (nI lk), 0, (nI nd), (nI (wr + 1)), (nI at39), (nI (ne + 1)), (nI lk)]) rfl rfl rfl hP
            have hD : va_D A (mW G h0 a (upd (upd (upd (upd (upd (upd (upd (upd (upd (upd (upd (upd (upd F 15 0) 16 pl41) 27 (nI nd)) 31 (nI (wr + 1))) 64 (nI at39)) 65 (nI (ne + 1))) 66 (nI lk)) 15 0) 27 (nI nd)) 31 (nI (wr + 1))) 64 (nI at39)) 65 (nI (ne + 1))) 66 (nI lk)) (updA (updA (updA B 19 (upd (B 19) wr (nI at0))) 20 (upd (B 20) wr 0)) 2 K)) := mW_D hD
            refine pc_V0 (G := G) (As := []) (rest := [.int (nI at0), .int (nI fi), .int 10, .ref h0]) hx hb hml hown hq hE hX pX0_al hP hD hS hA hl.1 (ihc h0 a (upd (upd (upd (upd (upd (upd (upd F 15 0) 16 pl41) 27 (nI nd)) 31 (nI (wr + 1))) 64 (nI at39)) 65 (nI (ne + 1))) 66 (nI lk)) (updA (updA B 19 (upd (B 19) wr (nI at0))) 20 (upd (B 20) wr 0)) at39 T (ne + 1) nd (wr + 1) lk K (by omega) (by omega) hK (by omega) (by omega) (by omega) (by omega) (hkp18).2 (by omega)) (gV pw_1640 pw_1641 pw_1642 pw_1523 pw_1656) hV_X12_choice 0 9 rfl rfl rfl rfl (Nat.le_of_ble_eq_true rfl) dX12_newHere_169 ⟨Nat.le_of_ble_eq_true rfl, Nat.le_of_ble_eq_true rfl⟩ ⟨(by show (20 * (n - 1) + 27) + 1 ≤ (20 * n + 8); omega), (by show 8 + (4 + 11) + (1000 * (n - 1) + 40 * 27) ≤ (1000 * n + 40 * 8); omega)⟩ (fun v53 u51 H locs hw52 hP hD hS => ?_)
            obtain ⟨at54, fa55, pl56, nd57, lk58, wr59, r60, X61⟩ := u51
            obtain ⟨hw52, h62, h63, h64, h65, h66, h67, h68, h69, h70, h71, h72, h73, h74, h75⟩ := hw52
            have h62 : at39 ≤ at54 := h62
            have h63 : at54 ≤ T := h63
            have h64 : fa55 ≤ 100 := h64
            have h65 : nd ≤ nd57 := h65
            have h66 : nd57 + 2 * at39 ≤ nd + 2 * at54 + 100000 * fa55 := h66
            have h67 : nd57 + 2 * at39 ≤ nd + 2 * at54 + 40 * (21 - (ne + 1)) := h67
            have h68 : (wr + 1) ≤ wr59 := h68
            have h69 : wr59 + at39 ≤ (wr + 1) + at54 := h69
            have h70 : lk ≤ lk58 := h70
            have h71 : lk58 ≤ 60 + 100 * fa55 := h71
            have h72 : at39 + 1 ≤ at54 + fa55 := h72
            have h73 : r60 ≤ nd57 := h73
            have h74 : Kp (updA (updA B 19 (upd (B 19) wr (nI at0))) 20 (upd (B 20) wr 0)) X61 wr59 T := h74
            have h75 : If (fa55 = 0) (Low (updA (updA B 19 (upd (B 19) wr (nI at0))) 20 (upd (B 20) wr 0)) X61 nd (wr + 1) ∧ Frs K T wr59 X61 nd nd57 20000 [(r60, (211 + lk58 - (10 * (ne + 1) + lk)))] ∧ kcl 1 (X61 9 r60) = true) := h75
            obtain rfl : v53 = some (.int (nI r60)) := hw52
            have hP : va_P G.1 pCl (mW G h0 a (upd (upd (upd (upd (upd (upd (upd F 15 (nI fa55)) 16 pl56) 27 (nI nd57)) 31 (nI wr59)) 64 (nI at54)) 65 (nI (ne + 1))) 66 (nI lk58)) (updA X61 2 K)) _ := mW_to (F := F) (l1 := [(15, 0), (16, pl41), (27, (nI nd)), (31, (nI (wr + 1))), (64, (nI at39)), (65, (nI (ne + 1))), (66, (nI lk)), (15, (nI fa55)), (16, pl56), (27, (nI nd57)), (31, (nI wr59)), (64, (nI at54)), (65, (nI (ne + 1))), (66, (nI lk58))]) (l2 := [(15, (nI fa55)), (16, pl56), (27, (nI nd57)), (31, (nI wr59)), (64, (nI at54)), (65, (nI (ne + 1))), (66, (nI lk58))]) (V := [(nI fa55), pl56, (nI nd57), (nI wr59), (nI at54), (nI (ne + 1)), (nI lk58), (nI fa55), pl56, (nI nd57), (nI wr59), (nI at54), (nI (ne + 1)), (nI lk58), (nI fa55), pl56, (nI nd57), (nI wr59), (nI at54), (nI (ne + 1)), (nI lk58)]) rfl rfl rfl hP
            have hD : va_D A (mW G h0 a (upd (upd (upd (upd (upd (upd (upd F 15 (nI fa55)) 16 pl56) 27 (nI nd57)) 31 (nI wr59)) 64 (nI at54)) 65 (nI (ne + 1))) 66 (nI lk58)) (updA X61 2 K)) := mW_D hD
            refine W.widen (k := 0) (n := 0) (Nat.le_of_ble_eq_true rfl) (Nat.le_of_ble_eq_true rfl) ?_
            refine W.eq (g2 := F0 m 172 ls [.int (nI r60), .int (nI at0), .int (nI fi), .int 10, .ref h0]) rfl ?_
            have hkp76 : Kp B X61 wr59 T := (Kp.trans hkp18 h74)
            rcases Nat.eq_zero_or_pos fa55 with e77 | e77
            · subst e77
              have hP : va_P G.1 pCl (mW G h0 a (upd (upd (upd (upd (upd (upd (upd F 15 0) 16 pl56) 27 (nI nd57)) 31 (nI wr59)) 64 (nI at54)) 65 (nI (ne + 1))) 66 (nI lk58)) (updA X61 2 K)) _ := hP
              have hD : va_D A (mW G h0 a (upd (upd (upd (upd (upd (upd (upd F 15 0) 16 pl56) 27 (nI nd57)) 31 (nI wr59)) 64 (nI at54)) 65 (nI (ne + 1))) 66 (nI lk58)) (updA X61 2 K)) := mW_D hD
              obtain ⟨hlw78, hf79, hc80⟩ := h75 rfl
              have hlo81 : Low B X61 nd wr := (Low.trans hlo19 hlw78 (by omega) (by omega))
              have hm82 := Frs.mem hf79
              refine lv_iload_n hx hb dX12_newHere_172 rfl (lv_at hl 0 rfl) ?_
              have hP : va_P G.1 pCl (mW G h0 a (upd (upd (upd (upd (upd (upd (upd (upd F 15 0) 16 pl56) 27 (nI nd57)) 31 (nI wr59)) 64 (nI at54)) 65 (nI (ne + 1))) 66 (nI lk58)) 27 (nI nd57)) (updA X61 2 K)) _ := mW_to (F := F) (l1 := [(15, 0), (16, pl56), (27, (nI nd57)), (31, (nI wr59)), (64, (nI at54)), (65, (nI (ne + 1))), (66, (nI lk58))]) (l2 := [(15, 0), (16, pl56), (27, (nI nd57)), (31, (nI wr59)), (64, (nI at54)), (65, (nI (ne + 1))), (66, (nI lk58)), (27, (nI nd57))]) (V := [0, pl56, (nI nd57), (nI wr59), (nI at54), (nI (ne + 1)), (nI lk58), 0, pl56, (nI nd57), (nI wr59), (nI at54), (nI (ne + 1)), (nI lk58), (nI nd57)]) rfl rfl rfl hP
              have hD : va_D A (mW G h0 a (upd (upd (upd (upd (upd (upd (upd (upd F 15 0) 16 pl56) 27 (nI nd57)) 31 (nI wr59)) 64 (nI at54)) 65 (nI (ne + 1))) 66 (nI lk58)) 27 (nI nd57)) (updA X61 2 K)) := mW_D hD
              refine pc_V0 (G := G) (As := [.int 10, .int (nI fi), .int (nI at0), .int (nI r60), .int (nI wr)]) (rest := []) hx hb hml hown hq hE hX pX0_al hP hD hS hA hl.1 (R_nodeB l G h0 a (upd (upd (upd (upd (upd (upd (upd F 15 0) 16 pl56) 27 (nI nd57)) 31 (nI wr59)) 64 (nI at54)) 65 (nI (ne + 1))) 66 (nI lk58)) X61 10 (nI fi) (nI at0) (nI r60) (nI wr) nd57 K (by omega)) (gV pw_1650 pw_1651 pw_1652 pw_1523 pw_1589) hV_X12_node 0 9 rfl rfl rfl rfl (Nat.le_of_ble_eq_true rfl) dX12_newHere_173 ⟨Nat.le_of_ble_eq_true rfl, Nat.le_of_ble_eq_true rfl⟩ ⟨(by show 2 + 1 ≤ (20 * n + 8); omega), (by show 8 + (7 + 11) + 60 ≤ (1000 * n + 40 * 8); omega)⟩ (fun v85 u83 H locs hw84 hP hD hS => ?_)
              obtain ⟨X86, rfl⟩ : ∃ z, z = u83 := ⟨_, rfl⟩
              obtain ⟨hw84, h87⟩ := hw84
              have h87 : NewN X61 X86 nd57 10 (nI fi) (nI at0) (nI r60) (nI wr) := h87
              obtain rfl : v85 = some (.int (nI nd57)) := hw84
              have hP : va_P G.1 pCl (mW G h0 a (upd (upd (upd (upd (upd (upd (upd F 15 0) 16 pl56) 27 (nI (nd57 + 1))) 31 (nI wr59)) 64 (nI at54)) 65 (nI (ne + 1))) 66 (nI lk58)) (updA X86 2 K)) _ := mW_to (F := F) (l1 := [(15, 0), (16, pl56), (27, (nI nd57)), (31, (nI wr59)), (64, (nI at54)), (65, (nI (ne + 1))), (66, (nI lk58)), (27, (nI (nd57 + 1)))]) (l2 := [(15, 0), (16, pl56), (27, (nI (nd57 + 1))), (31, (nI wr59)), (64, (nI at54)), (65, (nI (ne + 1))), (66, (nI lk58))]) (V := [0, pl56, (nI (nd57 + 1)), (nI wr59), (nI at54), (nI (ne + 1)), (nI lk58), (nI (nd57 + 1)), 0, pl56, (nI (nd57 + 1)), (nI wr59), (nI at54), (nI (ne + 1)), (nI lk58)]) rfl rfl rfl hP
              have hD : va_D A (mW G h0 a (upd (upd (upd (upd (upd (upd (upd F 15 0) 16 pl56) 27 (nI (nd57 + 1))) 31 (nI wr59)) 64 (nI at54)) 65 (nI (ne + 1))) 66 (nI lk58)) (updA X86 2 K)) := mW_D hD
              refine W.widen (k := 0) (n := 0) (Nat.le_of_ble_eq_true rfl) (Nat.le_of_ble_eq_true rfl) ?_
              refine W.eq (g2 := F0 m 176 ls [.int (nI nd57)]) rfl ?_
              have hkp88 : Kp B X86 wr59 T := (Kp.new hkp76 h87)
              have hlo89 : Low B X86 nd wr := (Low.new hlo81 h87 (by omega))
              have hc90 : kcl 1 (X86 9 r60) = true := by rw [h87.2.1 9 r60 (by omega)]; exact hc80
              have hf91 : Frs K T wr59 X86 nd (nd57 + 1) nd57 [(nd57, (210 + lk58 - (10 * ne + lk)))] := (Frs.new1 (k := 10) hf79 (by omega) (by omega) (by omega) h87 rfl rfl (by decide) (by decide) (by omega) (by omega) (by decide) (by simp) ⟨by decide, by decide, by decide, by decide⟩ hc80 ⟨fun _ => ⟨wr, rfl, by omega⟩, fun e => absurd e (by decide), fun e => absurd (by decide) e⟩ (newOK.m1 (by decide)) (newOK.m1 (by decide)) (by omega))
              have hn92 : Nd X86 nd57 10 (nI r60) (nI wr) (-1) (-1) := (NewN.toNd h87)
              have hf93 : Frs K T wr59 X86 nd (nd57 + 1) 20000 [(nd57, (210 + lk58 - (10 * ne + lk)))] := (Frs.fin (k := 10) hf91 hn92 rfl (by decide) (fun _ => nI_m1 (by omega)) (fun h => absurd h (by decide)) (fun h => absurd h (by decide)) (fun h => absurd h (by decide)))
              refine lv_istore (lv' := [(4, .int (nI nd57)), (3, .int (nI wr)), (2, .int (nI at0)), (0, .ref h0), (1, .int (nI fi))]) hx hb dX12_newHere_176 hl (by decide) rfl (fun ls hl => ?_)
              refine lv_aload_n hx hb dX12_newHere_178 rfl (lv_at hl 3 rfl) ?_
              refine lv_bipush (v := 93) hx hb dX12_newHere_179 (by decide) ?_
              have hP : va_P G.1 pCl (mW G h0 a (upd (upd (upd (upd (upd (upd (upd (upd (upd F 15 0) 16 pl56) 27 (nI (nd57 + 1))) 31 (nI wr59)) 64 (nI at54)) 65 (nI (ne + 1))) 66 (nI lk58)) 15 (nI 0)) 64 (nI at54)) (updA (updA X86 2 K) 2 K)) _ := mW_to (F := F) (l1 := [(15, 0), (16, pl56), (27, (nI (nd57 + 1))), (31, (nI wr59)), (64, (nI at54)), (65, (nI (ne + 1))), (66, (nI lk58))]) (l2 := [(15, 0), (16, pl56), (27, (nI (nd57 + 1))), (31, (nI wr59)), (64, (nI at54)), (65, (nI (ne + 1))), (66, (nI lk58)), (15, (nI 0)), (64, (nI at54))]) (V := [(nI 0), pl56, (nI (nd57 + 1)), (nI wr59), (nI at54), (nI (ne + 1)), (nI lk58), (nI 0), pl56, (nI (nd57 + 1)), (nI wr59), (nI at54), (nI (ne + 1)), (nI lk58), (nI 0), (nI at54)]) rfl rfl (show (updA X86 2 K) = (updA (updA X86 2 K) 2 K) from updsA_eq2 (F := X86) (l1 := [(2, K)]) (l2 := [(2, K), (2, K)]) (V := [K, K, K]) rfl rfl) hP
              have hD : va_D A (mW G h0 a (upd (upd (upd (upd (upd (upd (upd (upd (upd F 15 0) 16 pl56) 27 (nI (nd57 + 1))) 31 (nI wr59)) 64 (nI at54)) 65 (nI (ne + 1))) 66 (nI lk58)) 15 (nI 0)) 64 (nI at54)) (updA (updA X86 2 K) 2 K)) := mW_D hD
              refine pc_V0 (G := G) (As := [.int 93]) (rest := []) hx hb hml hown hq hE hX pX0_al hP hD hS hA hl.1 (R_take l G h0 a (upd (upd (upd (upd (upd (upd (upd F 15 0) 16 pl56) 27 (nI (nd57 + 1))) 31 (nI wr59)) 64 (nI at54)) 65 (nI (ne + 1))) 66 (nI lk58)) (updA X86 2 K) at54 T 0 K 93 (by omega) (by omega) hK (by omega) (by decide) (by decide)) (gV pw_1614 pw_1615 pw_1616 pw_1523 pw_1601) hV_X12_take 0 9 rfl rfl rfl rfl (Nat.le_of_ble_eq_true rfl) dX12_newHere_181 ⟨Nat.le_of_ble_eq_true rfl, Nat.le_of_ble_eq_true rfl⟩ ⟨(by show 4 + 1 ≤ (20 * n + 8); omega), (by show 8 + (2 + 11) + 103 ≤ (1000 * n + 40 * 8); omega)⟩ (fun v96 u94 H locs hw95 hP hD hS => ?_)
              obtain ⟨at97, fa98, pl99⟩ := u94
              obtain ⟨hw95, h100, h101, h102, h103, h104, h105, h106, h107⟩ := hw95
              have h100 : at54 ≤ at97 := h100
              have h101 : at97 ≤ T := h101
              have h102 : 0 ≤ fa98 := h102
              have h103 : fa98 ≤ 100 := h103
              have h104 : If (0 < 0) (at97 = at54 ∧ fa98 = 0) := h104
              have h105 : at97 ≤ at54 + 1 := h105
              have h106 : at54 + 1 ≤ at97 + fa98 := h106
              have h107 : If (fa98 = 0) (K at54 = 93) := h107
              obtain rfl : v96 = none := hw95
              have hP : va_P G.1 pCl (mW G h0 a (upd (upd (upd (upd (upd (upd (upd F 15 (nI fa98)) 16 pl99) 27 (nI (nd57 + 1))) 31 (nI wr59)) 64 (nI at97)) 65 (nI (ne + 1))) 66 (nI lk58)) (updA X86 2 K)) _ := mW_to (F := F) (l1 := [(15, 0), (16, pl56), (27, (nI (nd57 + 1))), (31, (nI wr59)), (64, (nI at54)), (65, (nI (ne + 1))), (66, (nI lk58)), (15, (nI fa98)), (16, pl99), (64, (nI at97))]) (l2 := [(15, (nI fa98)), (16, pl99), (27, (nI (nd57 + 1))), (31, (nI wr59)), (64, (nI at97)), (65, (nI (ne + 1))), (66, (nI lk58))]) (V := [(nI fa98), pl99, (nI (nd57 + 1)), (nI wr59), (nI at97), (nI (ne + 1)), (nI lk58), (nI fa98), pl99, (nI at97), (nI fa98), pl99, (nI (nd57 + 1)), (nI wr59), (nI at97), (nI (ne + 1)), (nI lk58)]) rfl rfl (show (updA (updA X86 2 K) 2 K) = (updA X86 2 K) from updsA_eq2 (F := X86) (l1 := [(2, K), (2, K)]) (l2 := [(2, K)]) (V := [K, K, K]) rfl rfl) hP
              have hD : va_D A (mW G h0 a (upd (upd (upd (upd (upd (upd (upd F 15 (nI fa98)) 16 pl99) 27 (nI (nd57 + 1))) 31 (nI wr59)) 64 (nI at97)) 65 (nI (ne + 1))) 66 (nI lk58)) (updA X86 2 K)) := mW_D hD
              refine W.widen (k := 0) (n := 0) (Nat.le_of_ble_eq_true rfl) (Nat.le_of_ble_eq_true rfl) ?_
              refine W.eq (g2 := F0 m 184 ls []) rfl ?_
              rcases Nat.eq_zero_or_pos fa98 with e108 | e108
              · subst e108
                have hP : va_P G.1 pCl (mW G h0 a (upd (upd (upd (upd (upd (upd (upd F 15 0) 16 pl99) 27 (nI (nd57 + 1))) 31 (nI wr59)) 64 (nI at97)) 65 (nI (ne + 1))) 66 (nI lk58)) (updA X86 2 K)) _ := hP
                have hD : va_D A (mW G h0 a (upd (upd (upd (upd (upd (upd (upd F 15 0) 16 pl99) 27 (nI (nd57 + 1))) 31 (nI wr59)) 64 (nI at97)) 65 (nI (ne + 1))) 66 (nI lk58)) (updA X86 2 K)) := mW_D hD
                refine lv_aload_n hx hb dX12_newHere_184 rfl (lv_at hl 3 rfl) ?_
                refine lv_dup hx hb dX12_newHere_185 rfl ?_
                refine r_get (v := .int (nI (ne + 1))) hx hb hown hq hE hP 65 366 tFX12_65 (by decide) pw_1612 rfl dX12_newHere_186 ?_
                refine lv_iconst (v := 1) hx hb dX12_newHere_189 (by decide) ?_
                refine lv_isub hx hb dX12_newHere_190 ?_
                refine lv_topi (fun x109 e110 => ?_)
                obtain rfl : x109 = nI ((ne + 1) - 1) := e110.trans (nI_subN (a := 1) (b := (ne + 1)) (by omega))
                refine r_put (v := (nI ((ne + 1) - 1))) (ty := .int) hx hb hown hq hE hP hD hS 65 366 tFX12_65 (by decide) pw_1612 (by decide) rfl rfl (ms_65 a _ _) dX12_newHere_191 (fun H locs hP hD hS => ?_)
                refine lv_iload hx hb dX12_newHere_194 (lv_at hl 0 rfl) ?_
                have hz111 : at0 ≤ at97 := (by omega)
                have hz112 : at97 ≤ T := (by omega)
                have hz113 : 0 ≤ 100 := (by omega)
                have hz114 : nd ≤ (nd57 + 1) := (by omega)
                have hz115 : (nd57 + 1) + 2 * at0 ≤ nd + 2 * at97 + 100000 * 0 := (by omega)
                have hz116 : (nd57 + 1) + 2 * at0 ≤ nd + 2 * at97 + 40 * (21 - ne) := (by omega)
                have hz117 : wr ≤ wr59 := (by omega)
                have hz118 : wr59 + at0 ≤ wr + at97 := (by omega)
                have hz119 : lk ≤ lk58 := (by omega)
                have hz120 : lk58 ≤ 60 + 100 * 0 := (by omega)
                have hz121 : at0 + 1 ≤ at97 + 0 := (by omega)
                have hz122 : nd57 ≤ (nd57 + 1) := (by omega)
                have hz123 : Kp B X86 wr59 T := hkp88
                have hz124 : If (0 = 0) (Low B X86 nd wr ∧ Frs K T wr59 X86 nd (nd57 + 1) 20000 [(nd57, (210 + lk58 - (10 * ne + lk)))] ∧ kcl 1 (X86 9 nd57) = true) := (fun _ => ⟨hlo89, Frs.up hf93 (by omega), (by rw [hn92.1]; decide)⟩)
                have hP : va_P G.1 pCl (mW G h0 a (upd (upd (upd (upd (upd (upd (upd F 15 (nI 0)) 16 pl99) 27 (nI (nd57 + 1))) 31 (nI wr59)) 64 (nI at97)) 65 (nI ne)) 66 (nI lk58)) (updA X86 2 K)) _ := mW_to (F := F) (l1 := [(15, 0), (16, pl99), (27, (nI (nd57 + 1))), (31, (nI wr59)), (64, (nI at97)), (65, (nI (ne + 1))), (66, (nI lk58)), (65, (nI ((ne + 1) - 1)))]) (l2 := [(15, (nI 0)), (16, pl99), (27, (nI (nd57 + 1))), (31, (nI wr59)), (64, (nI at97)), (65, (nI ne)), (66, (nI lk58))]) (V := [(nI 0), pl99, (nI (nd57 + 1)), (nI wr59), (nI at97), (nI ne), (nI lk58), (nI ne), (nI 0), pl99, (nI (nd57 + 1)), (nI wr59), (nI at97), (nI ne), (nI lk58)]) rfl rfl rfl hP
                have hD : va_D A (mW G h0 a (upd (upd (upd (upd (upd (upd (upd F 15 (nI 0)) 16 pl99) 27 (nI (nd57 + 1))) 31 (nI wr59)) 64 (nI at97)) 65 (nI ne)) 66 (nI lk58)) (updA X86 2 K)) := mW_D hD
                exact W.iret (v := (nI nd57)) hx hb hr (fun t9 ht9 hW9 => ⟨⟨_, (at97, 0, pl99, (nd57 + 1), lk58, wr59, nd57, X86), rfl, ⟨rfl, hz111, hz112, hz113, hz114, hz115, hz116, hz117, hz118, hz119, hz120, hz121, hz122, hz123, hz124⟩, by rw [ht9]; exact hP, hD⟩, hS.F ht9⟩) hS.2.2 dX12_newHere_196
              · have e108 := e108
                refine lv_aload_n hx hb dX12_newHere_184 rfl (lv_at hl 3 rfl) ?_
                refine lv_dup hx hb dX12_newHere_185 rfl ?_
                refine r_get (v := .int (nI (ne + 1))) hx hb hown hq hE hP 65 366 tFX12_65 (by decide) pw_1612 rfl dX12_newHere_186 ?_
                refine lv_iconst (v := 1) hx hb dX12_newHere_189 (by decide) ?_
                refine lv_isub hx hb dX12_newHere_190 ?_
                refine lv_topi (fun x125 e126 => ?_)
                obtain rfl : x125 = nI ((ne + 1) - 1) := e126.trans (nI_subN (a := 1) (b := (ne + 1)) (by omega))
                refine r_put (v := (nI ((ne + 1) - 1))) (ty := .int) hx hb hown hq hE hP hD hS 65 366 tFX12_65 (by decide) pw_1612 (by decide) rfl rfl (ms_65 a _ _) dX12_newHere_191 (fun H locs hP hD hS => ?_)
                refine lv_iload hx hb dX12_newHere_194 (lv_at hl 0 rfl) ?_
                have hz127 : at0 ≤ at97 := (by omega)
                have hz128 : at97 ≤ T := (by omega)
                have hz129 : fa98 ≤ 100 := (by omega)
                have hz130 : nd ≤ (nd57 + 1) := (by omega)
                have hz131 : (nd57 + 1) + 2 * at0 ≤ nd + 2 * at97 + 100000 * fa98 := (by omega)
                have hz132 : (nd57 + 1) + 2 * at0 ≤ nd + 2 * at97 + 40 * (21 - ne) := (by omega)
                have hz133 : wr ≤ wr59 := (by omega)
                have hz134 : wr59 + at0 ≤ wr + at97 := (by omega)
                have hz135 : lk ≤ lk58 := (by omega)
                have hz136 : lk58 ≤ 60 + 100 * fa98 := (by omega)
                have hz137 : at0 + 1 ≤ at97 + fa98 := (by omega)
                have hz138 : nd57 ≤ (nd57 + 1) := (by omega)
                have hz139 : Kp B X86 wr59 T := hkp88
                have hz140 : If (fa98 = 0) (Low B X86 nd wr ∧ Frs K T wr59 X86 nd (nd57 + 1) 20000 [(nd57, (210 + lk58 - (10 * ne + lk)))] ∧ kcl 1 (X86 9 nd57) = true) := (fun e => absurd e (by omega))
                have hP : va_P G.1 pCl (mW G h0 a (upd (upd (upd (upd (upd (upd (upd F 15 (nI fa98)) 16 pl99) 27 (nI (nd57 + 1))) 31 (nI wr59)) 64 (nI at97)) 65 (nI ne)) 66 (nI lk58)) (updA X86 2 K)) _ := mW_to (F := F) (l1 := [(15, (nI fa98)), (16, pl99), (27, (nI (nd57 + 1))), (31, (nI wr59)), (64, (nI at97)), (65, (nI (ne + 1))), (66, (nI lk58)), (65, (nI ((ne + 1) - 1)))]) (l2 := [(15, (nI fa98)), (16, pl99), (27, (nI (nd57 + 1))), (31, (nI wr59)), (64, (nI at97)), (65, (nI ne)), (66, (nI lk58))]) (V := [(nI fa98), pl99, (nI (nd57 + 1)), (nI wr59), (nI at97), (nI ne), (nI lk58), (nI ne), (nI fa98), pl99, (nI (nd57 + 1)), (nI wr59), (nI at97), (nI ne), (nI lk58)]) rfl rfl rfl hP
                have hD : va_D A (mW G h0 a (upd (upd (upd (upd (upd (upd (upd F 15 (nI fa98)) 16 pl99) 27 (nI (nd57 + 1))) 31 (nI wr59)) 64 (nI at97)) 65 (nI ne)) 66 (nI lk58)) (updA X86 2 K)) := mW_D hD
                exact W.iret (v := (nI nd57)) hx hb hr (fun t9 ht9 hW9 => ⟨⟨_, (at97, fa98, pl99, (nd57 + 1), lk58, wr59, nd57, X86), rfl, ⟨rfl, hz127, hz128, hz129, hz130, hz131, hz132, hz133, hz134, hz135, hz136, hz137, hz138, hz139, hz140⟩, by rw [ht9]; exact hP, hD⟩, hS.F ht9⟩) hS.2.2 dX12_newHere_196
            · have e77 := e77
              refine lv_iload_n hx hb dX12_newHere_172 rfl (lv_at hl 0 rfl) ?_
              have hP : va_P G.1 pCl (mW G h0 a (upd (upd (upd (upd (upd (upd (upd (upd F 15 (nI fa55)) 16 pl56) 27 (nI nd57)) 31 (nI wr59)) 64 (nI at54)) 65 (nI (ne + 1))) 66 (nI lk58)) 27 (nI nd57)) (updA X61 2 K)) _ := mW_to (F := F) (l1 := [(15, (nI fa55)), (16, pl56), (27, (nI nd57)), (31, (nI wr59)), (64, (nI at54)), (65, (nI (ne + 1))), (66, (nI lk58))]) (l2 := [(15, (nI fa55)), (16, pl56), (27, (nI nd57)), (31, (nI wr59)), (64, (nI at54)), (65, (nI (ne + 1))), (66, (nI lk58)), (27, (nI nd57))]) (V := [(nI fa55), pl56, (nI nd57), (nI wr59), (nI at54), (nI (ne + 1)), (nI lk58), (nI fa55), pl56, (nI nd57), (nI wr59), (nI at54), (nI (ne + 1)), (nI lk58), (nI nd57)]) rfl rfl rfl hP
              have hD : va_D A (mW G h0 a (upd (upd (upd (upd (upd (upd (upd (upd F 15 (nI fa55)) 16 pl56) 27 (nI nd57)) 31 (nI wr59)) 64 (nI at54)) 65 (nI (ne + 1))) 66 (nI lk58)) 27 (nI nd57)) (updA X61 2 K)) := mW_D hD
              refine pc_V0 (G := G) (As := [.int 10, .int (nI fi), .int (nI at0), .int (nI r60), .int (nI wr)]) (rest := []) hx hb hml hown hq hE hX pX0_al hP hD hS hA hl.1 (R_nodeB l G h0 a (upd (upd (upd (upd (upd (upd (upd F 15 (nI fa55)) 16 pl56) 27 (nI nd57)) 31 (nI wr59)) 64 (nI at54)) 65 (nI (ne + 1))) 66 (nI lk58)) X61 10 (nI fi) (nI at0) (nI r60) (nI wr) nd57 K (by omega)) (gV pw_1650 pw_1651 pw_1652 pw_1523 pw_1589) hV_X12_node 0 9 rfl rfl rfl rfl (Nat.le_of_ble_eq_true rfl) dX12_newHere_173 ⟨Nat.le_of_ble_eq_true rfl, Nat.le_of_ble_eq_true rfl⟩ ⟨(by show 2 + 1 ≤ (20 * n + 8); omega), (by show 8 + (7 + 11) + 60 ≤ (1000 * n + 40 * 8); omega)⟩ (fun v143 u141 H locs hw142 hP hD hS => ?_)
              obtain ⟨X144, rfl⟩ : ∃ z, z = u141 := ⟨_, rfl⟩
              obtain ⟨hw142, h145⟩ := hw142
              have h145 : NewN X61 X144 nd57 10 (nI fi) (nI at0) (nI r60) (nI wr) := h145
              obtain rfl : v143 = some (.int (nI nd57)) := hw142
              have hP : va_P G.1 pCl (mW G h0 a (upd (upd (upd (upd (upd (upd (upd F 15 (nI fa55)) 16 pl56) 27 (nI (nd57 + 1))) 31 (nI wr59)) 64 (nI at54)) 65 (nI (ne + 1))) 66 (nI lk58)) (updA X144 2 K)) _ := mW_to (F := F) (l1 := [(15, (nI fa55)), (16, pl56), (27, (nI nd57)), (31, (nI wr59)), (64, (nI at54)), (65, (nI (ne + 1))), (66, (nI lk58)), (27, (nI (nd57 + 1)))]) (l2 := [(15, (nI fa55)), (16, pl56), (27, (nI (nd57 + 1))), (31, (nI wr59)), (64, (nI at54)), (65, (nI (ne + 1))), (66, (nI lk58))]) (V := [(nI fa55), pl56, (nI (nd57 + 1)), (nI wr59), (nI at54), (nI (ne + 1)), (nI lk58), (nI (nd57 + 1)), (nI fa55), pl56, (nI (nd57 + 1)), (nI wr59), (nI at54), (nI (ne + 1)), (nI lk58)]) rfl rfl rfl hP
              have hD : va_D A (mW G h0 a (upd (upd (upd (upd (upd (upd (upd F 15 (nI fa55)) 16 pl56) 27 (nI (nd57 + 1))) 31 (nI wr59)) 64 (nI at54)) 65 (nI (ne + 1))) 66 (nI lk58)) (updA X144 2 K)) := mW_D hD
              refine W.widen (k := 0) (n := 0) (Nat.le_of_ble_eq_true rfl) (Nat.le_of_ble_eq_true rfl) ?_
              refine W.eq (g2 := F0 m 176 ls [.int (nI nd57)]) rfl ?_
              have hkp146 : Kp B X144 wr59 T := (Kp.new hkp76 h145)
              refine lv_istore (lv' := [(4, .int (nI nd57)), (3, .int (nI wr)), (2, .int (nI at0)), (0, .ref h0), (1, .int (nI fi))]) hx hb dX12_newHere_176 hl (by decide) rfl (fun ls hl => ?_)
              refine lv_aload_n hx hb dX12_newHere_178 rfl (lv_at hl 3 rfl) ?_
              refine lv_bipush (v := 93) hx hb dX12_newHere_179 (by decide) ?_
              have hP : va_P G.1 pCl (mW G h0 a (upd (upd (upd (upd (upd (upd (upd (upd (upd F 15 (nI fa55)) 16 pl56) 27 (nI (nd57 + 1))) 31 (nI wr59)) 64 (nI at54)) 65 (nI (ne + 1))) 66 (nI lk58)) 15 (nI fa55)) 64 (nI at54)) (updA (updA X144 2 K) 2 K)) _ := mW_to (F := F) (l1 := [(15, (nI fa55)), (16, pl56), (27, (nI (nd57 + 1))), (31, (nI wr59)), (64, (nI at54)), (65, (nI (ne + 1))), (66, (nI lk58))]) (l2 := [(15, (nI fa55)), (16, pl56), (27, (nI (nd57 + 1))), (31, (nI wr59)), (64, (nI at54)), (65, (nI (ne + 1))), (66, (nI lk58)), (15, (nI fa55)), (64, (nI at54))]) (V := [(nI fa55), pl56, (nI (nd57 + 1)), (nI wr59), (nI at54), (nI (ne + 1)), (nI lk58), (nI fa55), pl56, (nI (nd57 + 1)), (nI wr59), (nI at54), (nI (ne + 1)), (nI lk58), (nI fa55), (nI at54)]) rfl rfl (show (updA X144 2 K) = (updA (updA X144 2 K) 2 K) from updsA_eq2 (F := X144) (l1 := [(2, K)]) (l2 := [(2, K), (2, K)]) (V := [K, K, K]) rfl rfl) hP
              have hD : va_D A (mW G h0 a (upd (upd (upd (upd (upd (upd (upd (upd (upd F 15 (nI fa55)) 16 pl56) 27 (nI (nd57 + 1))) 31 (nI wr59)) 64 (nI at54)) 65 (nI (ne + 1))) 66 (nI lk58)) 15 (nI fa55)) 64 (nI at54)) (updA (updA X144 2 K) 2 K)) := mW_D hD
              refine pc_V0 (G := G) (As := [.int 93]) (rest := []) hx hb hml hown hq hE hX pX0_al hP hD hS hA hl.1 (R_take l G h0 a (upd (upd (upd (upd (upd (upd (upd F 15 (nI fa55)) 16 pl56) 27 (nI (nd57 + 1))) 31 (nI wr59)) 64 (nI at54)) 65 (nI (ne + 1))) 66 (nI lk58)) (updA X144 2 K) at54 T fa55 K 93 (by omega) (by omega) hK (by omega) (by decide) (by decide)) (gV pw_1614 pw_1615 pw_1616 pw_1523 pw_1601) hV_X12_take 0 9 rfl rfl rfl rfl (Nat.le_of_ble_eq_true rfl) dX12_newHere_181 ⟨Nat.le_of_ble_eq_true rfl, Nat.le_of_ble_eq_true rfl⟩ ⟨(by show 4 + 1 ≤ (20 * n + 8); omega), (by show 8 + (2 + 11) + 103 ≤ (1000 * n + 40 * 8); omega)⟩ (fun v149 u147 H locs hw148 hP hD hS => ?_)
              obtain ⟨at150, fa151, pl152⟩ := u147
              obtain ⟨hw148, h153, h154, h155, h156, h157, h158, h159, h160⟩ := hw148
              have h153 : at54 ≤ at150 := h153
              have h154 : at150 ≤ T := h154
              have h155 : fa55 ≤ fa151 := h155
              have h156 : fa151 ≤ 100 := h156
              have h157 : If (0 < fa55) (at150 = at54 ∧ fa151 = fa55) := h157
              have h158 : at150 ≤ at54 + 1 := h158
              have h159 : at54 + 1 ≤ at150 + fa151 := h159
              have h160 : If (fa151 = 0) (K at54 = 93) := h160
              obtain rfl : v149 = none := hw148
              have hP : va_P G.1 pCl (mW G h0 a (upd (upd (upd (upd (upd (upd (upd F 15 (nI fa151)) 16 pl152) 27 (nI (nd57 + 1))) 31 (nI wr59)) 64 (nI at150)) 65 (nI (ne + 1))) 66 (nI lk58)) (updA X144 2 K)) _ := mW_to (F := F) (l1 := [(15, (nI fa55)), (16, pl56), (27, (nI (nd57 + 1))), (31, (nI wr59)), (64, (nI at54)), (65, (nI (ne + 1))), (66, (nI lk58)), (15, (nI fa151)), (16, pl152), (64, (nI at150))]) (l2 := [(15, (nI fa151)), (16, pl152), (27, (nI (nd57 + 1))), (31, (nI wr59)), (64, (nI at150)), (65, (nI (ne + 1))), (66, (nI lk58))]) (V := [(nI fa151), pl152, (nI (nd57 + 1)), (nI wr59), (nI at150), (nI (ne + 1)), (nI lk58), (nI fa151), pl152, (nI at150), (nI fa151), pl152, (nI (nd57 + 1)), (nI wr59), (nI at150), (nI (ne + 1)), (nI lk58)]) rfl rfl (show (updA (updA X144 2 K) 2 K) = (updA X144 2 K) from updsA_eq2 (F := X144) (l1 := [(2, K), (2, K)]) (l2 := [(2, K)]) (V := [K, K, K]) rfl rfl) hP
              have hD : va_D A (mW G h0 a (upd (upd (upd (upd (upd (upd (upd F 15 (nI fa151)) 16 pl152) 27 (nI (nd57 + 1))) 31 (nI wr59)) 64 (nI at150)) 65 (nI (ne + 1))) 66 (nI lk58)) (updA X144 2 K)) := mW_D hD
              refine W.widen (k := 0) (n := 0) (Nat.le_of_ble_eq_true rfl) (Nat.le_of_ble_eq_true rfl) ?_
              refine W.eq (g2 := F0 m 184 ls []) rfl ?_
              obtain ⟨n162, n161⟩ := h157 e77
              replace n162 := n162.symm
              subst n162
              replace n161 := n161.symm
              subst n161
              refine lv_aload_n hx hb dX12_newHere_184 rfl (lv_at hl 3 rfl) ?_
              refine lv_dup hx hb dX12_newHere_185 rfl ?_
              refine r_get (v := .int (nI (ne + 1))) hx hb hown hq hE hP 65 366 tFX12_65 (by decide) pw_1612 rfl dX12_newHere_186 ?_
              refine lv_iconst (v := 1) hx hb dX12_newHere_189 (by decide) ?_
              refine lv_isub hx hb dX12_newHere_190 ?_
              refine lv_topi (fun x163 e164 => ?_)
              obtain rfl : x163 = nI ((ne + 1) - 1) := e164.trans (nI_subN (a := 1) (b := (ne + 1)) (by omega))
              refine r_put (v := (nI ((ne + 1) - 1))) (ty := .int) hx hb hown hq hE hP hD hS 65 366 tFX12_65 (by decide) pw_1612 (by decide) rfl rfl (ms_65 a _ _) dX12_newHere_191 (fun H locs hP hD hS => ?_)
              refine lv_iload hx hb dX12_newHere_194 (lv_at hl 0 rfl) ?_
              have hz165 : at0 ≤ at54 := (by omega)
              have hz166 : at54 ≤ T := (by omega)
              have hz167 : fa55 ≤ 100 := (by omega)
              have hz168 : nd ≤ (nd57 + 1) := (by omega)
              have hz169 : (nd57 + 1) + 2 * at0 ≤ nd + 2 * at54 + 100000 * fa55 := (by omega)
              have hz170 : (nd57 + 1) + 2 * at0 ≤ nd + 2 * at54 + 40 * (21 - ne) := (by omega)
              have hz171 : wr ≤ wr59 := (by omega)
              have hz172 : wr59 + at0 ≤ wr + at54 := (by omega)
              have hz173 : lk ≤ lk58 := (by omega)
              have hz174 : lk58 ≤ 60 + 100 * fa55 := (by omega)
              have hz175 : at0 + 1 ≤ at54 + fa55 := (by omega)
              have hz176 : nd57 ≤ (nd57 + 1) := (by omega)
              have hz177 : Kp B X144 wr59 T := hkp146
              have hz178 : If (fa55 = 0) (Low B X144 nd wr ∧ Frs K T wr59 X144 nd (nd57 + 1) 20000 [(nd57, (210 + lk58 - (10 * ne + lk)))] ∧ kcl 1 (X144 9 nd57) = true) := (fun e => absurd e (by omega))
              have hP : va_P G.1 pCl (mW G h0 a (upd (upd (upd (upd (upd (upd (upd F 15 (nI fa55)) 16 pl152) 27 (nI (nd57 + 1))) 31 (nI wr59)) 64 (nI at54)) 65 (nI ne)) 66 (nI lk58)) (updA X144 2 K)) _ := hP
              have hD : va_D A (mW G h0 a (upd (upd (upd (upd (upd (upd (upd F 15 (nI fa55)) 16 pl152) 27 (nI (nd57 + 1))) 31 (nI wr59)) 64 (nI at54)) 65 (nI ne)) 66 (nI lk58)) (updA X144 2 K)) := mW_D hD
              exact W.iret (v := (nI nd57)) hx hb hr (fun t9 ht9 hW9 => ⟨⟨_, (at54, fa55, pl152, (nd57 + 1), lk58, wr59, nd57, X144), rfl, ⟨rfl, hz165, hz166, hz167, hz168, hz169, hz170, hz171, hz172, hz173, hz174, hz175, hz176, hz177, hz178⟩, by rw [ht9]; exact hP, hD⟩, hS.F ht9⟩) hS.2.2 dX12_newHere_196
          · have e50 := e50
            refine lv_aload_n hx hb dX12_newHere_163 rfl (lv_at hl 2 rfl) ?_
            refine lv_bipush (v := 10) hx hb dX12_newHere_164 (by decide) ?_
            refine lv_iload_n hx hb dX12_newHere_166 rfl (lv_at hl 3 rfl) ?_
            refine lv_iload_n hx hb dX12_newHere_167 rfl (lv_at hl 1 rfl) ?_
            refine lv_aload_n hx hb dX12_newHere_168 rfl (lv_at hl 2 rfl) ?_
            have hP : va_P G.1 pCl (mW G h0 a (upd (upd (upd (upd (upd (upd (upd (upd (upd F 15 (nI fa40)) 16 pl41) 27 (nI nd)) 31 (nI (wr + 1))) 64 (nI at39)) 65 (nI (ne + 1))) 66 (nI lk)) 15 (nI fa40)) 64 (nI at39)) (updA (updA (updA (updA B 19 (upd (B 19) wr (nI at0))) 20 (upd (B 20) wr 0)) 2 K) 2 K)) _ := mW_to (F := F) (l1 := [(15, (nI fa40)), (16, pl41), (27, (nI nd)), (31, (nI (wr + 1))), (64, (nI at39)), (65, (nI (ne + 1))), (66, (nI lk))]) (l2 := [(15, (nI fa40)), (16, pl41), (27, (nI nd)), (31, (nI (wr + 1))), (64, (nI at39)), (65, (nI (ne + 1))), (66, (nI lk)), (15, (nI fa40)), (64, (nI at39))]) (V := [(nI fa40), pl41, (nI nd), (nI (wr + 1)), (nI at39), (nI (ne + 1)), (nI lk), (nI fa40), pl41, (nI nd), (nI (wr + 1)), (nI at39), (nI (ne + 1)), (nI lk), (nI fa40), (nI at39)]) rfl rfl (show (updA (updA (updA B 19 (upd (B 19) wr (nI at0))) 20 (upd (B 20) wr 0)) 2 K) = (updA (updA (updA (updA B 19 (upd (B 19) wr (nI at0))) 20 (upd (B 20) wr 0)) 2 K) 2 K) from updsA_eq2 (F := B) (l1 := [(19, (upd (B 19) wr (nI at0))), (20, (upd (B 20) wr 0)), (2, K)]) (l2 := [(19, (upd (B 19) wr (nI at0))), (20, (upd (B 20) wr 0)), (2, K), (2, K)]) (V := [(upd (B 19) wr (nI at0)), (upd (B 20) wr 0), K, (upd (B 19) wr (nI at0)), (upd (B 20) wr 0), K, K]) rfl rfl) hP
            have hD : va_D A (mW G h0 a (upd (upd (upd (upd (upd (upd (upd (upd (upd F 15 (nI fa40)) 16 pl41) 27 (nI nd)) 31 (nI (wr + 1))) 64 (nI at39)) 65 (nI (ne + 1))) 66 (nI lk)) 15 (nI fa40)) 64 (nI at39)) (updA (updA (updA (updA B 19 (upd (B 19) wr (nI at0))) 20 (upd (B 20) wr 0)) 2 K) 2 K)) := mW_D hD
            refine pc_V0 (G := G) (As := []) (rest := [.int (nI at0), .int (nI fi), .int 10, .ref h0]) hx hb hml hown hq hE hX pX0_al hP hD hS hA hl.1 (RF_choice l G h0 a (upd (upd (upd (upd (upd (upd (upd F 15 (nI fa40)) 16 pl41) 27 (nI nd)) 31 (nI (wr + 1))) 64 (nI at39)) 65 (nI (ne + 1))) 66 (nI lk)) (updA (updA (updA B 19 (upd (B 19) wr (nI at0))) 20 (upd (B 20) wr 0)) 2 K) at39 T fa40 K (by omega) (by omega) hK (by omega) e50) (gV pw_1640 pw_1641 pw_1642 pw_1523 pw_1656) hV_X12_choice 0 9 rfl rfl rfl rfl (Nat.le_of_ble_eq_true rfl) dX12_newHere_169 ⟨Nat.le_of_ble_eq_true rfl, Nat.le_of_ble_eq_true rfl⟩ ⟨(by show 16 + 1 ≤ (20 * n + 8); omega), (by show 8 + (4 + 11) + 405 ≤ (1000 * n + 40 * 8); omega)⟩ (fun v181 u179 H locs hw180 hP hD hS => ?_)
            obtain rfl : v181 = some (.int 0) := hw180
            have hP : va_P G.1 pCl (mW G h0 a (upd (upd (upd (upd (upd (upd (upd F 15 (nI fa40)) 16 pl41) 27 (nI nd)) 31 (nI (wr + 1))) 64 (nI at39)) 65 (nI (ne + 1))) 66 (nI lk)) (updA (updA (updA B 19 (upd (B 19) wr (nI at0))) 20 (upd (B 20) wr 0)) 2 K)) _ := mW_to (F := F) (l1 := [(15, (nI fa40)), (16, pl41), (27, (nI nd)), (31, (nI (wr + 1))), (64, (nI at39)), (65, (nI (ne + 1))), (66, (nI lk)), (15, (nI fa40)), (64, (nI at39))]) (l2 := [(15, (nI fa40)), (16, pl41), (27, (nI nd)), (31, (nI (wr + 1))), (64, (nI at39)), (65, (nI (ne + 1))), (66, (nI lk))]) (V := [(nI fa40), pl41, (nI nd), (nI (wr + 1)), (nI at39), (nI (ne + 1)), (nI lk), (nI fa40), (nI at39), (nI fa40), pl41, (nI nd), (nI (wr + 1)), (nI at39), (nI (ne + 1)), (nI lk)]) rfl rfl (show (updA (updA (updA (updA B 19 (upd (B 19) wr (nI at0))) 20 (upd (B 20) wr 0)) 2 K) 2 K) = (updA (updA (updA B 19 (upd (B 19) wr (nI at0))) 20 (upd (B 20) wr 0)) 2 K) from updsA_eq2 (F := B) (l1 := [(19, (upd (B 19) wr (nI at0))), (20, (upd (B 20) wr 0)), (2, K), (2, K)]) (l2 := [(19, (upd (B 19) wr (nI at0))), (20, (upd (B 20) wr 0)), (2, K)]) (V := [(upd (B 19) wr (nI at0)), (upd (B 20) wr 0), K, K, (upd (B 19) wr (nI at0)), (upd (B 20) wr 0), K]) rfl rfl) hP
            have hD : va_D A (mW G h0 a (upd (upd (upd (upd (upd (upd (upd F 15 (nI fa40)) 16 pl41) 27 (nI nd)) 31 (nI (wr + 1))) 64 (nI at39)) 65 (nI (ne + 1))) 66 (nI lk)) (updA (updA (updA B 19 (upd (B 19) wr (nI at0))) 20 (upd (B 20) wr 0)) 2 K)) := mW_D hD
            refine W.widen (k := 0) (n := 0) (Nat.le_of_ble_eq_true rfl) (Nat.le_of_ble_eq_true rfl) ?_
            refine W.eq (g2 := F0 m 172 ls [.int 0, .int (nI at0), .int (nI fi), .int 10, .ref h0]) rfl ?_
            refine lv_iload_n hx hb dX12_newHere_172 rfl (lv_at hl 0 rfl) ?_
            have hP : va_P G.1 pCl (mW G h0 a (upd (upd (upd (upd (upd (upd (upd (upd F 15 (nI fa40)) 16 pl41) 27 (nI nd)) 31 (nI (wr + 1))) 64 (nI at39)) 65 (nI (ne + 1))) 66 (nI lk)) 27 (nI nd)) (updA (updA (updA B 19 (upd (B 19) wr (nI at0))) 20 (upd (B 20) wr 0)) 2 K)) _ := mW_to (F := F) (l1 := [(15, (nI fa40)), (16, pl41), (27, (nI nd)), (31, (nI (wr + 1))), (64, (nI at39)), (65, (nI (ne + 1))), (66, (nI lk))]) (l2 := [(15, (nI fa40)), (16, pl41), (27, (nI nd)), (31, (nI (wr + 1))), (64, (nI at39)), (65, (nI (ne + 1))), (66, (nI lk)), (27, (nI nd))]) (V := [(nI fa40), pl41, (nI nd), (nI (wr + 1)), (nI at39), (nI (ne + 1)), (nI lk), (nI fa40), pl41, (nI nd), (nI (wr + 1)), (nI at39), (nI (ne + 1)), (nI lk), (nI nd)]) rfl rfl rfl hP
            have hD : va_D A (mW G h0 a (upd (upd (upd (upd (upd (upd (upd (upd F 15 (nI fa40)) 16 pl41) 27 (nI nd)) 31 (nI (wr + 1))) 64 (nI at39)) 65 (nI (ne + 1))) 66 (nI lk)) 27 (nI nd)) (updA (updA (updA B 19 (upd (B 19) wr (nI at0))) 20 (upd (B 20) wr 0)) 2 K)) := mW_D hD
            refine pc_V0 (G := G) (As := [.int 10, .int (nI fi), .int (nI at0), .int 0, .int (nI wr)]) (rest := []) hx hb hml hown hq hE hX pX0_al hP hD hS hA hl.1 (R_nodeB l G h0 a (upd (upd (upd (upd (upd (upd (upd F 15 (nI fa40)) 16 pl41) 27 (nI nd)) 31 (nI (wr + 1))) 64 (nI at39)) 65 (nI (ne + 1))) 66 (nI lk)) (updA (updA B 19 (upd (B 19) wr (nI at0))) 20 (upd (B 20) wr 0)) 10 (nI fi) (nI at0) 0 (nI wr) nd K (by omega)) (gV pw_1650 pw_1651 pw_1652 pw_1523 pw_1589) hV_X12_node 0 9 rfl rfl rfl rfl (Nat.le_of_ble_eq_true rfl) dX12_newHere_173 ⟨Nat.le_of_ble_eq_true rfl, Nat.le_of_ble_eq_true rfl⟩ ⟨(by show 2 + 1 ≤ (20 * n + 8); omega), (by show 8 + (7 + 11) + 60 ≤ (1000 * n + 40 * 8); omega)⟩ (fun v184 u182 H locs hw183 hP hD hS => ?_)
            obtain ⟨X185, rfl⟩ : ∃ z, z = u182 := ⟨_, rfl⟩
            obtain ⟨hw183, h186⟩ := hw183
            have h186 : NewN (updA (updA B 19 (upd (B 19) wr (nI at0))) 20 (upd (B 20) wr 0)) X185 nd 10 (nI fi) (nI at0) 0 (nI wr) := h186
            obtain rfl : v184 = some (.int (nI nd)) := hw183
            have hP : va_P G.1 pCl (mW G h0 a (upd (upd (upd (upd (upd (upd (upd F 15 (nI fa40)) 16 pl41) 27 (nI (nd + 1))) 31 (nI (wr + 1))) 64 (nI at39)) 65 (nI (ne + 1))) 66 (nI lk)) (updA X185 2 K)) _ := mW_to (F := F) (l1 := [(15, (nI fa40)), (16, pl41), (27, (nI nd)), (31, (nI (wr + 1))), (64, (nI at39)), (65, (nI (ne + 1))), (66, (nI lk)), (27, (nI (nd + 1)))]) (l2 := [(15, (nI fa40)), (16, pl41), (27, (nI (nd + 1))), (31, (nI (wr + 1))), (64, (nI at39)), (65, (nI (ne + 1))), (66, (nI lk))]) (V := [(nI fa40), pl41, (nI (nd + 1)), (nI (wr + 1)), (nI at39), (nI (ne + 1)), (nI lk), (nI (nd + 1)), (nI fa40), pl41, (nI (nd + 1)), (nI (wr + 1)), (nI at39), (nI (ne + 1)), (nI lk)]) rfl rfl rfl hP
            have hD : va_D A (mW G h0 a (upd (upd (upd (upd (upd (upd (upd F 15 (nI fa40)) 16 pl41) 27 (nI (nd + 1))) 31 (nI (wr + 1))) 64 (nI at39)) 65 (nI (ne + 1))) 66 (nI lk)) (updA X185 2 K)) := mW_D hD
            refine W.widen (k := 0) (n := 0) (Nat.le_of_ble_eq_true rfl) (Nat.le_of_ble_eq_true rfl) ?_
            refine W.eq (g2 := F0 m 176 ls [.int (nI nd)]) rfl ?_
            have hkp187 : Kp B X185 (wr + 1) T := (Kp.new hkp18 h186)
            refine lv_istore (lv' := [(4, .int (nI nd)), (3, .int (nI wr)), (2, .int (nI at0)), (0, .ref h0), (1, .int (nI fi))]) hx hb dX12_newHere_176 hl (by decide) rfl (fun ls hl => ?_)
            refine lv_aload_n hx hb dX12_newHere_178 rfl (lv_at hl 3 rfl) ?_
            refine lv_bipush (v := 93) hx hb dX12_newHere_179 (by decide) ?_
            have hP : va_P G.1 pCl (mW G h0 a (upd (upd (upd (upd (upd (upd (upd (upd (upd F 15 (nI fa40)) 16 pl41) 27 (nI (nd + 1))) 31 (nI (wr + 1))) 64 (nI at39)) 65 (nI (ne + 1))) 66 (nI lk)) 15 (nI fa40)) 64 (nI at39)) (updA (updA X185 2 K) 2 K)) _ := mW_to (F := F) (l1 := [(15, (nI fa40)), (16, pl41), (27, (nI (nd + 1))), (31, (nI (wr + 1))), (64, (nI at39)), (65, (nI (ne + 1))), (66, (nI lk))]) (l2 := [(15, (nI fa40)), (16, pl41), (27, (nI (nd + 1))), (31, (nI (wr + 1))), (64, (nI at39)), (65, (nI (ne + 1))), (66, (nI lk)), (15, (nI fa40)), (64, (nI at39))]) (V := [(nI fa40), pl41, (nI (nd + 1)), (nI (wr + 1)), (nI at39), (nI (ne + 1)), (nI lk), (nI fa40), pl41, (nI (nd + 1)), (nI (wr + 1)), (nI at39), (nI (ne + 1)), (nI lk), (nI fa40), (nI at39)]) rfl rfl (show (updA X185 2 K) = (updA (updA X185 2 K) 2 K) from updsA_eq2 (F := X185) (l1 := [(2, K)]) (l2 := [(2, K), (2, K)]) (V := [K, K, K]) rfl rfl) hP
            have hD : va_D A (mW G h0 a (upd (upd (upd (upd (upd (upd (upd (upd (upd F 15 (nI fa40)) 16 pl41) 27 (nI (nd + 1))) 31 (nI (wr + 1))) 64 (nI at39)) 65 (nI (ne + 1))) 66 (nI lk)) 15 (nI fa40)) 64 (nI at39)) (updA (updA X185 2 K) 2 K)) := mW_D hD
            refine pc_V0 (G := G) (As := [.int 93]) (rest := []) hx hb hml hown hq hE hX pX0_al hP hD hS hA hl.1 (R_take l G h0 a (upd (upd (upd (upd (upd (upd (upd F 15 (nI fa40)) 16 pl41) 27 (nI (nd + 1))) 31 (nI (wr + 1))) 64 (nI at39)) 65 (nI (ne + 1))) 66 (nI lk)) (updA X185 2 K) at39 T fa40 K 93 (by omega) (by omega) hK (by omega) (by decide) (by decide)) (gV pw_1614 pw_1615 pw_1616 pw_1523 pw_1601) hV_X12_take 0 9 rfl rfl rfl rfl (Nat.le_of_ble_eq_true rfl) dX12_newHere_181 ⟨Nat.le_of_ble_eq_true rfl, Nat.le_of_ble_eq_true rfl⟩ ⟨(by show 4 + 1 ≤ (20 * n + 8); omega), (by show 8 + (2 + 11) + 103 ≤ (1000 * n + 40 * 8); omega)⟩ (fun v190 u188 H locs hw189 hP hD hS => ?_)
            obtain ⟨at191, fa192, pl193⟩ := u188
            obtain ⟨hw189, h194, h195, h196, h197, h198, h199, h200, h201⟩ := hw189
            have h194 : at39 ≤ at191 := h194
            have h195 : at191 ≤ T := h195
            have h196 : fa40 ≤ fa192 := h196
            have h197 : fa192 ≤ 100 := h197
            have h198 : If (0 < fa40) (at191 = at39 ∧ fa192 = fa40) := h198
            have h199 : at191 ≤ at39 + 1 := h199
            have h200 : at39 + 1 ≤ at191 + fa192 := h200
            have h201 : If (fa192 = 0) (K at39 = 93) := h201
            obtain rfl : v190 = none := hw189
            have hP : va_P G.1 pCl (mW G h0 a (upd (upd (upd (upd (upd (upd (upd F 15 (nI fa192)) 16 pl193) 27 (nI (nd + 1))) 31 (nI (wr + 1))) 64 (nI at191)) 65 (nI (ne + 1))) 66 (nI lk)) (updA X185 2 K)) _ := mW_to (F := F) (l1 := [(15, (nI fa40)), (16, pl41), (27, (nI (nd + 1))), (31, (nI (wr + 1))), (64, (nI at39)), (65, (nI (ne + 1))), (66, (nI lk)), (15, (nI fa192)), (16, pl193), (64, (nI at191))]) (l2 := [(15, (nI fa192)), (16, pl193), (27, (nI (nd + 1))), (31, (nI (wr + 1))), (64, (nI at191)), (65, (nI (ne + 1))), (66, (nI lk))]) (V := [(nI fa192), pl193, (nI (nd + 1)), (nI (wr + 1)), (nI at191), (nI (ne + 1)), (nI lk), (nI fa192), pl193, (nI at191), (nI fa192), pl193, (nI (nd + 1)), (nI (wr + 1)), (nI at191), (nI (ne + 1)), (nI lk)]) rfl rfl (show (updA (updA X185 2 K) 2 K) = (updA X185 2 K) from updsA_eq2 (F := X185) (l1 := [(2, K), (2, K)]) (l2 := [(2, K)]) (V := [K, K, K]) rfl rfl) hP
            have hD : va_D A (mW G h0 a (upd (upd (upd (upd (upd (upd (upd F 15 (nI fa192)) 16 pl193) 27 (nI (nd + 1))) 31 (nI (wr + 1))) 64 (nI at191)) 65 (nI (ne + 1))) 66 (nI lk)) (updA X185 2 K)) := mW_D hD
            refine W.widen (k := 0) (n := 0) (Nat.le_of_ble_eq_true rfl) (Nat.le_of_ble_eq_true rfl) ?_
            refine W.eq (g2 := F0 m 184 ls []) rfl ?_
            obtain ⟨n203, n202⟩ := h198 e50
            replace n203 := n203.symm
            subst n203
            replace n202 := n202.symm
            subst n202
            refine lv_aload_n hx hb dX12_newHere_184 rfl (lv_at hl 3 rfl) ?_
            refine lv_dup hx hb dX12_newHere_185 rfl ?_
            refine r_get (v := .int (nI (ne + 1))) hx hb hown hq hE hP 65 366 tFX12_65 (by decide) pw_1612 rfl dX12_newHere_186 ?_
            refine lv_iconst (v := 1) hx hb dX12_newHere_189 (by decide) ?_
            refine lv_isub hx hb dX12_newHere_190 ?_
            refine lv_topi (fun x204 e205 => ?_)
            obtain rfl : x204 = nI ((ne + 1) - 1) := e205.trans (nI_subN (a := 1) (b := (ne + 1)) (by omega))
            refine r_put (v := (nI ((ne + 1) - 1))) (ty := .int) hx hb hown hq hE hP hD hS 65 366 tFX12_65 (by decide) pw_1612 (by decide) rfl rfl (ms_65 a _ _) dX12_newHere_191 (fun H locs hP hD hS => ?_)
            refine lv_iload hx hb dX12_newHere_194 (lv_at hl 0 rfl) ?_
            have hz206 : at0 ≤ at39 := (by omega)
            have hz207 : at39 ≤ T := (by omega)
            have hz208 : fa40 ≤ 100 := (by omega)
            have hz209 : nd ≤ (nd + 1) := (by omega)
            have hz210 : (nd + 1) + 2 * at0 ≤ nd + 2 * at39 + 100000 * fa40 := (by omega)
            have hz211 : (nd + 1) + 2 * at0 ≤ nd + 2 * at39 + 40 * (21 - ne) := (by omega)
            have hz212 : wr ≤ (wr + 1) := (by omega)
            have hz213 : (wr + 1) + at0 ≤ wr + at39 := (by omega)
            have hz214 : lk ≤ lk := (by omega)
            have hz215 : lk ≤ 60 + 100 * fa40 := (by omega)
            have hz216 : at0 + 1 ≤ at39 + fa40 := (by omega)
            have hz217 : nd ≤ (nd + 1) := (by omega)
            have hz218 : Kp B X185 (wr + 1) T := hkp187
            have hz219 : If (fa40 = 0) (Low B X185 nd wr ∧ Frs K T (wr + 1) X185 nd (nd + 1) 20000 [(nd, (210 + lk - (10 * ne + lk)))] ∧ kcl 1 (X185 9 nd) = true) := (fun e => absurd e (by omega))
            have hP : va_P G.1 pCl (mW G h0 a (upd (upd (upd (upd (upd (upd (upd F 15 (nI fa40)) 16 pl193) 27 (nI (nd + 1))) 31 (nI (wr + 1))) 64 (nI at39)) 65 (nI ne)) 66 (nI lk)) (updA X185 2 K)) _ := hP
            have hD : va_D A (mW G h0 a (upd (upd (upd (upd (upd (upd (upd F 15 (nI fa40)) 16 pl193) 27 (nI (nd + 1))) 31 (nI (wr + 1))) 64 (nI at39)) 65 (nI ne)) 66 (nI lk)) (updA X185 2 K)) := mW_D hD
            exact W.iret (v := (nI nd)) hx hb hr (fun t9 ht9 hW9 => ⟨⟨_, (at39, fa40, pl193, (nd + 1), lk, (wr + 1), nd, X185), rfl, ⟨rfl, hz206, hz207, hz208, hz209, hz210, hz211, hz212, hz213, hz214, hz215, hz216, hz217, hz218, hz219⟩, by rw [ht9]; exact hP, hD⟩, hS.F ht9⟩) hS.2.2 dX12_newHere_196
        · have e34 := e34
          refine lv_aload_n hx hb dX12_newHere_157 rfl (lv_at hl 2 rfl) ?_
          refine lv_bipush (v := 91) hx hb dX12_newHere_158 (by decide) ?_
          have hP : va_P G.1 pCl (mW G h0 a (upd (upd (upd (upd (upd (upd (upd (upd (upd F 15 (nI fa28)) 16 pl29) 27 (nI nd)) 31 (nI (wr + 1))) 64 (nI (at0 + 1))) 65 (nI (ne + 1))) 66 (nI lk)) 15 (nI fa28)) 64 (nI (at0 + 1))) (updA (updA (updA (updA B 19 (upd (B 19) wr (nI at0))) 20 (upd (B 20) wr 0)) 2 K) 2 K)) _ := mW_to (F := F) (l1 := [(15, (nI fa28)), (16, pl29), (27, (nI nd)), (31, (nI (wr + 1))), (64, (nI (at0 + 1))), (65, (nI (ne + 1))), (66, (nI lk))]) (l2 := [(15, (nI fa28)), (16, pl29), (27, (nI nd)), (31, (nI (wr + 1))), (64, (nI (at0 + 1))), (65, (nI (ne + 1))), (66, (nI lk)), (15, (nI fa28)), (64, (nI (at0 + 1)))]) (V := [(nI fa28), pl29, (nI nd), (nI (wr + 1)), (nI (at0 + 1)), (nI (ne + 1)), (nI lk), (nI fa28), pl29, (nI nd), (nI (wr + 1)), (nI (at0 + 1)), (nI (ne + 1)), (nI lk), (nI fa28), (nI (at0 + 1))]) rfl rfl (show (updA (updA (updA B 19 (upd (B 19) wr (nI at0))) 20 (upd (B 20) wr 0)) 2 K) = (updA (updA (updA (updA B 19 (upd (B 19) wr (nI at0))) 20 (upd (B 20) wr 0)) 2 K) 2 K) from updsA_eq2 (F := B) (l1 := [(19, (upd (B 19) wr (nI at0))), (20, (upd (B 20) wr 0)), (2, K)]) (l2 := [(19, (upd (B 19) wr (nI at0))), (20, (upd (B 20) wr 0)), (2, K), (2, K)]) (V := [(upd (B 19) wr (nI at0)), (upd (B 20) wr 0), K, (upd (B 19) wr (nI at0)), (upd (B 20) wr 0), K, K]) rfl rfl) hP
          have hD : va_D A (mW G h0 a (upd (upd (upd (upd (upd (upd (upd (upd (upd F 15 (nI fa28)) 16 pl29) 27 (nI nd)) 31 (nI (wr + 1))) 64 (nI (at0 + 1))) 65 (nI (ne + 1))) 66 (nI lk)) 15 (nI fa28)) 64 (nI (at0 + 1))) (updA (updA (updA (updA B 19 (upd (B 19) wr (nI at0))) 20 (upd (B 20) wr 0)) 2 K) 2 K)) := mW_D hD
          refine pc_V0 (G := G) (As := [.int 91]) (rest := []) hx hb hml hown hq hE hX pX0_al hP hD hS hA hl.1 (R_take l G h0 a (upd (upd (upd (upd (upd (upd (upd F 15 (nI fa28)) 16 pl29) 27 (nI nd)) 31 (nI (wr + 1))) 64 (nI (at0 + 1))) 65 (nI (ne + 1))) 66 (nI lk)) (updA (updA (updA B 19 (upd (B 19) wr (nI at0))) 20 (upd (B 20) wr 0)) 2 K) (at0 + 1) T fa28 K 91 (by omega) (by omega) hK (by omega) (by decide) (by decide)) (gV pw_1614 pw_1615 pw_1616 pw_1523 pw_1601) hV_X12_take 0 9 rfl rfl rfl rfl (Nat.le_of_ble_eq_true rfl) dX12_newHere_160 ⟨Nat.le_of_ble_eq_true rfl, Nat.le_of_ble_eq_true rfl⟩ ⟨(by show 4 + 1 ≤ (20 * n + 8); omega), (by show 8 + (2 + 11) + 103 ≤ (1000 * n + 40 * 8); omega)⟩ (fun v222 u220 H locs hw221 hP hD hS => ?_)
          obtain ⟨at223, fa224, pl225⟩ := u220
          obtain ⟨hw221, h226, h227, h228, h229, h230, h231, h232, h233⟩ := hw221
          have h226 : (at0 + 1) ≤ at223 := h226
          have h227 : at223 ≤ T := h227
          have h228 : fa28 ≤ fa224 := h228
          have h229 : fa224 ≤ 100 := h229
          have h230 : If (0 < fa28) (at223 = (at0 + 1) ∧ fa224 = fa28) := h230
          have h231 : at223 ≤ (at0 + 1) + 1 := h231
          have h232 : (at0 + 1) + 1 ≤ at223 + fa224 := h232
          have h233 : If (fa224 = 0) (K (at0 + 1) = 91) := h233
          obtain rfl : v222 = none := hw221
          have hP : va_P G.1 pCl (mW G h0 a (upd (upd (upd (upd (upd (upd (upd F 15 (nI fa224)) 16 pl225) 27 (nI nd)) 31 (nI (wr + 1))) 64 (nI at223)) 65 (nI (ne + 1))) 66 (nI lk)) (updA (updA (updA B 19 (upd (B 19) wr (nI at0))) 20 (upd (B 20) wr 0)) 2 K)) _ := mW_to (F := F) (l1 := [(15, (nI fa28)), (16, pl29), (27, (nI nd)), (31, (nI (wr + 1))), (64, (nI (at0 + 1))), (65, (nI (ne + 1))), (66, (nI lk)), (15, (nI fa224)), (16, pl225), (64, (nI at223))]) (l2 := [(15, (nI fa224)), (16, pl225), (27, (nI nd)), (31, (nI (wr + 1))), (64, (nI at223)), (65, (nI (ne + 1))), (66, (nI lk))]) (V := [(nI fa224), pl225, (nI nd), (nI (wr + 1)), (nI at223), (nI (ne + 1)), (nI lk), (nI fa224), pl225, (nI at223), (nI fa224), pl225, (nI nd), (nI (wr + 1)), (nI at223), (nI (ne + 1)), (nI lk)]) rfl rfl (show (updA (updA (updA (updA B 19 (upd (B 19) wr (nI at0))) 20 (upd (B 20) wr 0)) 2 K) 2 K) = (updA (updA (updA B 19 (upd (B 19) wr (nI at0))) 20 (upd (B 20) wr 0)) 2 K) from updsA_eq2 (F := B) (l1 := [(19, (upd (B 19) wr (nI at0))), (20, (upd (B 20) wr 0)), (2, K), (2, K)]) (l2 := [(19, (upd (B 19) wr (nI at0))), (20, (upd (B 20) wr 0)), (2, K)]) (V := [(upd (B 19) wr (nI at0)), (upd (B 20) wr 0), K, K, (upd (B 19) wr (nI at0)), (upd (B 20) wr 0), K]) rfl rfl) hP
          have hD : va_D A (mW G h0 a (upd (upd (upd (upd (upd (upd (upd F 15 (nI fa224)) 16 pl225) 27 (nI nd)) 31 (nI (wr + 1))) 64 (nI at223)) 65 (nI (ne + 1))) 66 (nI lk)) (updA (updA (updA B 19 (upd (B 19) wr (nI at0))) 20 (upd (B 20) wr 0)) 2 K)) := mW_D hD
          refine W.widen (k := 0) (n := 0) (Nat.le_of_ble_eq_true rfl) (Nat.le_of_ble_eq_true rfl) ?_
          refine W.eq (g2 := F0 m 163 ls []) rfl ?_
          obtain ⟨n235, n234⟩ := h230 e34
          replace n235 := n235.symm
          subst n235
          replace n234 := n234.symm
          subst n234
          refine lv_aload_n hx hb dX12_newHere_163 rfl (lv_at hl 2 rfl) ?_
          refine lv_bipush (v := 10) hx hb dX12_newHere_164 (by decide) ?_
          refine lv_iload_n hx hb dX12_newHere_166 rfl (lv_at hl 3 rfl) ?_
          refine lv_iload_n hx hb dX12_newHere_167 rfl (lv_at hl 1 rfl) ?_
          refine lv_aload_n hx hb dX12_newHere_168 rfl (lv_at hl 2 rfl) ?_
          have hP : va_P G.1 pCl (mW G h0 a (upd (upd (upd (upd (upd (upd (upd (upd (upd F 15 (nI fa28)) 16 pl225) 27 (nI nd)) 31 (nI (wr + 1))) 64 (nI (at0 + 1))) 65 (nI (ne + 1))) 66 (nI lk)) 15 (nI fa28)) 64 (nI (at0 + 1))) (updA (updA (updA (updA B 19 (upd (B 19) wr (nI at0))) 20 (upd (B 20) wr 0)) 2 K) 2 K)) _ := hP
          have hD : va_D A (mW G h0 a (upd (upd (upd (upd (upd (upd (upd (upd (upd F 15 (nI fa28)) 16 pl225) 27 (nI nd)) 31 (nI (wr + 1))) 64 (nI (at0 + 1))) 65 (nI (ne + 1))) 66 (nI lk)) 15 (nI fa28)) 64 (nI (at0 + 1))) (updA (updA (updA (updA B 19 (upd (B 19) wr (nI at0))) 20 (upd (B 20) wr 0)) 2 K) 2 K)) := mW_D hD
          refine pc_V0 (G := G) (As := []) (rest := [.int (nI at0), .int (nI fi), .int 10, .ref h0]) hx hb hml hown hq hE hX pX0_al hP hD hS hA hl.1 (RF_choice l G h0 a (upd (upd (upd (upd (upd (upd (upd F 15 (nI fa28)) 16 pl225) 27 (nI nd)) 31 (nI (wr + 1))) 64 (nI (at0 + 1))) 65 (nI (ne + 1))) 66 (nI lk)) (updA (updA (updA B 19 (upd (B 19) wr (nI at0))) 20 (upd (B 20) wr 0)) 2 K) (at0 + 1) T fa28 K (by omega) (by omega) hK (by omega) e34) (gV pw_1640 pw_1641 pw_1642 pw_1523 pw_1656) hV_X12_choice 0 9 rfl rfl rfl rfl (Nat.le_of_ble_eq_true rfl) dX12_newHere_169 ⟨Nat.le_of_ble_eq_true rfl, Nat.le_of_ble_eq_true rfl⟩ ⟨(by show 16 + 1 ≤ (20 * n + 8); omega), (by show 8 + (4 + 11) + 405 ≤ (1000 * n + 40 * 8); omega)⟩ (fun v238 u236 H locs hw237 hP hD hS => ?_)
          obtain rfl : v238 = some (.int 0) := hw237
          have hP : va_P G.1 pCl (mW G h0 a (upd (upd (upd (upd (upd (upd (upd F 15 (nI fa28)) 16 pl225) 27 (nI nd)) 31 (nI (wr + 1))) 64 (nI (at0 + 1))) 65 (nI (ne + 1))) 66 (nI lk)) (updA (updA (updA B 19 (upd (B 19) wr (nI at0))) 20 (upd (B 20) wr 0)) 2 K)) _ := mW_to (F := F) (l1 := [(15, (nI fa28)), (16, pl225), (27, (nI nd)), (31, (nI (wr + 1))), (64, (nI (at0 + 1))), (65, (nI (ne + 1))), (66, (nI lk)), (15, (nI fa28)), (64, (nI (at0 + 1)))]) (l2 := [(15, (nI fa28)), (16, pl225), (27, (nI nd)), (31, (nI (wr + 1))), (64, (nI (at0 + 1))), (65, (nI (ne + 1))), (66, (nI lk))]) (V := [(nI fa28), pl225, (nI nd), (nI (wr + 1)), (nI (at0 + 1)), (nI (ne + 1)), (nI lk), (nI fa28), (nI (at0 + 1)), (nI fa28), pl225, (nI nd), (nI (wr + 1)), (nI (at0 + 1)), (nI (ne + 1)), (nI lk)]) rfl rfl (show (updA (updA (updA (updA B 19 (upd (B 19) wr (nI at0))) 20 (upd (B 20) wr 0)) 2 K) 2 K) = (updA (updA (updA B 19 (upd (B 19) wr (nI at0))) 20 (upd (B 20) wr 0)) 2 K) from updsA_eq2 (F := B) (l1 := [(19, (upd (B 19) wr (nI at0))), (20, (upd (B 20) wr 0)), (2, K), (2, K)]) (l2 := [(19, (upd (B 19) wr (nI at0))), (20, (upd (B 20) wr 0)), (2, K)]) (V := [(upd (B 19) wr (nI at0)), (upd (B 20) wr 0), K, K, (upd (B 19) wr (nI at0)), (upd (B 20) wr 0), K]) rfl rfl) hP
          have hD : va_D A (mW G h0 a (upd (upd (upd (upd (upd (upd (upd F 15 (nI fa28)) 16 pl225) 27 (nI nd)) 31 (nI (wr + 1))) 64 (nI (at0 + 1))) 65 (nI (ne + 1))) 66 (nI lk)) (updA (updA (updA B 19 (upd (B 19) wr (nI at0))) 20 (upd (B 20) wr 0)) 2 K)) := mW_D hD
          refine W.widen (k := 0) (n := 0) (Nat.le_of_ble_eq_true rfl) (Nat.le_of_ble_eq_true rfl) ?_
          refine W.eq (g2 := F0 m 172 ls [.int 0, .int (nI at0), .int (nI fi), .int 10, .ref h0]) rfl ?_
          refine lv_iload_n hx hb dX12_newHere_172 rfl (lv_at hl 0 rfl) ?_
          have hP : va_P G.1 pCl (mW G h0 a (upd (upd (upd (upd (upd (upd (upd (upd F 15 (nI fa28)) 16 pl225) 27 (nI nd)) 31 (nI (wr + 1))) 64 (nI (at0 + 1))) 65 (nI (ne + 1))) 66 (nI lk)) 27 (nI nd)) (updA (updA (updA B 19 (upd (B 19) wr (nI at0))) 20 (upd (B 20) wr 0)) 2 K)) _ := mW_to (F := F) (l1 := [(15, (nI fa28)), (16, pl225), (27, (nI nd)), (31, (nI (wr + 1))), (64, (nI (at0 + 1))), (65, (nI (ne + 1))), (66, (nI lk))]) (l2 := [(15, (nI fa28)), (16, pl225), (27, (nI nd)), (31, (nI (wr + 1))), (64, (nI (at0 + 1))), (65, (nI (ne + 1))), (66, (nI lk)), (27, (nI nd))]) (V := [(nI fa28), pl225, (nI nd), (nI (wr + 1)), (nI (at0 + 1)), (nI (ne + 1)), (nI lk), (nI fa28), pl225, (nI nd), (nI (wr + 1)), (nI (at0 + 1)), (nI (ne + 1)), (nI lk), (nI nd)]) rfl rfl rfl hP
          have hD : va_D A (mW G h0 a (upd (upd (upd (upd (upd (upd (upd (upd F 15 (nI fa28)) 16 pl225) 27 (nI nd)) 31 (nI (wr + 1))) 64 (nI (at0 + 1))) 65 (nI (ne + 1))) 66 (nI lk)) 27 (nI nd)) (updA (updA (updA B 19 (upd (B 19) wr (nI at0))) 20 (upd (B 20) wr 0)) 2 K)) := mW_D hD
          refine pc_V0 (G := G) (As := [.int 10, .int (nI fi), .int (nI at0), .int 0, .int (nI wr)]) (rest := []) hx hb hml hown hq hE hX pX0_al hP hD hS hA hl.1 (R_nodeB l G h0 a (upd (upd (upd (upd (upd (upd (upd F 15 (nI fa28)) 16 pl225) 27 (nI nd)) 31 (nI (wr + 1))) 64 (nI (at0 + 1))) 65 (nI (ne + 1))) 66 (nI lk)) (updA (updA B 19 (upd (B 19) wr (nI at0))) 20 (upd (B 20) wr 0)) 10 (nI fi) (nI at0) 0 (nI wr) nd K (by omega)) (gV pw_1650 pw_1651 pw_1652 pw_1523 pw_1589) hV_X12_node 0 9 rfl rfl rfl rfl (Nat.le_of_ble_eq_true rfl) dX12_newHere_173 ⟨Nat.le_of_ble_eq_true rfl, Nat.le_of_ble_eq_true rfl⟩ ⟨(by show 2 + 1 ≤ (20 * n + 8); omega), (by show 8 + (7 + 11) + 60 ≤ (1000 * n + 40 * 8); omega)⟩ (fun v241 u239 H locs hw240 hP hD hS => ?_)
          obtain ⟨X242, rfl⟩ : ∃ z, z = u239 := ⟨_, rfl⟩
          obtain ⟨hw240, h243⟩ := hw240
          have h243 : NewN (updA (updA B 19 (upd (B 19) wr (nI at0))) 20 (upd (B 20) wr 0)) X242 nd 10 (nI fi) (nI at0) 0 (nI wr) := h243
          obtain rfl : v241 = some (.int (nI nd)) := hw240
          have hP : va_P G.1 pCl (mW G h0 a (upd (upd (upd (upd (upd (upd (upd F 15 (nI fa28)) 16 pl225) 27 (nI (nd + 1))) 31 (nI (wr + 1))) 64 (nI (at0 + 1))) 65 (nI (ne + 1))) 66 (nI lk)) (updA X242 2 K)) _ := mW_to (F := F) (l1 := [(15, (nI fa28)), (16, pl225), (27, (nI nd)), (31, (nI (wr + 1))), (64, (nI (at0 + 1))), (65, (nI (ne + 1))), (66, (nI lk)), (27, (nI (nd + 1)))]) (l2 := [(15, (nI fa28)), (16, pl225), (27, (nI (nd + 1))), (31, (nI (wr + 1))), (64, (nI (at0 + 1))), (65, (nI (ne + 1))), (66, (nI lk))]) (V := [(nI fa28), pl225, (nI (nd + 1)), (nI (wr + 1)), (nI (at0 + 1)), (nI (ne + 1)), (nI lk), (nI (nd + 1)), (nI fa28), pl225, (nI (nd + 1)), (nI (wr + 1)), (nI (at0 + 1)), (nI (ne + 1)), (nI lk)]) rfl rfl rfl hP
          have hD : va_D A (mW G h0 a (upd (upd (upd (upd (upd (upd (upd F 15 (nI fa28)) 16 pl225) 27 (nI (nd + 1))) 31 (nI (wr + 1))) 64 (nI (at0 + 1))) 65 (nI (ne + 1))) 66 (nI lk)) (updA X242 2 K)) := mW_D hD
          refine W.widen (k := 0) (n := 0) (Nat.le_of_ble_eq_true rfl) (Nat.le_of_ble_eq_true rfl) ?_
          refine W.eq (g2 := F0 m 176 ls [.int (nI nd)]) rfl ?_
          have hkp244 : Kp B X242 (wr + 1) T := (Kp.new hkp18 h243)
          refine lv_istore (lv' := [(4, .int (nI nd)), (3, .int (nI wr)), (2, .int (nI at0)), (0, .ref h0), (1, .int (nI fi))]) hx hb dX12_newHere_176 hl (by decide) rfl (fun ls hl => ?_)
          refine lv_aload_n hx hb dX12_newHere_178 rfl (lv_at hl 3 rfl) ?_
          refine lv_bipush (v := 93) hx hb dX12_newHere_179 (by decide) ?_
          have hP : va_P G.1 pCl (mW G h0 a (upd (upd (upd (upd (upd (upd (upd (upd (upd F 15 (nI fa28)) 16 pl225) 27 (nI (nd + 1))) 31 (nI (wr + 1))) 64 (nI (at0 + 1))) 65 (nI (ne + 1))) 66 (nI lk)) 15 (nI fa28)) 64 (nI (at0 + 1))) (updA (updA X242 2 K) 2 K)) _ := mW_to (F := F) (l1 := [(15, (nI fa28)), (16, pl225), (27, (nI (nd + 1))), (31, (nI (wr + 1))), (64, (nI (at0 + 1))), (65, (nI (ne + 1))), (66, (nI lk))]) (l2 := [(15, (nI fa28)), (16, pl225), (27, (nI (nd + 1))), (31, (nI (wr + 1))), (64, (nI (at0 + 1))), (65, (nI (ne + 1))), (66, (nI lk)), (15, (nI fa28)), (64, (nI (at0 + 1)))]) (V := [(nI fa28), pl225, (nI (nd + 1)), (nI (wr + 1)), (nI (at0 + 1)), (nI (ne + 1)), (nI lk), (nI fa28), pl225, (nI (nd + 1)), (nI (wr + 1)), (nI (at0 + 1)), (nI (ne + 1)), (nI lk), (nI fa28), (nI (at0 + 1))]) rfl rfl (show (updA X242 2 K) = (updA (updA X242 2 K) 2 K) from updsA_eq2 (F := X242) (l1 := [(2, K)]) (l2 := [(2, K), (2, K)]) (V := [K, K, K]) rfl rfl) hP
          have hD : va_D A (mW G h0 a (upd (upd (upd (upd (upd (upd (upd (upd (upd F 15 (nI fa28)) 16 pl225) 27 (nI (nd + 1))) 31 (nI (wr + 1))) 64 (nI (at0 + 1))) 65 (nI (ne + 1))) 66 (nI lk)) 15 (nI fa28)) 64 (nI (at0 + 1))) (updA (updA X242 2 K) 2 K)) := mW_D hD
          refine pc_V0 (G := G) (As := [.int 93]) (rest := []) hx hb hml hown hq hE hX pX0_al hP hD hS hA hl.1 (R_take l G h0 a (upd (upd (upd (upd (upd (upd (upd F 15 (nI fa28)) 16 pl225) 27 (nI (nd + 1))) 31 (nI (wr + 1))) 64 (nI (at0 + 1))) 65 (nI (ne + 1))) 66 (nI lk)) (updA X242 2 K) (at0 + 1) T fa28 K 93 (by omega) (by omega) hK (by omega) (by decide) (by decide)) (gV pw_1614 pw_1615 pw_1616 pw_1523 pw_1601) hV_X12_take 0 9 rfl rfl rfl rfl (Nat.le_of_ble_eq_true rfl) dX12_newHere_181 ⟨Nat.le_of_ble_eq_true rfl, Nat.le_of_ble_eq_true rfl⟩ ⟨(by show 4 + 1 ≤ (20 * n + 8); omega), (by show 8 + (2 + 11) + 103 ≤ (1000 * n + 40 * 8); omega)⟩ (fun v247 u245 H locs hw246 hP hD hS => ?_)
          obtain ⟨at248, fa249, pl250⟩ := u245
          obtain ⟨hw246, h251, h252, h253, h254, h255, h256, h257, h258⟩ := hw246
          have h251 : (at0 + 1) ≤ at248 := h251
          have h252 : at248 ≤ T := h252
          have h253 : fa28 ≤ fa249 := h253
          have h254 : fa249 ≤ 100 := h254
          have h255 : If (0 < fa28) (at248 = (at0 + 1) ∧ fa249 = fa28) := h255
          have h256 : at248 ≤ (at0 + 1) + 1 := h256
          have h257 : (at0 + 1) + 1 ≤ at248 + fa249 := h257
          have h258 : If (fa249 = 0) (K (at0 + 1) = 93) := h258
          obtain rfl : v247 = none := hw246
          have hP : va_P G.1 pCl (mW G h0 a (upd (upd (upd (upd (upd (upd (upd F 15 (nI fa249)) 16 pl250) 27 (nI (nd + 1))) 31 (nI (wr + 1))) 64 (nI at248)) 65 (nI (ne + 1))) 66 (nI lk)) (updA X242 2 K)) _ := mW_to (F := F) (l1 := [(15, (nI fa28)), (16, pl225), (27, (nI (nd + 1))), (31, (nI (wr + 1))), (64, (nI (at0 + 1))), (65, (nI (ne + 1))), (66, (nI lk)), (15, (nI fa249)), (16, pl250), (64, (nI at248))]) (l2 := [(15, (nI fa249)), (16, pl250), (27, (nI (nd + 1))), (31, (nI (wr + 1))), (64, (nI at248)), (65, (nI (ne + 1))), (66, (nI lk))]) (V := [(nI fa249), pl250, (nI (nd + 1)), (nI (wr + 1)), (nI at248), (nI (ne + 1)), (nI lk), (nI fa249), pl250, (nI at248), (nI fa249), pl250, (nI (nd + 1)), (nI (wr + 1)), (nI at248), (nI (ne + 1)), (nI lk)]) rfl rfl (show (updA (updA X242 2 K) 2 K) = (updA X242 2 K) from updsA_eq2 (F := X242) (l1 := [(2, K), (2, K)]) (l2 := [(2, K)]) (V := [K, K, K]) rfl rfl) hP
          have hD : va_D A (mW G h0 a (upd (upd (upd (upd (upd (upd (upd F 15 (nI fa249)) 16 pl250) 27 (nI (nd + 1))) 31 (nI (wr + 1))) 64 (nI at248)) 65 (nI (ne + 1))) 66 (nI lk)) (updA X242 2 K)) := mW_D hD
          refine W.widen (k := 0) (n := 0) (Nat.le_of_ble_eq_true rfl) (Nat.le_of_ble_eq_true rfl) ?_
          refine W.eq (g2 := F0 m 184 ls []) rfl ?_
          obtain ⟨n260, n259⟩ := h255 e34
          replace n260 := n260.symm
          subst n260
          replace n259 := n259.symm
          subst n259
          refine lv_aload_n hx hb dX12_newHere_184 rfl (lv_at hl 3 rfl) ?_
          refine lv_dup hx hb dX12_newHere_185 rfl ?_
          refine r_get (v := .int (nI (ne + 1))) hx hb hown hq hE hP 65 366 tFX12_65 (by decide) pw_1612 rfl dX12_newHere_186 ?_
          refine lv_iconst (v := 1) hx hb dX12_newHere_189 (by decide) ?_
          refine lv_isub hx hb dX12_newHere_190 ?_
          refine lv_topi (fun x261 e262 => ?_)
          obtain rfl : x261 = nI ((ne + 1) - 1) := e262.trans (nI_subN (a := 1) (b := (ne + 1)) (by omega))
          refine r_put (v := (nI ((ne + 1) - 1))) (ty := .int) hx hb hown hq hE hP hD hS 65 366 tFX12_65 (by decide) pw_1612 (by decide) rfl rfl (ms_65 a _ _) dX12_newHere_191 (fun H locs hP hD hS => ?_)
          refine lv_iload hx hb dX12_newHere_194 (lv_at hl 0 rfl) ?_
          have hz263 : at0 ≤ (at0 + 1) := (by omega)
          have hz264 : (at0 + 1) ≤ T := (by omega)
          have hz265 : fa28 ≤ 100 := (by omega)
          have hz266 : nd ≤ (nd + 1) := (by omega)
          have hz267 : (nd + 1) + 2 * at0 ≤ nd + 2 * (at0 + 1) + 100000 * fa28 := (by omega)
          have hz268 : (nd + 1) + 2 * at0 ≤ nd + 2 * (at0 + 1) + 40 * (21 - ne) := (by omega)
          have hz269 : wr ≤ (wr + 1) := (by omega)
          have hz270 : (wr + 1) + at0 ≤ wr + (at0 + 1) := (by omega)
          have hz271 : lk ≤ lk := (by omega)
          have hz272 : lk ≤ 60 + 100 * fa28 := (by omega)
          have hz273 : at0 + 1 ≤ (at0 + 1) + fa28 := (by omega)
          have hz274 : nd ≤ (nd + 1) := (by omega)
          have hz275 : Kp B X242 (wr + 1) T := hkp244
          have hz276 : If (fa28 = 0) (Low B X242 nd wr ∧ Frs K T (wr + 1) X242 nd (nd + 1) 20000 [(nd, (210 + lk - (10 * ne + lk)))] ∧ kcl 1 (X242 9 nd) = true) := (fun e => absurd e (by omega))
          have hP : va_P G.1 pCl (mW G h0 a (upd (upd (upd (upd (upd (upd (upd F 15 (nI fa28)) 16 pl250) 27 (nI (nd + 1))) 31 (nI (wr + 1))) 64 (nI (at0 + 1))) 65 (nI ne)) 66 (nI lk)) (updA X242 2 K)) _ := hP
          have hD : va_D A (mW G h0 a (upd (upd (upd (upd (upd (upd (upd F 15 (nI fa28)) 16 pl250) 27 (nI (nd + 1))) 31 (nI (wr + 1))) 64 (nI (at0 + 1))) 65 (nI ne)) 66 (nI lk)) (updA X242 2 K)) := mW_D hD
          exact W.iret (v := (nI nd)) hx hb hr (fun t9 ht9 hW9 => ⟨⟨_, ((at0 + 1), fa28, pl250, (nd + 1), lk, (wr + 1), nd, X242), rfl, ⟨rfl, hz263, hz264, hz265, hz266, hz267, hz268, hz269, hz270, hz271, hz272, hz273, hz274, hz275, hz276⟩, by rw [ht9]; exact hP, hD⟩, hS.F ht9⟩) hS.2.2 dX12_newHere_196
      · refine lv_aload_n hx hb dX12_newHere_148 rfl (lv_at hl 2 rfl) ?_
        refine lv_iconst (v := 1) hx hb dX12_newHere_149 (by decide) ?_
        have hP : va_P G.1 pCl (mW G h0 a (upd (upd (upd (upd (upd (upd (upd (upd F 15 0) 27 (nI nd)) 31 (nI (wr + 1))) 64 (nI (at0 + 1))) 65 (nI ne)) 66 (nI lk)) 15 (nI 0)) 64 (nI (at0 + 1))) (updA (updA (updA (updA B 19 (upd (B 19) wr (nI at0))) 20 (upd (B 20) wr 0)) 2 K) 2 K)) _ := mW_to (F := F) (l1 := [(15, 0), (27, (nI nd)), (31, (nI (wr + 1))), (64, (nI (at0 + 1))), (65, (nI ne)), (66, (nI lk))]) (l2 := [(15, 0), (27, (nI nd)), (31, (nI (wr + 1))), (64, (nI (at0 + 1))), (65, (nI ne)), (66, (nI lk)), (15, (nI 0)), (64, (nI (at0 + 1)))]) (V := [(nI 0), (nI nd), (nI (wr + 1)), (nI (at0 + 1)), (nI ne), (nI lk), (nI 0), (nI nd), (nI (wr + 1)), (nI (at0 + 1)), (nI ne), (nI lk), (nI 0), (nI (at0 + 1))]) rfl rfl (show (updA (updA (updA B 19 (upd (B 19) wr (nI at0))) 20 (upd (B 20) wr 0)) 2 K) = (updA (updA (updA (updA B 19 (upd (B 19) wr (nI at0))) 20 (upd (B 20) wr 0)) 2 K) 2 K) from updsA_eq2 (F := B) (l1 := [(19, (upd (B 19) wr (nI at0))), (20, (upd (B 20) wr 0)), (2, K)]) (l2 := [(19, (upd (B 19) wr (nI at0))), (20, (upd (B 20) wr 0)), (2, K), (2, K)]) (V := [(upd (B 19) wr (nI at0)), (upd (B 20) wr 0), K, (upd (B 19) wr (nI at0)), (upd (B 20) wr 0), K, K]) rfl rfl) hP
        have hD : va_D A (mW G h0 a (upd (upd (upd (upd (upd (upd (upd (upd F 15 0) 27 (nI nd)) 31 (nI (wr + 1))) 64 (nI (at0 + 1))) 65 (nI ne)) 66 (nI lk)) 15 (nI 0)) 64 (nI (at0 + 1))) (updA (updA (updA (updA B 19 (upd (B 19) wr (nI at0))) 20 (upd (B 20) wr 0)) 2 K) 2 K)) := mW_D hD
        refine pc_V0 (G := G) (As := [.int (nI 1)]) (rest := []) hx hb hml hown hq hE hX pX0_al hP hD hS hA hl.1 (R_bad l G h0 a (upd (upd (upd (upd (upd (upd F 15 0) 27 (nI nd)) 31 (nI (wr + 1))) 64 (nI (at0 + 1))) 65 (nI ne)) 66 (nI lk)) (updA (updA (updA B 19 (upd (B 19) wr (nI at0))) 20 (upd (B 20) wr 0)) 2 K) (at0 + 1) T 0 K 1 (by omega) (by omega) hK (by omega) (by omega) (by omega)) (gV pw_1602 pw_1603 pw_1604 pw_1523 pw_1596) hV_X12_bad 0 9 rfl rfl rfl rfl (Nat.le_of_ble_eq_true rfl) dX12_newHere_150 ⟨Nat.le_of_ble_eq_true rfl, Nat.le_of_ble_eq_true rfl⟩ ⟨(by show 3 + 1 ≤ (20 * n + 8); omega), (by show 8 + (2 + 11) + 82 ≤ (1000 * n + 40 * 8); omega)⟩ (fun v279 u277 H locs hw278 hP hD hS => ?_)
        obtain ⟨fa280, pl281⟩ := u277
        obtain ⟨hw278, h282, h283, h284, h285⟩ := hw278
        have h282 : 0 ≤ fa280 := h282
        have h283 : fa280 ≤ 0 + 1 := h283
        have h284 : 0 < fa280 := h284
        have h285 : If (0 < 0) (fa280 = 0) := h285
        obtain rfl : v279 = none := hw278
        have hP : va_P G.1 pCl (mW G h0 a (upd (upd (upd (upd (upd (upd (upd F 15 (nI fa280)) 16 pl281) 27 (nI nd)) 31 (nI (wr + 1))) 64 (nI (at0 + 1))) 65 (nI ne)) 66 (nI lk)) (updA (updA (updA B 19 (upd (B 19) wr (nI at0))) 20 (upd (B 20) wr 0)) 2 K)) _ := mW_to (F := F) (l1 := [(15, 0), (27, (nI nd)), (31, (nI (wr + 1))), (64, (nI (at0 + 1))), (65, (nI ne)), (66, (nI lk)), (15, (nI fa280)), (16, pl281), (64, (nI (at0 + 1)))]) (l2 := [(15, (nI fa280)), (16, pl281), (27, (nI nd)), (31, (nI (wr + 1))), (64, (nI (at0 + 1))), (65, (nI ne)), (66, (nI lk))]) (V := [(nI fa280), (nI nd), (nI (wr + 1)), (nI (at0 + 1)), (nI ne), (nI lk), (nI fa280), pl281, (nI (at0 + 1)), (nI fa280), pl281, (nI nd), (nI (wr + 1)), (nI (at0 + 1)), (nI ne), (nI lk)]) rfl rfl (show (updA (updA (updA (updA B 19 (upd (B 19) wr (nI at0))) 20 (upd (B 20) wr 0)) 2 K) 2 K) = (updA (updA (updA B 19 (upd (B 19) wr (nI at0))) 20 (upd (B 20) wr 0)) 2 K) from updsA_eq2 (F := B) (l1 := [(19, (upd (B 19) wr (nI at0))), (20, (upd (B 20) wr 0)), (2, K), (2, K)]) (l2 := [(19, (upd (B 19) wr (nI at0))), (20, (upd (B 20) wr 0)), (2, K)]) (V := [(upd (B 19) wr (nI at0)), (upd (B 20) wr 0), K, K, (upd (B 19) wr (nI at0)), (upd (B 20) wr 0), K]) rfl rfl) hP
        have hD : va_D A (mW G h0 a (upd (upd (upd (upd (upd (upd (upd F 15 (nI fa280)) 16 pl281) 27 (nI nd)) 31 (nI (wr + 1))) 64 (nI (at0 + 1))) 65 (nI ne)) 66 (nI lk)) (updA (updA (updA B 19 (upd (B 19) wr (nI at0))) 20 (upd (B 20) wr 0)) 2 K)) := mW_D hD
        refine W.widen (k := 0) (n := 0) (Nat.le_of_ble_eq_true rfl) (Nat.le_of_ble_eq_true rfl) ?_
        refine W.eq (g2 := F0 m 153 ls []) rfl ?_
        refine lv_aload_n hx hb dX12_newHere_153 rfl (lv_at hl 2 rfl) ?_
        have hP : va_P G.1 pCl (mW G h0 a (upd (upd (upd (upd (upd (upd (upd (upd (upd (upd F 15 (nI fa280)) 16 pl281) 27 (nI nd)) 31 (nI (wr + 1))) 64 (nI (at0 + 1))) 65 (nI ne)) 66 (nI lk)) 15 (nI fa280)) 64 (nI (at0 + 1))) 65 (nI ne)) (updA (updA (updA (updA B 19 (upd (B 19) wr (nI at0))) 20 (upd (B 20) wr 0)) 2 K) 2 K)) _ := mW_to (F := F) (l1 := [(15, (nI fa280)), (16, pl281), (27, (nI nd)), (31, (nI (wr + 1))), (64, (nI (at0 + 1))), (65, (nI ne)), (66, (nI lk))]) (l2 := [(15, (nI fa280)), (16, pl281), (27, (nI nd)), (31, (nI (wr + 1))), (64, (nI (at0 + 1))), (65, (nI ne)), (66, (nI lk)), (15, (nI fa280)), (64, (nI (at0 + 1))), (65, (nI ne))]) (V := [(nI fa280), pl281, (nI nd), (nI (wr + 1)), (nI (at0 + 1)), (nI ne), (nI lk), (nI fa280), pl281, (nI nd), (nI (wr + 1)), (nI (at0 + 1)), (nI ne), (nI lk), (nI fa280), (nI (at0 + 1)), (nI ne)]) rfl rfl (show (updA (updA (updA B 19 (upd (B 19) wr (nI at0))) 20 (upd (B 20) wr 0)) 2 K) = (updA (updA (updA (updA B 19 (upd (B 19) wr (nI at0))) 20 (upd (B 20) wr 0)) 2 K) 2 K) from updsA_eq2 (F := B) (l1 := [(19, (upd (B 19) wr (nI at0))), (20, (upd (B 20) wr 0)), (2, K)]) (l2 := [(19, (upd (B 19) wr (nI at0))), (20, (upd (B 20) wr 0)), (2, K), (2, K)]) (V := [(upd (B 19) wr (nI at0)), (upd (B 20) wr 0), K, (upd (B 19) wr (nI at0)), (upd (B 20) wr 0), K, K]) rfl rfl) hP
        have hD : va_D A (mW G h0 a (upd (upd (upd (upd (upd (upd (upd (upd (upd (upd F 15 (nI fa280)) 16 pl281) 27 (nI nd)) 31 (nI (wr + 1))) 64 (nI (at0 + 1))) 65 (nI ne)) 66 (nI lk)) 15 (nI fa280)) 64 (nI (at0 + 1))) 65 (nI ne)) (updA (updA (updA (updA B 19 (upd (B 19) wr (nI at0))) 20 (upd (B 20) wr 0)) 2 K) 2 K)) := mW_D hD
        refine pc_V0 (G := G) (As := []) (rest := []) hx hb hml hown hq hE hX pX0_al hP hD hS hA hl.1 (R_deeper l G h0 a (upd (upd (upd (upd (upd (upd (upd F 15 (nI fa280)) 16 pl281) 27 (nI nd)) 31 (nI (wr + 1))) 64 (nI (at0 + 1))) 65 (nI ne)) 66 (nI lk)) (updA (updA (updA B 19 (upd (B 19) wr (nI at0))) 20 (upd (B 20) wr 0)) 2 K) (at0 + 1) T fa280 K ne (by omega) (by omega) hK (by omega) (by omega)) (gV pw_1637 pw_1638 pw_1639 pw_1523 pw_1611) hV_X12_deeper 0 9 rfl rfl rfl rfl (Nat.le_of_ble_eq_true rfl) dX12_newHere_154 ⟨Nat.le_of_ble_eq_true rfl, Nat.le_of_ble_eq_true rfl⟩ ⟨(by show 4 + 1 ≤ (20 * n + 8); omega), (by show 8 + (1 + 11) + 103 ≤ (1000 * n + 40 * 8); omega)⟩ (fun v288 u286 H locs hw287 hP hD hS => ?_)
        obtain ⟨fa289, pl290⟩ := u286
        obtain ⟨hw287, h291, h292, h293, h294⟩ := hw287
        have h291 : fa280 ≤ fa289 := h291
        have h292 : fa289 ≤ 100 := h292
        have h293 : If (0 < fa280) (fa289 = fa280) := h293
        have h294 : If (ne ≤ 20) (ne + 1 ≤ 20 + fa289) := h294
        obtain rfl : v288 = none := hw287
        have hP : va_P G.1 pCl (mW G h0 a (upd (upd (upd (upd (upd (upd (upd F 15 (nI fa289)) 16 pl290) 27 (nI nd)) 31 (nI (wr + 1))) 64 (nI (at0 + 1))) 65 (nI (ne + 1))) 66 (nI lk)) (updA (updA (updA B 19 (upd (B 19) wr (nI at0))) 20 (upd (B 20) wr 0)) 2 K)) _ := mW_to (F := F) (l1 := [(15, (nI fa280)), (16, pl281), (27, (nI nd)), (31, (nI (wr + 1))), (64, (nI (at0 + 1))), (65, (nI ne)), (66, (nI lk)), (15, (nI fa289)), (16, pl290), (64, (nI (at0 + 1))), (65, (nI (ne + 1)))]) (l2 := [(15, (nI fa289)), (16, pl290), (27, (nI nd)), (31, (nI (wr + 1))), (64, (nI (at0 + 1))), (65, (nI (ne + 1))), (66, (nI lk))]) (V := [(nI fa289), pl290, (nI nd), (nI (wr + 1)), (nI (at0 + 1)), (nI (ne + 1)), (nI lk), (nI fa289), pl290, (nI (at0 + 1)), (nI (ne + 1)), (nI fa289), pl290, (nI nd), (nI (wr + 1)), (nI (at0 + 1)), (nI (ne + 1)), (nI lk)]) rfl rfl (show (updA (updA (updA (updA B 19 (upd (B 19) wr (nI at0))) 20 (upd (B 20) wr 0)) 2 K) 2 K) = (updA (updA (updA B 19 (upd (B 19) wr (nI at0))) 20 (upd (B 20) wr 0)) 2 K) from updsA_eq2 (F := B) (l1 := [(19, (upd (B 19) wr (nI at0))), (20, (upd (B 20) wr 0)), (2, K), (2, K)]) (l2 := [(19, (upd (B 19) wr (nI at0))), (20, (upd (B 20) wr 0)), (2, K)]) (V := [(upd (B 19) wr (nI at0)), (upd (B 20) wr 0), K, K, (upd (B 19) wr (nI at0)), (upd (B 20) wr 0), K]) rfl rfl) hP
        have hD : va_D A (mW G h0 a (upd (upd (upd (upd (upd (upd (upd F 15 (nI fa289)) 16 pl290) 27 (nI nd)) 31 (nI (wr + 1))) 64 (nI (at0 + 1))) 65 (nI (ne + 1))) 66 (nI lk)) (updA (updA (updA B 19 (upd (B 19) wr (nI at0))) 20 (upd (B 20) wr 0)) 2 K)) := mW_D hD
        refine W.widen (k := 0) (n := 0) (Nat.le_of_ble_eq_true rfl) (Nat.le_of_ble_eq_true rfl) ?_
        refine W.eq (g2 := F0 m 157 ls []) rfl ?_
        have n295 := h293 h284
        replace n295 := n295.symm
        subst n295
        refine lv_aload_n hx hb dX12_newHere_157 rfl (lv_at hl 2 rfl) ?_
        refine lv_bipush (v := 91) hx hb dX12_newHere_158 (by decide) ?_
        have hP : va_P G.1 pCl (mW G h0 a (upd (upd (upd (upd (upd (upd (upd (upd (upd F 15 (nI fa280)) 16 pl290) 27 (nI nd)) 31 (nI (wr + 1))) 64 (nI (at0 + 1))) 65 (nI (ne + 1))) 66 (nI lk)) 15 (nI fa280)) 64 (nI (at0 + 1))) (updA (updA (updA (updA B 19 (upd (B 19) wr (nI at0))) 20 (upd (B 20) wr 0)) 2 K) 2 K)) _ := hP
        have hD : va_D A (mW G h0 a (upd (upd (upd (upd (upd (upd (upd (upd (upd F 15 (nI fa280)) 16 pl290) 27 (nI nd)) 31 (nI (wr + 1))) 64 (nI (at0 + 1))) 65 (nI (ne + 1))) 66 (nI lk)) 15 (nI fa280)) 64 (nI (at0 + 1))) (updA (updA (updA (updA B 19 (upd (B 19) wr (nI at0))) 20 (upd (B 20) wr 0)) 2 K) 2 K)) := mW_D hD
        refine pc_V0 (G := G) (As := [.int 91]) (rest := []) hx hb hml hown hq hE hX pX0_al hP hD hS hA hl.1 (R_take l G h0 a (upd (upd (upd (upd (upd (upd (upd F 15 (nI fa280)) 16 pl290) 27 (nI nd)) 31 (nI (wr + 1))) 64 (nI (at0 + 1))) 65 (nI (ne + 1))) 66 (nI lk)) (updA (updA (updA B 19 (upd (B 19) wr (nI at0))) 20 (upd (B 20) wr 0)) 2 K) (at0 + 1) T fa280 K 91 (by omega) (by omega) hK (by omega) (by decide) (by decide)) (gV pw_1614 pw_1615 pw_1616 pw_1523 pw_1601) hV_X12_take 0 9 rfl rfl rfl rfl (Nat.le_of_ble_eq_true rfl) dX12_newHere_160 ⟨Nat.le_of_ble_eq_true rfl, Nat.le_of_ble_eq_true rfl⟩ ⟨(by show 4 + 1 ≤ (20 * n + 8); omega), (by show 8 + (2 + 11) + 103 ≤ (1000 * n + 40 * 8); omega)⟩ (fun v299 u297 H locs hw298 hP hD hS => ?_)
        obtain ⟨at300, fa301, pl302⟩ := u297
        obtain ⟨hw298, h303, h304, h305, h306, h307, h308, h309, h310⟩ := hw298
        have h303 : (at0 + 1) ≤ at300 := h303
        have h304 : at300 ≤ T := h304
        have h305 : fa280 ≤ fa301 := h305
        have h306 : fa301 ≤ 100 := h306
        have h307 : If (0 < fa280) (at300 = (at0 + 1) ∧ fa301 = fa280) := h307
        have h308 : at300 ≤ (at0 + 1) + 1 := h308
        have h309 : (at0 + 1) + 1 ≤ at300 + fa301 := h309
        have h310 : If (fa301 = 0) (K (at0 + 1) = 91) := h310
        obtain rfl : v299 = none := hw298
        have hP : va_P G.1 pCl (mW G h0 a (upd (upd (upd (upd (upd (upd (upd F 15 (nI fa301)) 16 pl302) 27 (nI nd)) 31 (nI (wr + 1))) 64 (nI at300)) 65 (nI (ne + 1))) 66 (nI lk)) (updA (updA (updA B 19 (upd (B 19) wr (nI at0))) 20 (upd (B 20) wr 0)) 2 K)) _ := mW_to (F := F) (l1 := [(15, (nI fa280)), (16, pl290), (27, (nI nd)), (31, (nI (wr + 1))), (64, (nI (at0 + 1))), (65, (nI (ne + 1))), (66, (nI lk)), (15, (nI fa301)), (16, pl302), (64, (nI at300))]) (l2 := [(15, (nI fa301)), (16, pl302), (27, (nI nd)), (31, (nI (wr + 1))), (64, (nI at300)), (65, (nI (ne + 1))), (66, (nI lk))]) (V := [(nI fa301), pl302, (nI nd), (nI (wr + 1)), (nI at300), (nI (ne + 1)), (nI lk), (nI fa301), pl302, (nI at300), (nI fa301), pl302, (nI nd), (nI (wr + 1)), (nI at300), (nI (ne + 1)), (nI lk)]) rfl rfl (show (updA (updA (updA (updA B 19 (upd (B 19) wr (nI at0))) 20 (upd (B 20) wr 0)) 2 K) 2 K) = (updA (updA (updA B 19 (upd (B 19) wr (nI at0))) 20 (upd (B 20) wr 0)) 2 K) from updsA_eq2 (F := B) (l1 := [(19, (upd (B 19) wr (nI at0))), (20, (upd (B 20) wr 0)), (2, K), (2, K)]) (l2 := [(19, (upd (B 19) wr (nI at0))), (20, (upd (B 20) wr 0)), (2, K)]) (V := [(upd (B 19) wr (nI at0)), (upd (B 20) wr 0), K, K, (upd (B 19) wr (nI at0)), (upd (B 20) wr 0), K]) rfl rfl) hP
        have hD : va_D A (mW G h0 a (upd (upd (upd (upd (upd (upd (upd F 15 (nI fa301)) 16 pl302) 27 (nI nd)) 31 (nI (wr + 1))) 64 (nI at300)) 65 (nI (ne + 1))) 66 (nI lk)) (updA (updA (updA B 19 (upd (B 19) wr (nI at0))) 20 (upd (B 20) wr 0)) 2 K)) := mW_D hD
        refine W.widen (k := 0) (n := 0) (Nat.le_of_ble_eq_true rfl) (Nat.le_of_ble_eq_true rfl) ?_
        refine W.eq (g2 := F0 m 163 ls []) rfl ?_
        obtain ⟨n312, n311⟩ := h307 h284
        replace n312 := n312.symm
        subst n312
        replace n311 := n311.symm
        subst n311
        refine lv_aload_n hx hb dX12_newHere_163 rfl (lv_at hl 2 rfl) ?_
        refine lv_bipush (v := 10) hx hb dX12_newHere_164 (by decide) ?_
        refine lv_iload_n hx hb dX12_newHere_166 rfl (lv_at hl 3 rfl) ?_
        refine lv_iload_n hx hb dX12_newHere_167 rfl (lv_at hl 1 rfl) ?_
        refine lv_aload_n hx hb dX12_newHere_168 rfl (lv_at hl 2 rfl) ?_
        have hP : va_P G.1 pCl (mW G h0 a (upd (upd (upd (upd (upd (upd (upd (upd (upd F 15 (nI fa280)) 16 pl302) 27 (nI nd)) 31 (nI (wr + 1))) 64 (nI (at0 + 1))) 65 (nI (ne + 1))) 66 (nI lk)) 15 (nI fa280)) 64 (nI (at0 + 1))) (updA (updA (updA (updA B 19 (upd (B 19) wr (nI at0))) 20 (upd (B 20) wr 0)) 2 K) 2 K)) _ := hP
        have hD : va_D A (mW G h0 a (upd (upd (upd (upd (upd (upd (upd (upd (upd F 15 (nI fa280)) 16 pl302) 27 (nI nd)) 31 (nI (wr + 1))) 64 (nI (at0 + 1))) 65 (nI (ne + 1))) 66 (nI lk)) 15 (nI fa280)) 64 (nI (at0 + 1))) (updA (updA (updA (updA B 19 (upd (B 19) wr (nI at0))) 20 (upd (B 20) wr 0)) 2 K) 2 K)) := mW_D hD
        refine pc_V0 (G := G) (As := []) (rest := [.int (nI at0), .int (nI fi), .int 10, .ref h0]) hx hb hml hown hq hE hX pX0_al hP hD hS hA hl.1 (RF_choice l G h0 a (upd (upd (upd (upd (upd (upd (upd F 15 (nI fa280)) 16 pl302) 27 (nI nd)) 31 (nI (wr + 1))) 64 (nI (at0 + 1))) 65 (nI (ne + 1))) 66 (nI lk)) (updA (updA (updA B 19 (upd (B 19) wr (nI at0))) 20 (upd (B 20) wr 0)) 2 K) (at0 + 1) T fa280 K (by omega) (by omega) hK (by omega) h284) (gV pw_1640 pw_1641 pw_1642 pw_1523 pw_1656) hV_X12_choice 0 9 rfl rfl rfl rfl (Nat.le_of_ble_eq_true rfl) dX12_newHere_169 ⟨Nat.le_of_ble_eq_true rfl, Nat.le_of_ble_eq_true rfl⟩ ⟨(by show 16 + 1 ≤ (20 * n + 8); omega), (by show 8 + (4 + 11) + 405 ≤ (1000 * n + 40 * 8); omega)⟩ (fun v315 u313 H locs hw314 hP hD hS => ?_)
        obtain rfl : v315 = some (.int 0) := hw314
        have hP : va_P G.1 pCl (mW G h0 a (upd (upd (upd (upd (upd (upd (upd F 15 (nI fa280)) 16 pl302) 27 (nI nd)) 31 (nI (wr + 1))) 64 (nI (at0 + 1))) 65 (nI (ne + 1))) 66 (nI lk)) (updA (updA (updA B 19 (upd (B 19) wr (nI at0))) 20 (upd (B 20) wr 0)) 2 K)) _ := mW_to (F := F) (l1 := [(15, (nI fa280)), (16, pl302), (27, (nI nd)), (31, (nI (wr + 1))), (64, (nI (at0 + 1))), (65, (nI (ne + 1))), (66, (nI lk)), (15, (nI fa280)), (64, (nI (at0 + 1)))]) (l2 := [(15, (nI fa280)), (16, pl302), (27, (nI nd)), (31, (nI (wr + 1))), (64, (nI (at0 + 1))), (65, (nI (ne + 1))), (66, (nI lk))]) (V := [(nI fa280), pl302, (nI nd), (nI (wr + 1)), (nI (at0 + 1)), (nI (ne + 1)), (nI lk), (nI fa280), (nI (at0 + 1)), (nI fa280), pl302, (nI nd), (nI (wr + 1)), (nI (at0 + 1)), (nI (ne + 1)), (nI lk)]) rfl rfl (show (updA (updA (updA (updA B 19 (upd (B 19) wr (nI at0))) 20 (upd (B 20) wr 0)) 2 K) 2 K) = (updA (updA (updA B 19 (upd (B 19) wr (nI at0))) 20 (upd (B 20) wr 0)) 2 K) from updsA_eq2 (F := B) (l1 := [(19, (upd (B 19) wr (nI at0))), (20, (upd (B 20) wr 0)), (2, K), (2, K)]) (l2 := [(19, (upd (B 19) wr (nI at0))), (20, (upd (B 20) wr 0)), (2, K)]) (V := [(upd (B 19) wr (nI at0)), (upd (B 20) wr 0), K, K, (upd (B 19) wr (nI at0)), (upd (B 20) wr 0), K]) rfl rfl) hP
        have hD : va_D A (mW G h0 a (upd (upd (upd (upd (upd (upd (upd F 15 (nI fa280)) 16 pl302) 27 (nI nd)) 31 (nI (wr + 1))) 64 (nI (at0 + 1))) 65 (nI (ne + 1))) 66 (nI lk)) (updA (updA (updA B 19 (upd (B 19) wr (nI at0))) 20 (upd (B 20) wr 0)) 2 K)) := mW_D hD
        refine W.widen (k := 0) (n := 0) (Nat.le_of_ble_eq_true rfl) (Nat.le_of_ble_eq_true rfl) ?_
        refine W.eq (g2 := F0 m 172 ls [.int 0, .int (nI at0), .int (nI fi), .int 10, .ref h0]) rfl ?_
        refine lv_iload_n hx hb dX12_newHere_172 rfl (lv_at hl 0 rfl) ?_
        have hP : va_P G.1 pCl (mW G h0 a (upd (upd (upd (upd (upd (upd (upd (upd F 15 (nI fa280)) 16 pl302) 27 (nI nd)) 31 (nI (wr + 1))) 64 (nI (at0 + 1))) 65 (nI (ne + 1))) 66 (nI lk)) 27 (nI nd)) (updA (updA (updA B 19 (upd (B 19) wr (nI at0))) 20 (upd (B 20) wr 0)) 2 K)) _ := mW_to (F := F) (l1 := [(15, (nI fa280)), (16, pl302), (27, (nI nd)), (31, (nI (wr + 1))), (64, (nI (at0 + 1))), (65, (nI (ne + 1))), (66, (nI lk))]) (l2 := [(15, (nI fa280)), (16, pl302), (27, (nI nd)), (31, (nI (wr + 1))), (64, (nI (at0 + 1))), (65, (nI (ne + 1))), (66, (nI lk)), (27, (nI nd))]) (V := [(nI fa280), pl302, (nI nd), (nI (wr + 1)), (nI (at0 + 1)), (nI (ne + 1)), (nI lk), (nI fa280), pl302, (nI nd), (nI (wr + 1)), (nI (at0 + 1)), (nI (ne + 1)), (nI lk), (nI nd)]) rfl rfl rfl hP
        have hD : va_D A (mW G h0 a (upd (upd (upd (upd (upd (upd (upd (upd F 15 (nI fa280)) 16 pl302) 27 (nI nd)) 31 (nI (wr + 1))) 64 (nI (at0 + 1))) 65 (nI (ne + 1))) 66 (nI lk)) 27 (nI nd)) (updA (updA (updA B 19 (upd (B 19) wr (nI at0))) 20 (upd (B 20) wr 0)) 2 K)) := mW_D hD
        refine pc_V0 (G := G) (As := [.int 10, .int (nI fi), .int (nI at0), .int 0, .int (nI wr)]) (rest := []) hx hb hml hown hq hE hX pX0_al hP hD hS hA hl.1 (R_nodeB l G h0 a (upd (upd (upd (upd (upd (upd (upd F 15 (nI fa280)) 16 pl302) 27 (nI nd)) 31 (nI (wr + 1))) 64 (nI (at0 + 1))) 65 (nI (ne + 1))) 66 (nI lk)) (updA (updA B 19 (upd (B 19) wr (nI at0))) 20 (upd (B 20) wr 0)) 10 (nI fi) (nI at0) 0 (nI wr) nd K (by omega)) (gV pw_1650 pw_1651 pw_1652 pw_1523 pw_1589) hV_X12_node 0 9 rfl rfl rfl rfl (Nat.le_of_ble_eq_true rfl) dX12_newHere_173 ⟨Nat.le_of_ble_eq_true rfl, Nat.le_of_ble_eq_true rfl⟩ ⟨(by show 2 + 1 ≤ (20 * n + 8); omega), (by show 8 + (7 + 11) + 60 ≤ (1000 * n + 40 * 8); omega)⟩ (fun v318 u316 H locs hw317 hP hD hS => ?_)
        obtain ⟨X319, rfl⟩ : ∃ z, z = u316 := ⟨_, rfl⟩
        obtain ⟨hw317, h320⟩ := hw317
        have h320 : NewN (updA (updA B 19 (upd (B 19) wr (nI at0))) 20 (upd (B 20) wr 0)) X319 nd 10 (nI fi) (nI at0) 0 (nI wr) := h320
        obtain rfl : v318 = some (.int (nI nd)) := hw317
        have hP : va_P G.1 pCl (mW G h0 a (upd (upd (upd (upd (upd (upd (upd F 15 (nI fa280)) 16 pl302) 27 (nI (nd + 1))) 31 (nI (wr + 1))) 64 (nI (at0 + 1))) 65 (nI (ne + 1))) 66 (nI lk)) (updA X319 2 K)) _ := mW_to (F := F) (l1 := [(15, (nI fa280)), (16, pl302), (27, (nI nd)), (31, (nI (wr + 1))), (64, (nI (at0 + 1))), (65, (nI (ne + 1))), (66, (nI lk)), (27, (nI (nd + 1)))]) (l2 := [(15, (nI fa280)), (16, pl302), (27, (nI (nd + 1))), (31, (nI (wr + 1))), (64, (nI (at0 + 1))), (65, (nI (ne + 1))), (66, (nI lk))]) (V := [(nI fa280), pl302, (nI (nd + 1)), (nI (wr + 1)), (nI (at0 + 1)), (nI (ne + 1)), (nI lk), (nI (nd + 1)), (nI fa280), pl302, (nI (nd + 1)), (nI (wr + 1)), (nI (at0 + 1)), (nI (ne + 1)), (nI lk)]) rfl rfl rfl hP
        have hD : va_D A (mW G h0 a (upd (upd (upd (upd (upd (upd (upd F 15 (nI fa280)) 16 pl302) 27 (nI (nd + 1))) 31 (nI (wr + 1))) 64 (nI (at0 + 1))) 65 (nI (ne + 1))) 66 (nI lk)) (updA X319 2 K)) := mW_D hD
        refine W.widen (k := 0) (n := 0) (Nat.le_of_ble_eq_true rfl) (Nat.le_of_ble_eq_true rfl) ?_
        refine W.eq (g2 := F0 m 176 ls [.int (nI nd)]) rfl ?_
        have hkp321 : Kp B X319 (wr + 1) T := (Kp.new hkp18 h320)
        refine lv_istore (lv' := [(4, .int (nI nd)), (3, .int (nI wr)), (2, .int (nI at0)), (0, .ref h0), (1, .int (nI fi))]) hx hb dX12_newHere_176 hl (by decide) rfl (fun ls hl => ?_)
        refine lv_aload_n hx hb dX12_newHere_178 rfl (lv_at hl 3 rfl) ?_
        refine lv_bipush (v := 93) hx hb dX12_newHere_179 (by decide) ?_
        have hP : va_P G.1 pCl (mW G h0 a (upd (upd (upd (upd (upd (upd (upd (upd (upd F 15 (nI fa280)) 16 pl302) 27 (nI (nd + 1))) 31 (nI (wr + 1))) 64 (nI (at0 + 1))) 65 (nI (ne + 1))) 66 (nI lk)) 15 (nI fa280)) 64 (nI (at0 + 1))) (updA (updA X319 2 K) 2 K)) _ := mW_to (F := F) (l1 := [(15, (nI fa280)), (16, pl302), (27, (nI (nd + 1))), (31, (nI (wr + 1))), (64, (nI (at0 + 1))), (65, (nI (ne + 1))), (66, (nI lk))]) (l2 := [(15, (nI fa280)), (16, pl302), (27, (nI (nd + 1))), (31, (nI (wr + 1))), (64, (nI (at0 + 1))), (65, (nI (ne + 1))), (66, (nI lk)), (15, (nI fa280)), (64, (nI (at0 + 1)))]) (V := [(nI fa280), pl302, (nI (nd + 1)), (nI (wr + 1)), (nI (at0 + 1)), (nI (ne + 1)), (nI lk), (nI fa280), pl302, (nI (nd + 1)), (nI (wr + 1)), (nI (at0 + 1)), (nI (ne + 1)), (nI lk), (nI fa280), (nI (at0 + 1))]) rfl rfl (show (updA X319 2 K) = (updA (updA X319 2 K) 2 K) from updsA_eq2 (F := X319) (l1 := [(2, K)]) (l2 := [(2, K), (2, K)]) (V := [K, K, K]) rfl rfl) hP
        have hD : va_D A (mW G h0 a (upd (upd (upd (upd (upd (upd (upd (upd (upd F 15 (nI fa280)) 16 pl302) 27 (nI (nd + 1))) 31 (nI (wr + 1))) 64 (nI (at0 + 1))) 65 (nI (ne + 1))) 66 (nI lk)) 15 (nI fa280)) 64 (nI (at0 + 1))) (updA (updA X319 2 K) 2 K)) := mW_D hD
        refine pc_V0 (G := G) (As := [.int 93]) (rest := []) hx hb hml hown hq hE hX pX0_al hP hD hS hA hl.1 (R_take l G h0 a (upd (upd (upd (upd (upd (upd (upd F 15 (nI fa280)) 16 pl302) 27 (nI (nd + 1))) 31 (nI (wr + 1))) 64 (nI (at0 + 1))) 65 (nI (ne + 1))) 66 (nI lk)) (updA X319 2 K) (at0 + 1) T fa280 K 93 (by omega) (by omega) hK (by omega) (by decide) (by decide)) (gV pw_1614 pw_1615 pw_1616 pw_1523 pw_1601) hV_X12_take 0 9 rfl rfl rfl rfl (Nat.le_of_ble_eq_true rfl) dX12_newHere_181 ⟨Nat.le_of_ble_eq_true rfl, Nat.le_of_ble_eq_true rfl⟩ ⟨(by show 4 + 1 ≤ (20 * n + 8); omega), (by show 8 + (2 + 11) + 103 ≤ (1000 * n + 40 * 8); omega)⟩ (fun v324 u322 H locs hw323 hP hD hS => ?_)
        obtain ⟨at325, fa326, pl327⟩ := u322
        obtain ⟨hw323, h328, h329, h330, h331, h332, h333, h334, h335⟩ := hw323
        have h328 : (at0 + 1) ≤ at325 := h328
        have h329 : at325 ≤ T := h329
        have h330 : fa280 ≤ fa326 := h330
        have h331 : fa326 ≤ 100 := h331
        have h332 : If (0 < fa280) (at325 = (at0 + 1) ∧ fa326 = fa280) := h332
        have h333 : at325 ≤ (at0 + 1) + 1 := h333
        have h334 : (at0 + 1) + 1 ≤ at325 + fa326 := h334
        have h335 : If (fa326 = 0) (K (at0 + 1) = 93) := h335
        obtain rfl : v324 = none := hw323
        have hP : va_P G.1 pCl (mW G h0 a (upd (upd (upd (upd (upd (upd (upd F 15 (nI fa326)) 16 pl327) 27 (nI (nd + 1))) 31 (nI (wr + 1))) 64 (nI at325)) 65 (nI (ne + 1))) 66 (nI lk)) (updA X319 2 K)) _ := mW_to (F := F) (l1 := [(15, (nI fa280)), (16, pl302), (27, (nI (nd + 1))), (31, (nI (wr + 1))), (64, (nI (at0 + 1))), (65, (nI (ne + 1))), (66, (nI lk)), (15, (nI fa326)), (16, pl327), (64, (nI at325))]) (l2 := [(15, (nI fa326)), (16, pl327), (27, (nI (nd + 1))), (31, (nI (wr + 1))), (64, (nI at325)), (65, (nI (ne + 1))), (66, (nI lk))]) (V := [(nI fa326), pl327, (nI (nd + 1)), (nI (wr + 1)), (nI at325), (nI (ne + 1)), (nI lk), (nI fa326), pl327, (nI at325), (nI fa326), pl327, (nI (nd + 1)), (nI (wr + 1)), (nI at325), (nI (ne + 1)), (nI lk)]) rfl rfl (show (updA (updA X319 2 K) 2 K) = (updA X319 2 K) from updsA_eq2 (F := X319) (l1 := [(2, K), (2, K)]) (l2 := [(2, K)]) (V := [K, K, K]) rfl rfl) hP
        have hD : va_D A (mW G h0 a (upd (upd (upd (upd (upd (upd (upd F 15 (nI fa326)) 16 pl327) 27 (nI (nd + 1))) 31 (nI (wr + 1))) 64 (nI at325)) 65 (nI (ne + 1))) 66 (nI lk)) (updA X319 2 K)) := mW_D hD
        refine W.widen (k := 0) (n := 0) (Nat.le_of_ble_eq_true rfl) (Nat.le_of_ble_eq_true rfl) ?_
        refine W.eq (g2 := F0 m 184 ls []) rfl ?_
        obtain ⟨n337, n336⟩ := h332 h284
        replace n337 := n337.symm
        subst n337
        replace n336 := n336.symm
        subst n336
        refine lv_aload_n hx hb dX12_newHere_184 rfl (lv_at hl 3 rfl) ?_
        refine lv_dup hx hb dX12_newHere_185 rfl ?_
        refine r_get (v := .int (nI (ne + 1))) hx hb hown hq hE hP 65 366 tFX12_65 (by decide) pw_1612 rfl dX12_newHere_186 ?_
        refine lv_iconst (v := 1) hx hb dX12_newHere_189 (by decide) ?_
        refine lv_isub hx hb dX12_newHere_190 ?_
        refine lv_topi (fun x338 e339 => ?_)
        obtain rfl : x338 = nI ((ne + 1) - 1) := e339.trans (nI_subN (a := 1) (b := (ne + 1)) (by omega))
        refine r_put (v := (nI ((ne + 1) - 1))) (ty := .int) hx hb hown hq hE hP hD hS 65 366 tFX12_65 (by decide) pw_1612 (by decide) rfl rfl (ms_65 a _ _) dX12_newHere_191 (fun H locs hP hD hS => ?_)
        refine lv_iload hx hb dX12_newHere_194 (lv_at hl 0 rfl) ?_
        have hz340 : at0 ≤ (at0 + 1) := (by omega)
        have hz341 : (at0 + 1) ≤ T := (by omega)
        have hz342 : fa280 ≤ 100 := (by omega)
        have hz343 : nd ≤ (nd + 1) := (by omega)
        have hz344 : (nd + 1) + 2 * at0 ≤ nd + 2 * (at0 + 1) + 100000 * fa280 := (by omega)
        have hz345 : (nd + 1) + 2 * at0 ≤ nd + 2 * (at0 + 1) + 40 * (21 - ne) := (by omega)
        have hz346 : wr ≤ (wr + 1) := (by omega)
        have hz347 : (wr + 1) + at0 ≤ wr + (at0 + 1) := (by omega)
        have hz348 : lk ≤ lk := (by omega)
        have hz349 : lk ≤ 60 + 100 * fa280 := (by omega)
        have hz350 : at0 + 1 ≤ (at0 + 1) + fa280 := (by omega)
        have hz351 : nd ≤ (nd + 1) := (by omega)
        have hz352 : Kp B X319 (wr + 1) T := hkp321
        have hz353 : If (fa280 = 0) (Low B X319 nd wr ∧ Frs K T (wr + 1) X319 nd (nd + 1) 20000 [(nd, (210 + lk - (10 * ne + lk)))] ∧ kcl 1 (X319 9 nd) = true) := (fun e => absurd e (by omega))
        have hP : va_P G.1 pCl (mW G h0 a (upd (upd (upd (upd (upd (upd (upd F 15 (nI fa280)) 16 pl327) 27 (nI (nd + 1))) 31 (nI (wr + 1))) 64 (nI (at0 + 1))) 65 (nI ne)) 66 (nI lk)) (updA X319 2 K)) _ := hP
        have hD : va_D A (mW G h0 a (upd (upd (upd (upd (upd (upd (upd F 15 (nI fa280)) 16 pl327) 27 (nI (nd + 1))) 31 (nI (wr + 1))) 64 (nI (at0 + 1))) 65 (nI ne)) 66 (nI lk)) (updA X319 2 K)) := mW_D hD
        exact W.iret (v := (nI nd)) hx hb hr (fun t9 ht9 hW9 => ⟨⟨_, ((at0 + 1), fa280, pl327, (nd + 1), lk, (wr + 1), nd, X319), rfl, ⟨rfl, hz340, hz341, hz342, hz343, hz344, hz345, hz346, hz347, hz348, hz349, hz350, hz351, hz352, hz353⟩, by rw [ht9]; exact hP, hD⟩, hS.F ht9⟩) hS.2.2 dX12_newHere_196
    · refine lv_aload_n hx hb dX12_newHere_53 rfl (lv_at hl 1 rfl) ?_
      refine lv_bipush (v := 40) hx hb dX12_newHere_54 (by decide) ?_
      have hP : va_P G.1 pCl (mW G h0 a (upd (upd (upd (upd (upd (upd (upd (upd F 15 0) 27 (nI nd)) 31 (nI wr)) 64 (nI (at0 + 1))) 65 (nI ne)) 66 (nI lk)) 15 (nI 0)) 64 (nI (at0 + 1))) (updA (updA B 2 K) 2 K)) _ := mW_to (F := F) (l1 := [(15, 0), (27, (nI nd)), (31, (nI wr)), (64, (nI at0)), (65, (nI ne)), (66, (nI lk)), (64, (nI (at0 + 1)))]) (l2 := [(15, 0), (27, (nI nd)), (31, (nI wr)), (64, (nI (at0 + 1))), (65, (nI ne)), (66, (nI lk)), (15, (nI 0)), (64, (nI (at0 + 1)))]) (V := [(nI 0), (nI nd), (nI wr), (nI (at0 + 1)), (nI ne), (nI lk), (nI (at0 + 1)), (nI 0), (nI nd), (nI wr), (nI (at0 + 1)), (nI ne), (nI lk), (nI 0), (nI (at0 + 1))]) rfl rfl (show (updA B 2 K) = (updA (updA B 2 K) 2 K) from updsA_eq2 (F := B) (l1 := [(2, K)]) (l2 := [(2, K), (2, K)]) (V := [K, K, K]) rfl rfl) hP
      have hD : va_D A (mW G h0 a (upd (upd (upd (upd (upd (upd (upd (upd F 15 0) 27 (nI nd)) 31 (nI wr)) 64 (nI (at0 + 1))) 65 (nI ne)) 66 (nI lk)) 15 (nI 0)) 64 (nI (at0 + 1))) (updA (updA B 2 K) 2 K)) := mW_D hD
      refine pc_V0 (G := G) (As := [.int 40]) (rest := []) hx hb hml hown hq hE hX pX0_al hP hD hS hA hl.1 (R_is l G h0 a (upd (upd (upd (upd (upd (upd F 15 0) 27 (nI nd)) 31 (nI wr)) 64 (nI (at0 + 1))) 65 (nI ne)) 66 (nI lk)) (updA B 2 K) (at0 + 1) T 0 K 40 (by omega) (by omega) hK (by omega)) (gV pw_1606 pw_1607 pw_1608 pw_1523 pw_1600) hV_X12_is 0 9 rfl rfl rfl rfl (Nat.le_of_ble_eq_true rfl) dX12_newHere_56 ⟨Nat.le_of_ble_eq_true rfl, Nat.le_of_ble_eq_true rfl⟩ ⟨(by show 2 + 1 ≤ (20 * n + 8); omega), (by show 8 + (2 + 11) + 60 ≤ (1000 * n + 40 * 8); omega)⟩ (fun v356 u354 H locs hw355 hP hD hS => ?_)
      obtain ⟨r357, rfl⟩ : ∃ z, z = u354 := ⟨_, rfl⟩
      obtain ⟨hw355, h358, h359, h360, h361⟩ := hw355
      have h358 : r357 ≤ 1 := h358
      have h359 : 0 + 100 * r357 ≤ 100 := h359
      have h360 : If (r357 = 1) (K (at0 + 1) = 40) := h360
      have h361 : If (r357 = 0) (0 = 0 → ¬ K (at0 + 1) = 40) := h361
      obtain rfl : v356 = some (.int (nI r357)) := hw355
      have hP : va_P G.1 pCl (mW G h0 a (upd (upd (upd (upd (upd (upd F 15 0) 27 (nI nd)) 31 (nI wr)) 64 (nI (at0 + 1))) 65 (nI ne)) 66 (nI lk)) (updA B 2 K)) _ := mW_to (F := F) (l1 := [(15, 0), (27, (nI nd)), (31, (nI wr)), (64, (nI (at0 + 1))), (65, (nI ne)), (66, (nI lk)), (15, (nI 0)), (64, (nI (at0 + 1)))]) (l2 := [(15, 0), (27, (nI nd)), (31, (nI wr)), (64, (nI (at0 + 1))), (65, (nI ne)), (66, (nI lk))]) (V := [0, (nI nd), (nI wr), (nI (at0 + 1)), (nI ne), (nI lk), 0, (nI (at0 + 1)), 0, (nI nd), (nI wr), (nI (at0 + 1)), (nI ne), (nI lk)]) rfl rfl (show (updA (updA B 2 K) 2 K) = (updA B 2 K) from updsA_eq2 (F := B) (l1 := [(2, K), (2, K)]) (l2 := [(2, K)]) (V := [K, K, K]) rfl rfl) hP
      have hD : va_D A (mW G h0 a (upd (upd (upd (upd (upd (upd F 15 0) 27 (nI nd)) 31 (nI wr)) 64 (nI (at0 + 1))) 65 (nI ne)) 66 (nI lk)) (updA B 2 K)) := mW_D hD
      refine W.widen (k := 0) (n := 0) (Nat.le_of_ble_eq_true rfl) (Nat.le_of_ble_eq_true rfl) ?_
      refine W.eq (g2 := F0 m 59 ls [.int (nI r357)]) rfl ?_
      refine lv_if_eq (tgt := 103) hx hb dX12_newHere_59 (by decide) (fun c362 => ?_) (fun c362 => ?_)
      · have n363 : r357 = 0 := (nI_eq (a := r357) (b := 0) (by omega) (by omega)).mp c362
        refine lv_aload_n hx hb dX12_newHere_103 rfl (lv_at hl 1 rfl) ?_
        refine r_get (v := .int (nI wr)) hx hb hown hq hE hP 31 399 tFX12_31 (by decide) pw_1629 rfl dX12_newHere_104 ?_
        refine lv_istore_n (lv' := [(3, .int (nI wr)), (2, .int (nI at0)), (0, .ref h0), (1, .int (nI fi))]) hx hb dX12_newHere_107 rfl hl (by decide) rfl (fun ls hl => ?_)
        refine lv_aload_n hx hb dX12_newHere_108 rfl (lv_at hl 2 rfl) ?_
        refine lv_dup hx hb dX12_newHere_109 rfl ?_
        refine r_get (v := .int (nI wr)) hx hb hown hq hE hP 31 399 tFX12_31 (by decide) pw_1629 rfl dX12_newHere_110 ?_
        refine lv_iconst (v := 1) hx hb dX12_newHere_113 (by decide) ?_
        refine lv_iadd hx hb dX12_newHere_114 ?_
        refine lv_topi (fun x364 e365 => ?_)
        obtain rfl : x364 = nI (wr + 1) := e365.trans (nI_add (wr) (1))
        refine r_put (v := (nI (wr + 1))) (ty := .int) hx hb hown hq hE hP hD hS 31 399 tFX12_31 (by decide) pw_1629 (by decide) rfl rfl (ms_31 a _ _) dX12_newHere_115 (fun H locs hP hD hS => ?_)
        refine lv_aload_n hx hb dX12_newHere_118 rfl (lv_at hl 2 rfl) ?_
        refine r_get (v := .ref (a 19)) hx hb hown hq hE hP 28 68 tFX12_28 (by decide) pw_1449 rfl dX12_newHere_119 ?_
        refine lv_iload_n hx hb dX12_newHere_122 rfl (lv_at hl 0 rfl) ?_
        refine lv_iload_n hx hb dX12_newHere_123 rfl (lv_at hl 1 rfl) ?_
        refine r_sti (f := (B 19)) (j := wr) hx hb hE hP hD hS 19 (ma_19 G a _) rfl (mas_19 G a _) (by omega) (by decide) dX12_newHere_124 (fun H locs hP hD hS => ?_)
        refine lv_aload_n hx hb dX12_newHere_125 rfl (lv_at hl 2 rfl) ?_
        refine r_get (v := .ref (a 20)) hx hb hown hq hE hP 29 71 tFX12_29 (by decide) pw_1451 rfl dX12_newHere_126 ?_
        refine lv_iload_n hx hb dX12_newHere_129 rfl (lv_at hl 0 rfl) ?_
        refine lv_iconst (v := 0) hx hb dX12_newHere_130 (by decide) ?_
        refine r_stz (f := (B 20)) (j := wr) hx hb hE hP hD hS 20 (ma_20 G a _) rfl (mas_20 G a _) (by omega) (by decide) dX12_newHere_131 (fun H locs hP hD hS => ?_)
        have hP : va_P G.1 pCl (mW G h0 a (upd (upd (upd (upd (upd (upd F 15 0) 27 (nI nd)) 31 (nI (wr + 1))) 64 (nI (at0 + 1))) 65 (nI ne)) 66 (nI lk)) (updA (updA (updA B 19 (upd (B 19) wr (nI at0))) 20 (upd (B 20) wr 0)) 2 K)) _ := mW_to (F := F) (l1 := [(15, 0), (27, (nI nd)), (31, (nI wr)), (64, (nI (at0 + 1))), (65, (nI ne)), (66, (nI lk)), (31, (nI (wr + 1)))]) (l2 := [(15, 0), (27, (nI nd)), (31, (nI (wr + 1))), (64, (nI (at0 + 1))), (65, (nI ne)), (66, (nI lk))]) (V := [0, (nI nd), (nI (wr + 1)), (nI (at0 + 1)), (nI ne), (nI lk), (nI (wr + 1)), 0, (nI nd), (nI (wr + 1)), (nI (at0 + 1)), (nI ne), (nI lk)]) rfl rfl (show (updA (updA (updA B 2 K) 19 (upd (B 19) wr (nI at0))) 20 (upd (B 20) wr 0)) = (updA (updA (updA B 19 (upd (B 19) wr (nI at0))) 20 (upd (B 20) wr 0)) 2 K) from updsA_eq2 (F := B) (l1 := [(2, K), (19, (upd (B 19) wr (nI at0))), (20, (upd (B 20) wr 0))]) (l2 := [(19, (upd (B 19) wr (nI at0))), (20, (upd (B 20) wr 0)), (2, K)]) (V := [K, (upd (B 19) wr (nI at0)), (upd (B 20) wr 0), (upd (B 19) wr (nI at0)), (upd (B 20) wr 0), K]) rfl rfl) hP
        have hD : va_D A (mW G h0 a (upd (upd (upd (upd (upd (upd F 15 0) 27 (nI nd)) 31 (nI (wr + 1))) 64 (nI (at0 + 1))) 65 (nI ne)) 66 (nI lk)) (updA (updA (updA B 19 (upd (B 19) wr (nI at0))) 20 (upd (B 20) wr 0)) 2 K)) := mW_D hD
        have hkp366 : Kp B (updA (updA B 19 (upd (B 19) wr (nI at0))) 20 (upd (B 20) wr 0)) (wr + 1) T := (Kp.y hkp1 (tkRow_up hkp1.2 (by omega)))
        have hlo367 : Low B (updA (updA B 19 (upd (B 19) wr (nI at0))) 20 (upd (B 20) wr 0)) nd wr := (Low.y hlo2 (fun i z => upd_lt i (by omega)) (fun i z => upd_lt i (by omega)))
        refine lv_aload_n hx hb dX12_newHere_132 rfl (lv_at hl 2 rfl) ?_
        refine r_get (v := .int 0) hx hb hown hq hE hP 15 350 tFX12_15 (by decide) pw_1594 rfl dX12_newHere_133 ?_
        refine lv_if_ne (tgt := 153) hx hb dX12_newHere_136 (by decide) (fun c368 => absurd c368 (by decide)) (fun c368 => ?_)
        refine lv_aload_n hx hb dX12_newHere_139 rfl (lv_at hl 2 rfl) ?_
        have hP : va_P G.1 pCl (mW G h0 a (upd (upd (upd (upd (upd (upd (upd (upd F 15 0) 27 (nI nd)) 31 (nI (wr + 1))) 64 (nI (at0 + 1))) 65 (nI ne)) 66 (nI lk)) 15 (nI 0)) 64 (nI (at0 + 1))) (updA (updA (updA (updA B 19 (upd (B 19) wr (nI at0))) 20 (upd (B 20) wr 0)) 2 K) 2 K)) _ := mW_to (F := F) (l1 := [(15, 0), (27, (nI nd)), (31, (nI (wr + 1))), (64, (nI (at0 + 1))), (65, (nI ne)), (66, (nI lk))]) (l2 := [(15, 0), (27, (nI nd)), (31, (nI (wr + 1))), (64, (nI (at0 + 1))), (65, (nI ne)), (66, (nI lk)), (15, (nI 0)), (64, (nI (at0 + 1)))]) (V := [(nI 0), (nI nd), (nI (wr + 1)), (nI (at0 + 1)), (nI ne), (nI lk), (nI 0), (nI nd), (nI (wr + 1)), (nI (at0 + 1)), (nI ne), (nI lk), (nI 0), (nI (at0 + 1))]) rfl rfl (show (updA (updA (updA B 19 (upd (B 19) wr (nI at0))) 20 (upd (B 20) wr 0)) 2 K) = (updA (updA (updA (updA B 19 (upd (B 19) wr (nI at0))) 20 (upd (B 20) wr 0)) 2 K) 2 K) from updsA_eq2 (F := B) (l1 := [(19, (upd (B 19) wr (nI at0))), (20, (upd (B 20) wr 0)), (2, K)]) (l2 := [(19, (upd (B 19) wr (nI at0))), (20, (upd (B 20) wr 0)), (2, K), (2, K)]) (V := [(upd (B 19) wr (nI at0)), (upd (B 20) wr 0), K, (upd (B 19) wr (nI at0)), (upd (B 20) wr 0), K, K]) rfl rfl) hP
        have hD : va_D A (mW G h0 a (upd (upd (upd (upd (upd (upd (upd (upd F 15 0) 27 (nI nd)) 31 (nI (wr + 1))) 64 (nI (at0 + 1))) 65 (nI ne)) 66 (nI lk)) 15 (nI 0)) 64 (nI (at0 + 1))) (updA (updA (updA (updA B 19 (upd (B 19) wr (nI at0))) 20 (upd (B 20) wr 0)) 2 K) 2 K)) := mW_D hD
        refine pc_V0 (G := G) (As := []) (rest := []) hx hb hml hown hq hE hX pX0_al hP hD hS hA hl.1 (R_kind l G h0 a (upd (upd (upd (upd (upd (upd F 15 0) 27 (nI nd)) 31 (nI (wr + 1))) 64 (nI (at0 + 1))) 65 (nI ne)) 66 (nI lk)) (updA (updA (updA B 19 (upd (B 19) wr (nI at0))) 20 (upd (B 20) wr 0)) 2 K) (at0 + 1) T 0 K (by omega) (by omega) hK (by omega)) (gV pw_1626 pw_1627 pw_1628 pw_1523 pw_1591) hV_X12_kind 0 9 rfl rfl rfl rfl (Nat.le_of_ble_eq_true rfl) dX12_newHere_140 ⟨Nat.le_of_ble_eq_true rfl, Nat.le_of_ble_eq_true rfl⟩ ⟨(by show 2 + 1 ≤ (20 * n + 8); omega), (by show 8 + (1 + 11) + 60 ≤ (1000 * n + 40 * 8); omega)⟩ (fun v371 u369 H locs hw370 hP hD hS => ?_)
        obtain rfl : v371 = some (.int (K (at0 + 1))) := hw370
        have hP : va_P G.1 pCl (mW G h0 a (upd (upd (upd (upd (upd (upd F 15 0) 27 (nI nd)) 31 (nI (wr + 1))) 64 (nI (at0 + 1))) 65 (nI ne)) 66 (nI lk)) (updA (updA (updA B 19 (upd (B 19) wr (nI at0))) 20 (upd (B 20) wr 0)) 2 K)) _ := mW_to (F := F) (l1 := [(15, 0), (27, (nI nd)), (31, (nI (wr + 1))), (64, (nI (at0 + 1))), (65, (nI ne)), (66, (nI lk)), (15, (nI 0)), (64, (nI (at0 + 1)))]) (l2 := [(15, 0), (27, (nI nd)), (31, (nI (wr + 1))), (64, (nI (at0 + 1))), (65, (nI ne)), (66, (nI lk))]) (V := [0, (nI nd), (nI (wr + 1)), (nI (at0 + 1)), (nI ne), (nI lk), 0, (nI (at0 + 1)), 0, (nI nd), (nI (wr + 1)), (nI (at0 + 1)), (nI ne), (nI lk)]) rfl rfl (show (updA (updA (updA (updA B 19 (upd (B 19) wr (nI at0))) 20 (upd (B 20) wr 0)) 2 K) 2 K) = (updA (updA (updA B 19 (upd (B 19) wr (nI at0))) 20 (upd (B 20) wr 0)) 2 K) from updsA_eq2 (F := B) (l1 := [(19, (upd (B 19) wr (nI at0))), (20, (upd (B 20) wr 0)), (2, K), (2, K)]) (l2 := [(19, (upd (B 19) wr (nI at0))), (20, (upd (B 20) wr 0)), (2, K)]) (V := [(upd (B 19) wr (nI at0)), (upd (B 20) wr 0), K, K, (upd (B 19) wr (nI at0)), (upd (B 20) wr 0), K]) rfl rfl) hP
        have hD : va_D A (mW G h0 a (upd (upd (upd (upd (upd (upd F 15 0) 27 (nI nd)) 31 (nI (wr + 1))) 64 (nI (at0 + 1))) 65 (nI ne)) 66 (nI lk)) (updA (updA (updA B 19 (upd (B 19) wr (nI at0))) 20 (upd (B 20) wr 0)) 2 K)) := mW_D hD
        refine W.widen (k := 0) (n := 0) (Nat.le_of_ble_eq_true rfl) (Nat.le_of_ble_eq_true rfl) ?_
        refine W.eq (g2 := F0 m 143 ls [.int (K (at0 + 1))]) rfl ?_
        refine lv_bipush (v := 91) hx hb dX12_newHere_143 (by decide) ?_
        refine lv_icmp_eq (tgt := 153) hx hb dX12_newHere_145 (by decide) (fun c372 => ?_) (fun c372 => ?_)
        · refine lv_aload_n hx hb dX12_newHere_153 rfl (lv_at hl 2 rfl) ?_
          have hP : va_P G.1 pCl (mW G h0 a (upd (upd (upd (upd (upd (upd (upd (upd (upd F 15 0) 27 (nI nd)) 31 (nI (wr + 1))) 64 (nI (at0 + 1))) 65 (nI ne)) 66 (nI lk)) 15 (nI 0)) 64 (nI (at0 + 1))) 65 (nI ne)) (updA (updA (updA (updA B 19 (upd (B 19) wr (nI at0))) 20 (upd (B 20) wr 0)) 2 K) 2 K)) _ := mW_to (F := F) (l1 := [(15, 0), (27, (nI nd)), (31, (nI (wr + 1))), (64, (nI (at0 + 1))), (65, (nI ne)), (66, (nI lk))]) (l2 := [(15, 0), (27, (nI nd)), (31, (nI (wr + 1))), (64, (nI (at0 + 1))), (65, (nI ne)), (66, (nI lk)), (15, (nI 0)), (64, (nI (at0 + 1))), (65, (nI ne))]) (V := [(nI 0), (nI nd), (nI (wr + 1)), (nI (at0 + 1)), (nI ne), (nI lk), (nI 0), (nI nd), (nI (wr + 1)), (nI (at0 + 1)), (nI ne), (nI lk), (nI 0), (nI (at0 + 1)), (nI ne)]) rfl rfl (show (updA (updA (updA B 19 (upd (B 19) wr (nI at0))) 20 (upd (B 20) wr 0)) 2 K) = (updA (updA (updA (updA B 19 (upd (B 19) wr (nI at0))) 20 (upd (B 20) wr 0)) 2 K) 2 K) from updsA_eq2 (F := B) (l1 := [(19, (upd (B 19) wr (nI at0))), (20, (upd (B 20) wr 0)), (2, K)]) (l2 := [(19, (upd (B 19) wr (nI at0))), (20, (upd (B 20) wr 0)), (2, K), (2, K)]) (V := [(upd (B 19) wr (nI at0)), (upd (B 20) wr 0), K, (upd (B 19) wr (nI at0)), (upd (B 20) wr 0), K, K]) rfl rfl) hP
          have hD : va_D A (mW G h0 a (upd (upd (upd (upd (upd (upd (upd (upd (upd F 15 0) 27 (nI nd)) 31 (nI (wr + 1))) 64 (nI (at0 + 1))) 65 (nI ne)) 66 (nI lk)) 15 (nI 0)) 64 (nI (at0 + 1))) 65 (nI ne)) (updA (updA (updA (updA B 19 (upd (B 19) wr (nI at0))) 20 (upd (B 20) wr 0)) 2 K) 2 K)) := mW_D hD
          refine pc_V0 (G := G) (As := []) (rest := []) hx hb hml hown hq hE hX pX0_al hP hD hS hA hl.1 (R_deeper l G h0 a (upd (upd (upd (upd (upd (upd F 15 0) 27 (nI nd)) 31 (nI (wr + 1))) 64 (nI (at0 + 1))) 65 (nI ne)) 66 (nI lk)) (updA (updA (updA B 19 (upd (B 19) wr (nI at0))) 20 (upd (B 20) wr 0)) 2 K) (at0 + 1) T 0 K ne (by omega) (by omega) hK (by omega) (by omega)) (gV pw_1637 pw_1638 pw_1639 pw_1523 pw_1611) hV_X12_deeper 0 9 rfl rfl rfl rfl (Nat.le_of_ble_eq_true rfl) dX12_newHere_154 ⟨Nat.le_of_ble_eq_true rfl, Nat.le_of_ble_eq_true rfl⟩ ⟨(by show 4 + 1 ≤ (20 * n + 8); omega), (by show 8 + (1 + 11) + 103 ≤ (1000 * n + 40 * 8); omega)⟩ (fun v375 u373 H locs hw374 hP hD hS => ?_)
          obtain ⟨fa376, pl377⟩ := u373
          obtain ⟨hw374, h378, h379, h380, h381⟩ := hw374
          have h378 : 0 ≤ fa376 := h378
          have h379 : fa376 ≤ 100 := h379
          have h380 : If (0 < 0) (fa376 = 0) := h380
          have h381 : If (ne ≤ 20) (ne + 1 ≤ 20 + fa376) := h381
          obtain rfl : v375 = none := hw374
          have hP : va_P G.1 pCl (mW G h0 a (upd (upd (upd (upd (upd (upd (upd F 15 (nI fa376)) 16 pl377) 27 (nI nd)) 31 (nI (wr + 1))) 64 (nI (at0 + 1))) 65 (nI (ne + 1))) 66 (nI lk)) (updA (updA (updA B 19 (upd (B 19) wr (nI at0))) 20 (upd (B 20) wr 0)) 2 K)) _ := mW_to (F := F) (l1 := [(15, 0), (27, (nI nd)), (31, (nI (wr + 1))), (64, (nI (at0 + 1))), (65, (nI ne)), (66, (nI lk)), (15, (nI fa376)), (16, pl377), (64, (nI (at0 + 1))), (65, (nI (ne + 1)))]) (l2 := [(15, (nI fa376)), (16, pl377), (27, (nI nd)), (31, (nI (wr + 1))), (64, (nI (at0 + 1))), (65, (nI (ne + 1))), (66, (nI lk))]) (V := [(nI fa376), (nI nd), (nI (wr + 1)), (nI (at0 + 1)), (nI (ne + 1)), (nI lk), (nI fa376), pl377, (nI (at0 + 1)), (nI (ne + 1)), (nI fa376), pl377, (nI nd), (nI (wr + 1)), (nI (at0 + 1)), (nI (ne + 1)), (nI lk)]) rfl rfl (show (updA (updA (updA (updA B 19 (upd (B 19) wr (nI at0))) 20 (upd (B 20) wr 0)) 2 K) 2 K) = (updA (updA (updA B 19 (upd (B 19) wr (nI at0))) 20 (upd (B 20) wr 0)) 2 K) from updsA_eq2 (F := B) (l1 := [(19, (upd (B 19) wr (nI at0))), (20, (upd (B 20) wr 0)), (2, K), (2, K)]) (l2 := [(19, (upd (B 19) wr (nI at0))), (20, (upd (B 20) wr 0)), (2, K)]) (V := [(upd (B 19) wr (nI at0)), (upd (B 20) wr 0), K, K, (upd (B 19) wr (nI at0)), (upd (B 20) wr 0), K]) rfl rfl) hP
          have hD : va_D A (mW G h0 a (upd (upd (upd (upd (upd (upd (upd F 15 (nI fa376)) 16 pl377) 27 (nI nd)) 31 (nI (wr + 1))) 64 (nI (at0 + 1))) 65 (nI (ne + 1))) 66 (nI lk)) (updA (updA (updA B 19 (upd (B 19) wr (nI at0))) 20 (upd (B 20) wr 0)) 2 K)) := mW_D hD
          refine W.widen (k := 0) (n := 0) (Nat.le_of_ble_eq_true rfl) (Nat.le_of_ble_eq_true rfl) ?_
          refine W.eq (g2 := F0 m 157 ls []) rfl ?_
          rcases Nat.eq_zero_or_pos fa376 with e382 | e382
          · subst e382
            have hP : va_P G.1 pCl (mW G h0 a (upd (upd (upd (upd (upd (upd (upd F 15 0) 16 pl377) 27 (nI nd)) 31 (nI (wr + 1))) 64 (nI (at0 + 1))) 65 (nI (ne + 1))) 66 (nI lk)) (updA (updA (updA B 19 (upd (B 19) wr (nI at0))) 20 (upd (B 20) wr 0)) 2 K)) _ := hP
            have hD : va_D A (mW G h0 a (upd (upd (upd (upd (upd (upd (upd F 15 0) 16 pl377) 27 (nI nd)) 31 (nI (wr + 1))) 64 (nI (at0 + 1))) 65 (nI (ne + 1))) 66 (nI lk)) (updA (updA (updA B 19 (upd (B 19) wr (nI at0))) 20 (upd (B 20) wr 0)) 2 K)) := mW_D hD
            have n383 : ne + 1 ≤ 20 := (h381 (by omega))
            refine lv_aload_n hx hb dX12_newHere_157 rfl (lv_at hl 2 rfl) ?_
            refine lv_bipush (v := 91) hx hb dX12_newHere_158 (by decide) ?_
            have hP : va_P G.1 pCl (mW G h0 a (upd (upd (upd (upd (upd (upd (upd (upd (upd F 15 0) 16 pl377) 27 (nI nd)) 31 (nI (wr + 1))) 64 (nI (at0 + 1))) 65 (nI (ne + 1))) 66 (nI lk)) 15 (nI 0)) 64 (nI (at0 + 1))) (updA (updA (updA (updA B 19 (upd (B 19) wr (nI at0))) 20 (upd (B 20) wr 0)) 2 K) 2 K)) _ := mW_to (F := F) (l1 := [(15, 0), (16, pl377), (27, (nI nd)), (31, (nI (wr + 1))), (64, (nI (at0 + 1))), (65, (nI (ne + 1))), (66, (nI lk))]) (l2 := [(15, 0), (16, pl377), (27, (nI nd)), (31, (nI (wr + 1))), (64, (nI (at0 + 1))), (65, (nI (ne + 1))), (66, (nI lk)), (15, (nI 0)), (64, (nI (at0 + 1)))]) (V := [(nI 0), pl377, (nI nd), (nI (wr + 1)), (nI (at0 + 1)), (nI (ne + 1)), (nI lk), (nI 0), pl377, (nI nd), (nI (wr + 1)), (nI (at0 + 1)), (nI (ne + 1)), (nI lk), (nI 0), (nI (at0 + 1))]) rfl rfl (show (updA (updA (updA B 19 (upd (B 19) wr (nI at0))) 20 (upd (B 20) wr 0)) 2 K) = (updA (updA (updA (updA B 19 (upd (B 19) wr (nI at0))) 20 (upd (B 20) wr 0)) 2 K) 2 K) from updsA_eq2 (F := B) (l1 := [(19, (upd (B 19) wr (nI at0))), (20, (upd (B 20) wr 0)), (2, K)]) (l2 := [(19, (upd (B 19) wr (nI at0))), (20, (upd (B 20) wr 0)), (2, K), (2, K)]) (V := [(upd (B 19) wr (nI at0)), (upd (B 20) wr 0), K, (upd (B 19) wr (nI at0)), (upd (B 20) wr 0), K, K]) rfl rfl) hP
            have hD : va_D A (mW G h0 a (upd (upd (upd (upd (upd (upd (upd (upd (upd F 15 0) 16 pl377) 27 (nI nd)) 31 (nI (wr + 1))) 64 (nI (at0 + 1))) 65 (nI (ne + 1))) 66 (nI lk)) 15 (nI 0)) 64 (nI (at0 + 1))) (updA (updA (updA (updA B 19 (upd (B 19) wr (nI at0))) 20 (upd (B 20) wr 0)) 2 K) 2 K)) := mW_D hD
            refine pc_V0 (G := G) (As := [.int 91]) (rest := []) hx hb hml hown hq hE hX pX0_al hP hD hS hA hl.1 (R_take l G h0 a (upd (upd (upd (upd (upd (upd (upd F 15 0) 16 pl377) 27 (nI nd)) 31 (nI (wr + 1))) 64 (nI (at0 + 1))) 65 (nI (ne + 1))) 66 (nI lk)) (updA (updA (updA B 19 (upd (B 19) wr (nI at0))) 20 (upd (B 20) wr 0)) 2 K) (at0 + 1) T 0 K 91 (by omega) (by omega) hK (by omega) (by decide) (by decide)) (gV pw_1614 pw_1615 pw_1616 pw_1523 pw_1601) hV_X12_take 0 9 rfl rfl rfl rfl (Nat.le_of_ble_eq_true rfl) dX12_newHere_160 ⟨Nat.le_of_ble_eq_true rfl, Nat.le_of_ble_eq_true rfl⟩ ⟨(by show 4 + 1 ≤ (20 * n + 8); omega), (by show 8 + (2 + 11) + 103 ≤ (1000 * n + 40 * 8); omega)⟩ (fun v386 u384 H locs hw385 hP hD hS => ?_)
            obtain ⟨at387, fa388, pl389⟩ := u384
            obtain ⟨hw385, h390, h391, h392, h393, h394, h395, h396, h397⟩ := hw385
            have h390 : (at0 + 1) ≤ at387 := h390
            have h391 : at387 ≤ T := h391
            have h392 : 0 ≤ fa388 := h392
            have h393 : fa388 ≤ 100 := h393
            have h394 : If (0 < 0) (at387 = (at0 + 1) ∧ fa388 = 0) := h394
            have h395 : at387 ≤ (at0 + 1) + 1 := h395
            have h396 : (at0 + 1) + 1 ≤ at387 + fa388 := h396
            have h397 : If (fa388 = 0) (K (at0 + 1) = 91) := h397
            obtain rfl : v386 = none := hw385
            have hP : va_P G.1 pCl (mW G h0 a (upd (upd (upd (upd (upd (upd (upd F 15 (nI fa388)) 16 pl389) 27 (nI nd)) 31 (nI (wr + 1))) 64 (nI at387)) 65 (nI (ne + 1))) 66 (nI lk)) (updA (updA (updA B 19 (upd (B 19) wr (nI at0))) 20 (upd (B 20) wr 0)) 2 K)) _ := mW_to (F := F) (l1 := [(15, 0), (16, pl377), (27, (nI nd)), (31, (nI (wr + 1))), (64, (nI (at0 + 1))), (65, (nI (ne + 1))), (66, (nI lk)), (15, (nI fa388)), (16, pl389), (64, (nI at387))]) (l2 := [(15, (nI fa388)), (16, pl389), (27, (nI nd)), (31, (nI (wr + 1))), (64, (nI at387)), (65, (nI (ne + 1))), (66, (nI lk))]) (V := [(nI fa388), pl389, (nI nd), (nI (wr + 1)), (nI at387), (nI (ne + 1)), (nI lk), (nI fa388), pl389, (nI at387), (nI fa388), pl389, (nI nd), (nI (wr + 1)), (nI at387), (nI (ne + 1)), (nI lk)]) rfl rfl (show (updA (updA (updA (updA B 19 (upd (B 19) wr (nI at0))) 20 (upd (B 20) wr 0)) 2 K) 2 K) = (updA (updA (updA B 19 (upd (B 19) wr (nI at0))) 20 (upd (B 20) wr 0)) 2 K) from updsA_eq2 (F := B) (l1 := [(19, (upd (B 19) wr (nI at0))), (20, (upd (B 20) wr 0)), (2, K), (2, K)]) (l2 := [(19, (upd (B 19) wr (nI at0))), (20, (upd (B 20) wr 0)), (2, K)]) (V := [(upd (B 19) wr (nI at0)), (upd (B 20) wr 0), K, K, (upd (B 19) wr (nI at0)), (upd (B 20) wr 0), K]) rfl rfl) hP
            have hD : va_D A (mW G h0 a (upd (upd (upd (upd (upd (upd (upd F 15 (nI fa388)) 16 pl389) 27 (nI nd)) 31 (nI (wr + 1))) 64 (nI at387)) 65 (nI (ne + 1))) 66 (nI lk)) (updA (updA (updA B 19 (upd (B 19) wr (nI at0))) 20 (upd (B 20) wr 0)) 2 K)) := mW_D hD
            refine W.widen (k := 0) (n := 0) (Nat.le_of_ble_eq_true rfl) (Nat.le_of_ble_eq_true rfl) ?_
            refine W.eq (g2 := F0 m 163 ls []) rfl ?_
            rcases Nat.eq_zero_or_pos fa388 with e398 | e398
            · subst e398
              have hP : va_P G.1 pCl (mW G h0 a (upd (upd (upd (upd (upd (upd (upd F 15 0) 16 pl389) 27 (nI nd)) 31 (nI (wr + 1))) 64 (nI at387)) 65 (nI (ne + 1))) 66 (nI lk)) (updA (updA (updA B 19 (upd (B 19) wr (nI at0))) 20 (upd (B 20) wr 0)) 2 K)) _ := hP
              have hD : va_D A (mW G h0 a (upd (upd (upd (upd (upd (upd (upd F 15 0) 16 pl389) 27 (nI nd)) 31 (nI (wr + 1))) 64 (nI at387)) 65 (nI (ne + 1))) 66 (nI lk)) (updA (updA (updA B 19 (upd (B 19) wr (nI at0))) 20 (upd (B 20) wr 0)) 2 K)) := mW_D hD
              refine lv_aload_n hx hb dX12_newHere_163 rfl (lv_at hl 2 rfl) ?_
              refine lv_bipush (v := 10) hx hb dX12_newHere_164 (by decide) ?_
              refine lv_iload_n hx hb dX12_newHere_166 rfl (lv_at hl 3 rfl) ?_
              refine lv_iload_n hx hb dX12_newHere_167 rfl (lv_at hl 1 rfl) ?_
              refine lv_aload_n hx hb dX12_newHere_168 rfl (lv_at hl 2 rfl) ?_
              have hP : va_P G.1 pCl (mW G h0 a (upd (upd (upd (upd (upd (upd (upd (upd (upd (upd (upd (upd (upd F 15 0) 16 pl389) 27 (nI nd)) 31 (nI (wr + 1))) 64 (nI at387)) 65 (nI (ne + 1))) 66 (nI lk)) 15 0) 27 (nI nd)) 31 (nI (wr + 1))) 64 (nI at387)) 65 (nI (ne + 1))) 66 (nI lk)) (updA (updA (updA B 19 (upd (B 19) wr (nI at0))) 20 (upd (B 20) wr 0)) 2 K)) _ := mW_to (F := F) (l1 := [(15, 0), (16, pl389), (27, (nI nd)), (31, (nI (wr + 1))), (64, (nI at387)), (65, (nI (ne + 1))), (66, (nI lk))]) (l2 := [(15, 0), (16, pl389), (27, (nI nd)), (31, (nI (wr + 1))), (64, (nI at387)), (65, (nI (ne + 1))), (66, (nI lk)), (15, 0), (27, (nI nd)), (31, (nI (wr + 1))), (64, (nI at387)), (65, (nI (ne + 1))), (66, (nI lk))]) (V := [0, pl389, (nI nd), (nI (wr + 1)), (nI at387), (nI (ne + 1)), (nI lk), 0, pl389, (nI nd), (nI (wr + 1)), (nI at387), (nI (ne + 1)), (nI lk), 0, (nI nd), (nI (wr + 1)), (nI at387), (nI (ne + 1)), (nI lk)]) rfl rfl rfl hP
              have hD : va_D A (mW G h0 a (upd (upd (upd (upd (upd (upd (upd (upd (upd (upd (upd (upd (upd F 15 0) 16 pl389) 27 (nI nd)) 31 (nI (wr + 1))) 64 (nI at387)) 65 (nI (ne + 1))) 66 (nI lk)) 15 0) 27 (nI nd)) 31 (nI (wr + 1))) 64 (nI at387)) 65 (nI (ne + 1))) 66 (nI lk)) (updA (updA (updA B 19 (upd (B 19) wr (nI at0))) 20 (upd (B 20) wr 0)) 2 K)) := mW_D hD
              refine pc_V0 (G := G) (As := []) (rest := [.int (nI at0), .int (nI fi), .int 10, .ref h0]) hx hb hml hown hq hE hX pX0_al hP hD hS hA hl.1 (ihc h0 a (upd (upd (upd (upd (upd (upd (upd F 15 0) 16 pl389) 27 (nI nd)) 31 (nI (wr + 1))) 64 (nI at387)) 65 (nI (ne + 1))) 66 (nI lk)) (updA (updA B 19 (upd (B 19) wr (nI at0))) 20 (upd (B 20) wr 0)) at387 T (ne + 1) nd (wr + 1) lk K (by omega) (by omega) hK (by omega) (by omega) (by omega) (by omega) (hkp366).2 (by omega)) (gV pw_1640 pw_1641 pw_1642 pw_1523 pw_1656) hV_X12_choice 0 9 rfl rfl rfl rfl (Nat.le_of_ble_eq_true rfl) dX12_newHere_169 ⟨Nat.le_of_ble_eq_true rfl, Nat.le_of_ble_eq_true rfl⟩ ⟨(by show (20 * (n - 1) + 27) + 1 ≤ (20 * n + 8); omega), (by show 8 + (4 + 11) + (1000 * (n - 1) + 40 * 27) ≤ (1000 * n + 40 * 8); omega)⟩ (fun v401 u399 H locs hw400 hP hD hS => ?_)
              obtain ⟨at402, fa403, pl404, nd405, lk406, wr407, r408, X409⟩ := u399
              obtain ⟨hw400, h410, h411, h412, h413, h414, h415, h416, h417, h418, h419, h420, h421, h422, h423⟩ := hw400
              have h410 : at387 ≤ at402 := h410
              have h411 : at402 ≤ T := h411
              have h412 : fa403 ≤ 100 := h412
              have h413 : nd ≤ nd405 := h413
              have h414 : nd405 + 2 * at387 ≤ nd + 2 * at402 + 100000 * fa403 := h414
              have h415 : nd405 + 2 * at387 ≤ nd + 2 * at402 + 40 * (21 - (ne + 1)) := h415
              have h416 : (wr + 1) ≤ wr407 := h416
              have h417 : wr407 + at387 ≤ (wr + 1) + at402 := h417
              have h418 : lk ≤ lk406 := h418
              have h419 : lk406 ≤ 60 + 100 * fa403 := h419
              have h420 : at387 + 1 ≤ at402 + fa403 := h420
              have h421 : r408 ≤ nd405 := h421
              have h422 : Kp (updA (updA B 19 (upd (B 19) wr (nI at0))) 20 (upd (B 20) wr 0)) X409 wr407 T := h422
              have h423 : If (fa403 = 0) (Low (updA (updA B 19 (upd (B 19) wr (nI at0))) 20 (upd (B 20) wr 0)) X409 nd (wr + 1) ∧ Frs K T wr407 X409 nd nd405 20000 [(r408, (211 + lk406 - (10 * (ne + 1) + lk)))] ∧ kcl 1 (X409 9 r408) = true) := h423
              obtain rfl : v401 = some (.int (nI r408)) := hw400
              have hP : va_P G.1 pCl (mW G h0 a (upd (upd (upd (upd (upd (upd (upd F 15 (nI fa403)) 16 pl404) 27 (nI nd405)) 31 (nI wr407)) 64 (nI at402)) 65 (nI (ne + 1))) 66 (nI lk406)) (updA X409 2 K)) _ := mW_to (F := F) (l1 := [(15, 0), (16, pl389), (27, (nI nd)), (31, (nI (wr + 1))), (64, (nI at387)), (65, (nI (ne + 1))), (66, (nI lk)), (15, (nI fa403)), (16, pl404), (27, (nI nd405)), (31, (nI wr407)), (64, (nI at402)), (65, (nI (ne + 1))), (66, (nI lk406))]) (l2 := [(15, (nI fa403)), (16, pl404), (27, (nI nd405)), (31, (nI wr407)), (64, (nI at402)), (65, (nI (ne + 1))), (66, (nI lk406))]) (V := [(nI fa403), pl404, (nI nd405), (nI wr407), (nI at402), (nI (ne + 1)), (nI lk406), (nI fa403), pl404, (nI nd405), (nI wr407), (nI at402), (nI (ne + 1)), (nI lk406), (nI fa403), pl404, (nI nd405), (nI wr407), (nI at402), (nI (ne + 1)), (nI lk406)]) rfl rfl rfl hP
              have hD : va_D A (mW G h0 a (upd (upd (upd (upd (upd (upd (upd F 15 (nI fa403)) 16 pl404) 27 (nI nd405)) 31 (nI wr407)) 64 (nI at402)) 65 (nI (ne + 1))) 66 (nI lk406)) (updA X409 2 K)) := mW_D hD
              refine W.widen (k := 0) (n := 0) (Nat.le_of_ble_eq_true rfl) (Nat.le_of_ble_eq_true rfl) ?_
              refine W.eq (g2 := F0 m 172 ls [.int (nI r408), .int (nI at0), .int (nI fi), .int 10, .ref h0]) rfl ?_
              have hkp424 : Kp B X409 wr407 T := (Kp.trans hkp366 h422)
              rcases Nat.eq_zero_or_pos fa403 with e425 | e425
              · subst e425
                have hP : va_P G.1 pCl (mW G h0 a (upd (upd (upd (upd (upd (upd (upd F 15 0) 16 pl404) 27 (nI nd405)) 31 (nI wr407)) 64 (nI at402)) 65 (nI (ne + 1))) 66 (nI lk406)) (updA X409 2 K)) _ := hP
                have hD : va_D A (mW G h0 a (upd (upd (upd (upd (upd (upd (upd F 15 0) 16 pl404) 27 (nI nd405)) 31 (nI wr407)) 64 (nI at402)) 65 (nI (ne + 1))) 66 (nI lk406)) (updA X409 2 K)) := mW_D hD
                obtain ⟨hlw426, hf427, hc428⟩ := h423 rfl
                have hlo429 : Low B X409 nd wr := (Low.trans hlo367 hlw426 (by omega) (by omega))
                have hm430 := Frs.mem hf427
                refine lv_iload_n hx hb dX12_newHere_172 rfl (lv_at hl 0 rfl) ?_
                have hP : va_P G.1 pCl (mW G h0 a (upd (upd (upd (upd (upd (upd (upd (upd F 15 0) 16 pl404) 27 (nI nd405)) 31 (nI wr407)) 64 (nI at402)) 65 (nI (ne + 1))) 66 (nI lk406)) 27 (nI nd405)) (updA X409 2 K)) _ := mW_to (F := F) (l1 := [(15, 0), (16, pl404), (27, (nI nd405)), (31, (nI wr407)), (64, (nI at402)), (65, (nI (ne + 1))), (66, (nI lk406))]) (l2 := [(15, 0), (16, pl404), (27, (nI nd405)), (31, (nI wr407)), (64, (nI at402)), (65, (nI (ne + 1))), (66, (nI lk406)), (27, (nI nd405))]) (V := [0, pl404, (nI nd405), (nI wr407), (nI at402), (nI (ne + 1)), (nI lk406), 0, pl404, (nI nd405), (nI wr407), (nI at402), (nI (ne + 1)), (nI lk406), (nI nd405)]) rfl rfl rfl hP
                have hD : va_D A (mW G h0 a (upd (upd (upd (upd (upd (upd (upd (upd F 15 0) 16 pl404) 27 (nI nd405)) 31 (nI wr407)) 64 (nI at402)) 65 (nI (ne + 1))) 66 (nI lk406)) 27 (nI nd405)) (updA X409 2 K)) := mW_D hD
                refine pc_V0 (G := G) (As := [.int 10, .int (nI fi), .int (nI at0), .int (nI r408), .int (nI wr)]) (rest := []) hx hb hml hown hq hE hX pX0_al hP hD hS hA hl.1 (R_nodeB l G h0 a (upd (upd (upd (upd (upd (upd (upd F 15 0) 16 pl404) 27 (nI nd405)) 31 (nI wr407)) 64 (nI at402)) 65 (nI (ne + 1))) 66 (nI lk406)) X409 10 (nI fi) (nI at0) (nI r408) (nI wr) nd405 K (by omega)) (gV pw_1650 pw_1651 pw_1652 pw_1523 pw_1589) hV_X12_node 0 9 rfl rfl rfl rfl (Nat.le_of_ble_eq_true rfl) dX12_newHere_173 ⟨Nat.le_of_ble_eq_true rfl, Nat.le_of_ble_eq_true rfl⟩ ⟨(by show 2 + 1 ≤ (20 * n + 8); omega), (by show 8 + (7 + 11) + 60 ≤ (1000 * n + 40 * 8); omega)⟩ (fun v433 u431 H locs hw432 hP hD hS => ?_)
                obtain ⟨X434, rfl⟩ : ∃ z, z = u431 := ⟨_, rfl⟩
                obtain ⟨hw432, h435⟩ := hw432
                have h435 : NewN X409 X434 nd405 10 (nI fi) (nI at0) (nI r408) (nI wr) := h435
                obtain rfl : v433 = some (.int (nI nd405)) := hw432
                have hP : va_P G.1 pCl (mW G h0 a (upd (upd (upd (upd (upd (upd (upd F 15 0) 16 pl404) 27 (nI (nd405 + 1))) 31 (nI wr407)) 64 (nI at402)) 65 (nI (ne + 1))) 66 (nI lk406)) (updA X434 2 K)) _ := mW_to (F := F) (l1 := [(15, 0), (16, pl404), (27, (nI nd405)), (31, (nI wr407)), (64, (nI at402)), (65, (nI (ne + 1))), (66, (nI lk406)), (27, (nI (nd405 + 1)))]) (l2 := [(15, 0), (16, pl404), (27, (nI (nd405 + 1))), (31, (nI wr407)), (64, (nI at402)), (65, (nI (ne + 1))), (66, (nI lk406))]) (V := [0, pl404, (nI (nd405 + 1)), (nI wr407), (nI at402), (nI (ne + 1)), (nI lk406), (nI (nd405 + 1)), 0, pl404, (nI (nd405 + 1)), (nI wr407), (nI at402), (nI (ne + 1)), (nI lk406)]) rfl rfl rfl hP
                have hD : va_D A (mW G h0 a (upd (upd (upd (upd (upd (upd (upd F 15 0) 16 pl404) 27 (nI (nd405 + 1))) 31 (nI wr407)) 64 (nI at402)) 65 (nI (ne + 1))) 66 (nI lk406)) (updA X434 2 K)) := mW_D hD
                refine W.widen (k := 0) (n := 0) (Nat.le_of_ble_eq_true rfl) (Nat.le_of_ble_eq_true rfl) ?_
                refine W.eq (g2 := F0 m 176 ls [.int (nI nd405)]) rfl ?_
                have hkp436 : Kp B X434 wr407 T := (Kp.new hkp424 h435)
                have hlo437 : Low B X434 nd wr := (Low.new hlo429 h435 (by omega))
                have hc438 : kcl 1 (X434 9 r408) = true := by rw [h435.2.1 9 r408 (by omega)]; exact hc428
                have hf439 : Frs K T wr407 X434 nd (nd405 + 1) nd405 [(nd405, (210 + lk406 - (10 * ne + lk)))] := (Frs.new1 (k := 10) hf427 (by omega) (by omega) (by omega) h435 rfl rfl (by decide) (by decide) (by omega) (by omega) (by decide) (by simp) ⟨by decide, by decide, by decide, by decide⟩ hc428 ⟨fun _ => ⟨wr, rfl, by omega⟩, fun e => absurd e (by decide), fun e => absurd (by decide) e⟩ (newOK.m1 (by decide)) (newOK.m1 (by decide)) (by omega))
                have hn440 : Nd X434 nd405 10 (nI r408) (nI wr) (-1) (-1) := (NewN.toNd h435)
                have hf441 : Frs K T wr407 X434 nd (nd405 + 1) 20000 [(nd405, (210 + lk406 - (10 * ne + lk)))] := (Frs.fin (k := 10) hf439 hn440 rfl (by decide) (fun _ => nI_m1 (by omega)) (fun h => absurd h (by decide)) (fun h => absurd h (by decide)) (fun h => absurd h (by decide)))
                refine lv_istore (lv' := [(4, .int (nI nd405)), (3, .int (nI wr)), (2, .int (nI at0)), (0, .ref h0), (1, .int (nI fi))]) hx hb dX12_newHere_176 hl (by decide) rfl (fun ls hl => ?_)
                refine lv_aload_n hx hb dX12_newHere_178 rfl (lv_at hl 3 rfl) ?_
                refine lv_bipush (v := 93) hx hb dX12_newHere_179 (by decide) ?_
                have hP : va_P G.1 pCl (mW G h0 a (upd (upd (upd (upd (upd (upd (upd (upd (upd F 15 0) 16 pl404) 27 (nI (nd405 + 1))) 31 (nI wr407)) 64 (nI at402)) 65 (nI (ne + 1))) 66 (nI lk406)) 15 (nI 0)) 64 (nI at402)) (updA (updA X434 2 K) 2 K)) _ := mW_to (F := F) (l1 := [(15, 0), (16, pl404), (27, (nI (nd405 + 1))), (31, (nI wr407)), (64, (nI at402)), (65, (nI (ne + 1))), (66, (nI lk406))]) (l2 := [(15, 0), (16, pl404), (27, (nI (nd405 + 1))), (31, (nI wr407)), (64, (nI at402)), (65, (nI (ne + 1))), (66, (nI lk406)), (15, (nI 0)), (64, (nI at402))]) (V := [(nI 0), pl404, (nI (nd405 + 1)), (nI wr407), (nI at402), (nI (ne + 1)), (nI lk406), (nI 0), pl404, (nI (nd405 + 1)), (nI wr407), (nI at402), (nI (ne + 1)), (nI lk406), (nI 0), (nI at402)]) rfl rfl (show (updA X434 2 K) = (updA (updA X434 2 K) 2 K) from updsA_eq2 (F := X434) (l1 := [(2, K)]) (l2 := [(2, K), (2, K)]) (V := [K, K, K]) rfl rfl) hP
                have hD : va_D A (mW G h0 a (upd (upd (upd (upd (upd (upd (upd (upd (upd F 15 0) 16 pl404) 27 (nI (nd405 + 1))) 31 (nI wr407)) 64 (nI at402)) 65 (nI (ne + 1))) 66 (nI lk406)) 15 (nI 0)) 64 (nI at402)) (updA (updA X434 2 K) 2 K)) := mW_D hD
                refine pc_V0 (G := G) (As := [.int 93]) (rest := []) hx hb hml hown hq hE hX pX0_al hP hD hS hA hl.1 (R_take l G h0 a (upd (upd (upd (upd (upd (upd (upd F 15 0) 16 pl404) 27 (nI (nd405 + 1))) 31 (nI wr407)) 64 (nI at402)) 65 (nI (ne + 1))) 66 (nI lk406)) (updA X434 2 K) at402 T 0 K 93 (by omega) (by omega) hK (by omega) (by decide) (by decide)) (gV pw_1614 pw_1615 pw_1616 pw_1523 pw_1601) hV_X12_take 0 9 rfl rfl rfl rfl (Nat.le_of_ble_eq_true rfl) dX12_newHere_181 ⟨Nat.le_of_ble_eq_true rfl, Nat.le_of_ble_eq_true rfl⟩ ⟨(by show 4 + 1 ≤ (20 * n + 8); omega), (by show 8 + (2 + 11) + 103 ≤ (1000 * n + 40 * 8); omega)⟩ (fun v444 u442 H locs hw443 hP hD hS => ?_)
                obtain ⟨at445, fa446, pl447⟩ := u442
                obtain ⟨hw443, h448, h449, h450, h451, h452, h453, h454, h455⟩ := hw443
                have h448 : at402 ≤ at445 := h448
                have h449 : at445 ≤ T := h449
                have h450 : 0 ≤ fa446 := h450
                have h451 : fa446 ≤ 100 := h451
                have h452 : If (0 < 0) (at445 = at402 ∧ fa446 = 0) := h452
                have h453 : at445 ≤ at402 + 1 := h453
                have h454 : at402 + 1 ≤ at445 + fa446 := h454
                have h455 : If (fa446 = 0) (K at402 = 93) := h455
                obtain rfl : v444 = none := hw443
                have hP : va_P G.1 pCl (mW G h0 a (upd (upd (upd (upd (upd (upd (upd F 15 (nI fa446)) 16 pl447) 27 (nI (nd405 + 1))) 31 (nI wr407)) 64 (nI at445)) 65 (nI (ne + 1))) 66 (nI lk406)) (updA X434 2 K)) _ := mW_to (F := F) (l1 := [(15, 0), (16, pl404), (27, (nI (nd405 + 1))), (31, (nI wr407)), (64, (nI at402)), (65, (nI (ne + 1))), (66, (nI lk406)), (15, (nI fa446)), (16, pl447), (64, (nI at445))]) (l2 := [(15, (nI fa446)), (16, pl447), (27, (nI (nd405 + 1))), (31, (nI wr407)), (64, (nI at445)), (65, (nI (ne + 1))), (66, (nI lk406))]) (V := [(nI fa446), pl447, (nI (nd405 + 1)), (nI wr407), (nI at445), (nI (ne + 1)), (nI lk406), (nI fa446), pl447, (nI at445), (nI fa446), pl447, (nI (nd405 + 1)), (nI wr407), (nI at445), (nI (ne + 1)), (nI lk406)]) rfl rfl (show (updA (updA X434 2 K) 2 K) = (updA X434 2 K) from updsA_eq2 (F := X434) (l1 := [(2, K), (2, K)]) (l2 := [(2, K)]) (V := [K, K, K]) rfl rfl) hP
                have hD : va_D A (mW G h0 a (upd (upd (upd (upd (upd (upd (upd F 15 (nI fa446)) 16 pl447) 27 (nI (nd405 + 1))) 31 (nI wr407)) 64 (nI at445)) 65 (nI (ne + 1))) 66 (nI lk406)) (updA X434 2 K)) := mW_D hD
                refine W.widen (k := 0) (n := 0) (Nat.le_of_ble_eq_true rfl) (Nat.le_of_ble_eq_true rfl) ?_
                refine W.eq (g2 := F0 m 184 ls []) rfl ?_
                rcases Nat.eq_zero_or_pos fa446 with e456 | e456
                · subst e456
                  have hP : va_P G.1 pCl (mW G h0 a (upd (upd (upd (upd (upd (upd (upd F 15 0) 16 pl447) 27 (nI (nd405 + 1))) 31 (nI wr407)) 64 (nI at445)) 65 (nI (ne + 1))) 66 (nI lk406)) (updA X434 2 K)) _ := hP
                  have hD : va_D A (mW G h0 a (upd (upd (upd (upd (upd (upd (upd F 15 0) 16 pl447) 27 (nI (nd405 + 1))) 31 (nI wr407)) 64 (nI at445)) 65 (nI (ne + 1))) 66 (nI lk406)) (updA X434 2 K)) := mW_D hD
                  refine lv_aload_n hx hb dX12_newHere_184 rfl (lv_at hl 3 rfl) ?_
                  refine lv_dup hx hb dX12_newHere_185 rfl ?_
                  refine r_get (v := .int (nI (ne + 1))) hx hb hown hq hE hP 65 366 tFX12_65 (by decide) pw_1612 rfl dX12_newHere_186 ?_
                  refine lv_iconst (v := 1) hx hb dX12_newHere_189 (by decide) ?_
                  refine lv_isub hx hb dX12_newHere_190 ?_
                  refine lv_topi (fun x457 e458 => ?_)
                  obtain rfl : x457 = nI ((ne + 1) - 1) := e458.trans (nI_subN (a := 1) (b := (ne + 1)) (by omega))
                  refine r_put (v := (nI ((ne + 1) - 1))) (ty := .int) hx hb hown hq hE hP hD hS 65 366 tFX12_65 (by decide) pw_1612 (by decide) rfl rfl (ms_65 a _ _) dX12_newHere_191 (fun H locs hP hD hS => ?_)
                  refine lv_iload hx hb dX12_newHere_194 (lv_at hl 0 rfl) ?_
                  have hz459 : at0 ≤ at445 := (by omega)
                  have hz460 : at445 ≤ T := (by omega)
                  have hz461 : 0 ≤ 100 := (by omega)
                  have hz462 : nd ≤ (nd405 + 1) := (by omega)
                  have hz463 : (nd405 + 1) + 2 * at0 ≤ nd + 2 * at445 + 100000 * 0 := (by omega)
                  have hz464 : (nd405 + 1) + 2 * at0 ≤ nd + 2 * at445 + 40 * (21 - ne) := (by omega)
                  have hz465 : wr ≤ wr407 := (by omega)
                  have hz466 : wr407 + at0 ≤ wr + at445 := (by omega)
                  have hz467 : lk ≤ lk406 := (by omega)
                  have hz468 : lk406 ≤ 60 + 100 * 0 := (by omega)
                  have hz469 : at0 + 1 ≤ at445 + 0 := (by omega)
                  have hz470 : nd405 ≤ (nd405 + 1) := (by omega)
                  have hz471 : Kp B X434 wr407 T := hkp436
                  have hz472 : If (0 = 0) (Low B X434 nd wr ∧ Frs K T wr407 X434 nd (nd405 + 1) 20000 [(nd405, (210 + lk406 - (10 * ne + lk)))] ∧ kcl 1 (X434 9 nd405) = true) := (fun _ => ⟨hlo437, Frs.up hf441 (by omega), (by rw [hn440.1]; decide)⟩)
                  have hP : va_P G.1 pCl (mW G h0 a (upd (upd (upd (upd (upd (upd (upd F 15 (nI 0)) 16 pl447) 27 (nI (nd405 + 1))) 31 (nI wr407)) 64 (nI at445)) 65 (nI ne)) 66 (nI lk406)) (updA X434 2 K)) _ := mW_to (F := F) (l1 := [(15, 0), (16, pl447), (27, (nI (nd405 + 1))), (31, (nI wr407)), (64, (nI at445)), (65, (nI (ne + 1))), (66, (nI lk406)), (65, (nI ((ne + 1) - 1)))]) (l2 := [(15, (nI 0)), (16, pl447), (27, (nI (nd405 + 1))), (31, (nI wr407)), (64, (nI at445)), (65, (nI ne)), (66, (nI lk406))]) (V := [(nI 0), pl447, (nI (nd405 + 1)), (nI wr407), (nI at445), (nI ne), (nI lk406), (nI ne), (nI 0), pl447, (nI (nd405 + 1)), (nI wr407), (nI at445), (nI ne), (nI lk406)]) rfl rfl rfl hP
                  have hD : va_D A (mW G h0 a (upd (upd (upd (upd (upd (upd (upd F 15 (nI 0)) 16 pl447) 27 (nI (nd405 + 1))) 31 (nI wr407)) 64 (nI at445)) 65 (nI ne)) 66 (nI lk406)) (updA X434 2 K)) := mW_D hD
                  exact W.iret (v := (nI nd405)) hx hb hr (fun t9 ht9 hW9 => ⟨⟨_, (at445, 0, pl447, (nd405 + 1), lk406, wr407, nd405, X434), rfl, ⟨rfl, hz459, hz460, hz461, hz462, hz463, hz464, hz465, hz466, hz467, hz468, hz469, hz470, hz471, hz472⟩, by rw [ht9]; exact hP, hD⟩, hS.F ht9⟩) hS.2.2 dX12_newHere_196
                · have e456 := e456
                  refine lv_aload_n hx hb dX12_newHere_184 rfl (lv_at hl 3 rfl) ?_
                  refine lv_dup hx hb dX12_newHere_185 rfl ?_
                  refine r_get (v := .int (nI (ne + 1))) hx hb hown hq hE hP 65 366 tFX12_65 (by decide) pw_1612 rfl dX12_newHere_186 ?_
                  refine lv_iconst (v := 1) hx hb dX12_newHere_189 (by decide) ?_
                  refine lv_isub hx hb dX12_newHere_190 ?_
                  refine lv_topi (fun x473 e474 => ?_)
                  obtain rfl : x473 = nI ((ne + 1) - 1) := e474.trans (nI_subN (a := 1) (b := (ne + 1)) (by omega))
                  refine r_put (v := (nI ((ne + 1) - 1))) (ty := .int) hx hb hown hq hE hP hD hS 65 366 tFX12_65 (by decide) pw_1612 (by decide) rfl rfl (ms_65 a _ _) dX12_newHere_191 (fun H locs hP hD hS => ?_)
                  refine lv_iload hx hb dX12_newHere_194 (lv_at hl 0 rfl) ?_
                  have hz475 : at0 ≤ at445 := (by omega)
                  have hz476 : at445 ≤ T := (by omega)
                  have hz477 : fa446 ≤ 100 := (by omega)
                  have hz478 : nd ≤ (nd405 + 1) := (by omega)
                  have hz479 : (nd405 + 1) + 2 * at0 ≤ nd + 2 * at445 + 100000 * fa446 := (by omega)
                  have hz480 : (nd405 + 1) + 2 * at0 ≤ nd + 2 * at445 + 40 * (21 - ne) := (by omega)
                  have hz481 : wr ≤ wr407 := (by omega)
                  have hz482 : wr407 + at0 ≤ wr + at445 := (by omega)
                  have hz483 : lk ≤ lk406 := (by omega)
                  have hz484 : lk406 ≤ 60 + 100 * fa446 := (by omega)
                  have hz485 : at0 + 1 ≤ at445 + fa446 := (by omega)
                  have hz486 : nd405 ≤ (nd405 + 1) := (by omega)
                  have hz487 : Kp B X434 wr407 T := hkp436
                  have hz488 : If (fa446 = 0) (Low B X434 nd wr ∧ Frs K T wr407 X434 nd (nd405 + 1) 20000 [(nd405, (210 + lk406 - (10 * ne + lk)))] ∧ kcl 1 (X434 9 nd405) = true) := (fun e => absurd e (by omega))
                  have hP : va_P G.1 pCl (mW G h0 a (upd (upd (upd (upd (upd (upd (upd F 15 (nI fa446)) 16 pl447) 27 (nI (nd405 + 1))) 31 (nI wr407)) 64 (nI at445)) 65 (nI ne)) 66 (nI lk406)) (updA X434 2 K)) _ := mW_to (F := F) (l1 := [(15, (nI fa446)), (16, pl447), (27, (nI (nd405 + 1))), (31, (nI wr407)), (64, (nI at445)), (65, (nI (ne + 1))), (66, (nI lk406)), (65, (nI ((ne + 1) - 1)))]) (l2 := [(15, (nI fa446)), (16, pl447), (27, (nI (nd405 + 1))), (31, (nI wr407)), (64, (nI at445)), (65, (nI ne)), (66, (nI lk406))]) (V := [(nI fa446), pl447, (nI (nd405 + 1)), (nI wr407), (nI at445), (nI ne), (nI lk406), (nI ne), (nI fa446), pl447, (nI (nd405 + 1)), (nI wr407), (nI at445), (nI ne), (nI lk406)]) rfl rfl rfl hP
                  have hD : va_D A (mW G h0 a (upd (upd (upd (upd (upd (upd (upd F 15 (nI fa446)) 16 pl447) 27 (nI (nd405 + 1))) 31 (nI wr407)) 64 (nI at445)) 65 (nI ne)) 66 (nI lk406)) (updA X434 2 K)) := mW_D hD
                  exact W.iret (v := (nI nd405)) hx hb hr (fun t9 ht9 hW9 => ⟨⟨_, (at445, fa446, pl447, (nd405 + 1), lk406, wr407, nd405, X434), rfl, ⟨rfl, hz475, hz476, hz477, hz478, hz479, hz480, hz481, hz482, hz483, hz484, hz485, hz486, hz487, hz488⟩, by rw [ht9]; exact hP, hD⟩, hS.F ht9⟩) hS.2.2 dX12_newHere_196
              · have e425 := e425
                refine lv_iload_n hx hb dX12_newHere_172 rfl (lv_at hl 0 rfl) ?_
                have hP : va_P G.1 pCl (mW G h0 a (upd (upd (upd (upd (upd (upd (upd (upd F 15 (nI fa403)) 16 pl404) 27 (nI nd405)) 31 (nI wr407)) 64 (nI at402)) 65 (nI (ne + 1))) 66 (nI lk406)) 27 (nI nd405)) (updA X409 2 K)) _ := mW_to (F := F) (l1 := [(15, (nI fa403)), (16, pl404), (27, (nI nd405)), (31, (nI wr407)), (64, (nI at402)), (65, (nI (ne + 1))), (66, (nI lk406))]) (l2 := [(15, (nI fa403)), (16, pl404), (27, (nI nd405)), (31, (nI wr407)), (64, (nI at402)), (65, (nI (ne + 1))), (66, (nI lk406)), (27, (nI nd405))]) (V := [(nI fa403), pl404, (nI nd405), (nI wr407), (nI at402), (nI (ne + 1)), (nI lk406), (nI fa403), pl404, (nI nd405), (nI wr407), (nI at402), (nI (ne + 1)), (nI lk406), (nI nd405)]) rfl rfl rfl hP
                have hD : va_D A (mW G h0 a (upd (upd (upd (upd (upd (upd (upd (upd F 15 (nI fa403)) 16 pl404) 27 (nI nd405)) 31 (nI wr407)) 64 (nI at402)) 65 (nI (ne + 1))) 66 (nI lk406)) 27 (nI nd405)) (updA X409 2 K)) := mW_D hD
                refine pc_V0 (G := G) (As := [.int 10, .int (nI fi), .int (nI at0), .int (nI r408), .int (nI wr)]) (rest := []) hx hb hml hown hq hE hX pX0_al hP hD hS hA hl.1 (R_nodeB l G h0 a (upd (upd (upd (upd (upd (upd (upd F 15 (nI fa403)) 16 pl404) 27 (nI nd405)) 31 (nI wr407)) 64 (nI at402)) 65 (nI (ne + 1))) 66 (nI lk406)) X409 10 (nI fi) (nI at0) (nI r408) (nI wr) nd405 K (by omega)) (gV pw_1650 pw_1651 pw_1652 pw_1523 pw_1589) hV_X12_node 0 9 rfl rfl rfl rfl (Nat.le_of_ble_eq_true rfl) dX12_newHere_173 ⟨Nat.le_of_ble_eq_true rfl, Nat.le_of_ble_eq_true rfl⟩ ⟨(by show 2 + 1 ≤ (20 * n + 8); omega), (by show 8 + (7 + 11) + 60 ≤ (1000 * n + 40 * 8); omega)⟩ (fun v491 u489 H locs hw490 hP hD hS => ?_)
                obtain ⟨X492, rfl⟩ : ∃ z, z = u489 := ⟨_, rfl⟩
                obtain ⟨hw490, h493⟩ := hw490
                have h493 : NewN X409 X492 nd405 10 (nI fi) (nI at0) (nI r408) (nI wr) := h493
                obtain rfl : v491 = some (.int (nI nd405)) := hw490
                have hP : va_P G.1 pCl (mW G h0 a (upd (upd (upd (upd (upd (upd (upd F 15 (nI fa403)) 16 pl404) 27 (nI (nd405 + 1))) 31 (nI wr407)) 64 (nI at402)) 65 (nI (ne + 1))) 66 (nI lk406)) (updA X492 2 K)) _ := mW_to (F := F) (l1 := [(15, (nI fa403)), (16, pl404), (27, (nI nd405)), (31, (nI wr407)), (64, (nI at402)), (65, (nI (ne + 1))), (66, (nI lk406)), (27, (nI (nd405 + 1)))]) (l2 := [(15, (nI fa403)), (16, pl404), (27, (nI (nd405 + 1))), (31, (nI wr407)), (64, (nI at402)), (65, (nI (ne + 1))), (66, (nI lk406))]) (V := [(nI fa403), pl404, (nI (nd405 + 1)), (nI wr407), (nI at402), (nI (ne + 1)), (nI lk406), (nI (nd405 + 1)), (nI fa403), pl404, (nI (nd405 + 1)), (nI wr407), (nI at402), (nI (ne + 1)), (nI lk406)]) rfl rfl rfl hP
                have hD : va_D A (mW G h0 a (upd (upd (upd (upd (upd (upd (upd F 15 (nI fa403)) 16 pl404) 27 (nI (nd405 + 1))) 31 (nI wr407)) 64 (nI at402)) 65 (nI (ne + 1))) 66 (nI lk406)) (updA X492 2 K)) := mW_D hD
                refine W.widen (k := 0) (n := 0) (Nat.le_of_ble_eq_true rfl) (Nat.le_of_ble_eq_true rfl) ?_
                refine W.eq (g2 := F0 m 176 ls [.int (nI nd405)]) rfl ?_
                have hkp494 : Kp B X492 wr407 T := (Kp.new hkp424 h493)
                refine lv_istore (lv' := [(4, .int (nI nd405)), (3, .int (nI wr)), (2, .int (nI at0)), (0, .ref h0), (1, .int (nI fi))]) hx hb dX12_newHere_176 hl (by decide) rfl (fun ls hl => ?_)
                refine lv_aload_n hx hb dX12_newHere_178 rfl (lv_at hl 3 rfl) ?_
                refine lv_bipush (v := 93) hx hb dX12_newHere_179 (by decide) ?_
                have hP : va_P G.1 pCl (mW G h0 a (upd (upd (upd (upd (upd (upd (upd (upd (upd F 15 (nI fa403)) 16 pl404) 27 (nI (nd405 + 1))) 31 (nI wr407)) 64 (nI at402)) 65 (nI (ne + 1))) 66 (nI lk406)) 15 (nI fa403)) 64 (nI at402)) (updA (updA X492 2 K) 2 K)) _ := mW_to (F := F) (l1 := [(15, (nI fa403)), (16, pl404), (27, (nI (nd405 + 1))), (31, (nI wr407)), (64, (nI at402)), (65, (nI (ne + 1))), (66, (nI lk406))]) (l2 := [(15, (nI fa403)), (16, pl404), (27, (nI (nd405 + 1))), (31, (nI wr407)), (64, (nI at402)), (65, (nI (ne + 1))), (66, (nI lk406)), (15, (nI fa403)), (64, (nI at402))]) (V := [(nI fa403), pl404, (nI (nd405 + 1)), (nI wr407), (nI at402), (nI (ne + 1)), (nI lk406), (nI fa403), pl404, (nI (nd405 + 1)), (nI wr407), (nI at402), (nI (ne + 1)), (nI lk406), (nI fa403), (nI at402)]) rfl rfl (show (updA X492 2 K) = (updA (updA X492 2 K) 2 K) from updsA_eq2 (F := X492) (l1 := [(2, K)]) (l2 := [(2, K), (2, K)]) (V := [K, K, K]) rfl rfl) hP
                have hD : va_D A (mW G h0 a (upd (upd (upd (upd (upd (upd (upd (upd (upd F 15 (nI fa403)) 16 pl404) 27 (nI (nd405 + 1))) 31 (nI wr407)) 64 (nI at402)) 65 (nI (ne + 1))) 66 (nI lk406)) 15 (nI fa403)) 64 (nI at402)) (updA (updA X492 2 K) 2 K)) := mW_D hD
                refine pc_V0 (G := G) (As := [.int 93]) (rest := []) hx hb hml hown hq hE hX pX0_al hP hD hS hA hl.1 (R_take l G h0 a (upd (upd (upd (upd (upd (upd (upd F 15 (nI fa403)) 16 pl404) 27 (nI (nd405 + 1))) 31 (nI wr407)) 64 (nI at402)) 65 (nI (ne + 1))) 66 (nI lk406)) (updA X492 2 K) at402 T fa403 K 93 (by omega) (by omega) hK (by omega) (by decide) (by decide)) (gV pw_1614 pw_1615 pw_1616 pw_1523 pw_1601) hV_X12_take 0 9 rfl rfl rfl rfl (Nat.le_of_ble_eq_true rfl) dX12_newHere_181 ⟨Nat.le_of_ble_eq_true rfl, Nat.le_of_ble_eq_true rfl⟩ ⟨(by show 4 + 1 ≤ (20 * n + 8); omega), (by show 8 + (2 + 11) + 103 ≤ (1000 * n + 40 * 8); omega)⟩ (fun v497 u495 H locs hw496 hP hD hS => ?_)
                obtain ⟨at498, fa499, pl500⟩ := u495
                obtain ⟨hw496, h501, h502, h503, h504, h505, h506, h507, h508⟩ := hw496
                have h501 : at402 ≤ at498 := h501
                have h502 : at498 ≤ T := h502
                have h503 : fa403 ≤ fa499 := h503
                have h504 : fa499 ≤ 100 := h504
                have h505 : If (0 < fa403) (at498 = at402 ∧ fa499 = fa403) := h505
                have h506 : at498 ≤ at402 + 1 := h506
                have h507 : at402 + 1 ≤ at498 + fa499 := h507
                have h508 : If (fa499 = 0) (K at402 = 93) := h508
                obtain rfl : v497 = none := hw496
                have hP : va_P G.1 pCl (mW G h0 a (upd (upd (upd (upd (upd (upd (upd F 15 (nI fa499)) 16 pl500) 27 (nI (nd405 + 1))) 31 (nI wr407)) 64 (nI at498)) 65 (nI (ne + 1))) 66 (nI lk406)) (updA X492 2 K)) _ := mW_to (F := F) (l1 := [(15, (nI fa403)), (16, pl404), (27, (nI (nd405 + 1))), (31, (nI wr407)), (64, (nI at402)), (65, (nI (ne + 1))), (66, (nI lk406)), (15, (nI fa499)), (16, pl500), (64, (nI at498))]) (l2 := [(15, (nI fa499)), (16, pl500), (27, (nI (nd405 + 1))), (31, (nI wr407)), (64, (nI at498)), (65, (nI (ne + 1))), (66, (nI lk406))]) (V := [(nI fa499), pl500, (nI (nd405 + 1)), (nI wr407), (nI at498), (nI (ne + 1)), (nI lk406), (nI fa499), pl500, (nI at498), (nI fa499), pl500, (nI (nd405 + 1)), (nI wr407), (nI at498), (nI (ne + 1)), (nI lk406)]) rfl rfl (show (updA (updA X492 2 K) 2 K) = (updA X492 2 K) from updsA_eq2 (F := X492) (l1 := [(2, K), (2, K)]) (l2 := [(2, K)]) (V := [K, K, K]) rfl rfl) hP
                have hD : va_D A (mW G h0 a (upd (upd (upd (upd (upd (upd (upd F 15 (nI fa499)) 16 pl500) 27 (nI (nd405 + 1))) 31 (nI wr407)) 64 (nI at498)) 65 (nI (ne + 1))) 66 (nI lk406)) (updA X492 2 K)) := mW_D hD
                refine W.widen (k := 0) (n := 0) (Nat.le_of_ble_eq_true rfl) (Nat.le_of_ble_eq_true rfl) ?_
                refine W.eq (g2 := F0 m 184 ls []) rfl ?_
                obtain ⟨n510, n509⟩ := h505 e425
                replace n510 := n510.symm
                subst n510
                replace n509 := n509.symm
                subst n509
                refine lv_aload_n hx hb dX12_newHere_184 rfl (lv_at hl 3 rfl) ?_
                refine lv_dup hx hb dX12_newHere_185 rfl ?_
                refine r_get (v := .int (nI (ne + 1))) hx hb hown hq hE hP 65 366 tFX12_65 (by decide) pw_1612 rfl dX12_newHere_186 ?_
                refine lv_iconst (v := 1) hx hb dX12_newHere_189 (by decide) ?_
                refine lv_isub hx hb dX12_newHere_190 ?_
                refine lv_topi (fun x511 e512 => ?_)
                obtain rfl : x511 = nI ((ne + 1) - 1) := e512.trans (nI_subN (a := 1) (b := (ne + 1)) (by omega))
                refine r_put (v := (nI ((ne + 1) - 1))) (ty := .int) hx hb hown hq hE hP hD hS 65 366 tFX12_65 (by decide) pw_1612 (by decide) rfl rfl (ms_65 a _ _) dX12_newHere_191 (fun H locs hP hD hS => ?_)
                refine lv_iload hx hb dX12_newHere_194 (lv_at hl 0 rfl) ?_
                have hz513 : at0 ≤ at402 := (by omega)
                have hz514 : at402 ≤ T := (by omega)
                have hz515 : fa403 ≤ 100 := (by omega)
                have hz516 : nd ≤ (nd405 + 1) := (by omega)
                have hz517 : (nd405 + 1) + 2 * at0 ≤ nd + 2 * at402 + 100000 * fa403 := (by omega)
                have hz518 : (nd405 + 1) + 2 * at0 ≤ nd + 2 * at402 + 40 * (21 - ne) := (by omega)
                have hz519 : wr ≤ wr407 := (by omega)
                have hz520 : wr407 + at0 ≤ wr + at402 := (by omega)
                have hz521 : lk ≤ lk406 := (by omega)
                have hz522 : lk406 ≤ 60 + 100 * fa403 := (by omega)
                have hz523 : at0 + 1 ≤ at402 + fa403 := (by omega)
                have hz524 : nd405 ≤ (nd405 + 1) := (by omega)
                have hz525 : Kp B X492 wr407 T := hkp494
                have hz526 : If (fa403 = 0) (Low B X492 nd wr ∧ Frs K T wr407 X492 nd (nd405 + 1) 20000 [(nd405, (210 + lk406 - (10 * ne + lk)))] ∧ kcl 1 (X492 9 nd405) = true) := (fun e => absurd e (by omega))
                have hP : va_P G.1 pCl (mW G h0 a (upd (upd (upd (upd (upd (upd (upd F 15 (nI fa403)) 16 pl500) 27 (nI (nd405 + 1))) 31 (nI wr407)) 64 (nI at402)) 65 (nI ne)) 66 (nI lk406)) (updA X492 2 K)) _ := hP
                have hD : va_D A (mW G h0 a (upd (upd (upd (upd (upd (upd (upd F 15 (nI fa403)) 16 pl500) 27 (nI (nd405 + 1))) 31 (nI wr407)) 64 (nI at402)) 65 (nI ne)) 66 (nI lk406)) (updA X492 2 K)) := mW_D hD
                exact W.iret (v := (nI nd405)) hx hb hr (fun t9 ht9 hW9 => ⟨⟨_, (at402, fa403, pl500, (nd405 + 1), lk406, wr407, nd405, X492), rfl, ⟨rfl, hz513, hz514, hz515, hz516, hz517, hz518, hz519, hz520, hz521, hz522, hz523, hz524, hz525, hz526⟩, by rw [ht9]; exact hP, hD⟩, hS.F ht9⟩) hS.2.2 dX12_newHere_196
            · have e398 := e398
              refine lv_aload_n hx hb dX12_newHere_163 rfl (lv_at hl 2 rfl) ?_
              refine lv_bipush (v := 10) hx hb dX12_newHere_164 (by decide) ?_
              refine lv_iload_n hx hb dX12_newHere_166 rfl (lv_at hl 3 rfl) ?_
              refine lv_iload_n hx hb dX12_newHere_167 rfl (lv_at hl 1 rfl) ?_
              refine lv_aload_n hx hb dX12_newHere_168 rfl (lv_at hl 2 rfl) ?_
              have hP : va_P G.1 pCl (mW G h0 a (upd (upd (upd (upd (upd (upd (upd (upd (upd F 15 (nI fa388)) 16 pl389) 27 (nI nd)) 31 (nI (wr + 1))) 64 (nI at387)) 65 (nI (ne + 1))) 66 (nI lk)) 15 (nI fa388)) 64 (nI at387)) (updA (updA (updA (updA B 19 (upd (B 19) wr (nI at0))) 20 (upd (B 20) wr 0)) 2 K) 2 K)) _ := mW_to (F := F) (l1 := [(15, (nI fa388)), (16, pl389), (27, (nI nd)), (31, (nI (wr + 1))), (64, (nI at387)), (65, (nI (ne + 1))), (66, (nI lk))]) (l2 := [(15, (nI fa388)), (16, pl389), (27, (nI nd)), (31, (nI (wr + 1))), (64, (nI at387)), (65, (nI (ne + 1))), (66, (nI lk)), (15, (nI fa388)), (64, (nI at387))]) (V := [(nI fa388), pl389, (nI nd), (nI (wr + 1)), (nI at387), (nI (ne + 1)), (nI lk), (nI fa388), pl389, (nI nd), (nI (wr + 1)), (nI at387), (nI (ne + 1)), (nI lk), (nI fa388), (nI at387)]) rfl rfl (show (updA (updA (updA B 19 (upd (B 19) wr (nI at0))) 20 (upd (B 20) wr 0)) 2 K) = (updA (updA (updA (updA B 19 (upd (B 19) wr (nI at0))) 20 (upd (B 20) wr 0)) 2 K) 2 K) from updsA_eq2 (F := B) (l1 := [(19, (upd (B 19) wr (nI at0))), (20, (upd (B 20) wr 0)), (2, K)]) (l2 := [(19, (upd (B 19) wr (nI at0))), (20, (upd (B 20) wr 0)), (2, K), (2, K)]) (V := [(upd (B 19) wr (nI at0)), (upd (B 20) wr 0), K, (upd (B 19) wr (nI at0)), (upd (B 20) wr 0), K, K]) rfl rfl) hP
              have hD : va_D A (mW G h0 a (upd (upd (upd (upd (upd (upd (upd (upd (upd F 15 (nI fa388)) 16 pl389) 27 (nI nd)) 31 (nI (wr + 1))) 64 (nI at387)) 65 (nI (ne + 1))) 66 (nI lk)) 15 (nI fa388)) 64 (nI at387)) (updA (updA (updA (updA B 19 (upd (B 19) wr (nI at0))) 20 (upd (B 20) wr 0)) 2 K) 2 K)) := mW_D hD
              refine pc_V0 (G := G) (As := []) (rest := [.int (nI at0), .int (nI fi), .int 10, .ref h0]) hx hb hml hown hq hE hX pX0_al hP hD hS hA hl.1 (RF_choice l G h0 a (upd (upd (upd (upd (upd (upd (upd F 15 (nI fa388)) 16 pl389) 27 (nI nd)) 31 (nI (wr + 1))) 64 (nI at387)) 65 (nI (ne + 1))) 66 (nI lk)) (updA (updA (updA B 19 (upd (B 19) wr (nI at0))) 20 (upd (B 20) wr 0)) 2 K) at387 T fa388 K (by omega) (by omega) hK (by omega) e398) (gV pw_1640 pw_1641 pw_1642 pw_1523 pw_1656) hV_X12_choice 0 9 rfl rfl rfl rfl (Nat.le_of_ble_eq_true rfl) dX12_newHere_169 ⟨Nat.le_of_ble_eq_true rfl, Nat.le_of_ble_eq_true rfl⟩ ⟨(by show 16 + 1 ≤ (20 * n + 8); omega), (by show 8 + (4 + 11) + 405 ≤ (1000 * n + 40 * 8); omega)⟩ (fun v529 u527 H locs hw528 hP hD hS => ?_)
              obtain rfl : v529 = some (.int 0) := hw528
              have hP : va_P G.1 pCl (mW G h0 a (upd (upd (upd (upd (upd (upd (upd F 15 (nI fa388)) 16 pl389) 27 (nI nd)) 31 (nI (wr + 1))) 64 (nI at387)) 65 (nI (ne + 1))) 66 (nI lk)) (updA (updA (updA B 19 (upd (B 19) wr (nI at0))) 20 (upd (B 20) wr 0)) 2 K)) _ := mW_to (F := F) (l1 := [(15, (nI fa388)), (16, pl389), (27, (nI nd)), (31, (nI (wr + 1))), (64, (nI at387)), (65, (nI (ne + 1))), (66, (nI lk)), (15, (nI fa388)), (64, (nI at387))]) (l2 := [(15, (nI fa388)), (16, pl389), (27, (nI nd)), (31, (nI (wr + 1))), (64, (nI at387)), (65, (nI (ne + 1))), (66, (nI lk))]) (V := [(nI fa388), pl389, (nI nd), (nI (wr + 1)), (nI at387), (nI (ne + 1)), (nI lk), (nI fa388), (nI at387), (nI fa388), pl389, (nI nd), (nI (wr + 1)), (nI at387), (nI (ne + 1)), (nI lk)]) rfl rfl (show (updA (updA (updA (updA B 19 (upd (B 19) wr (nI at0))) 20 (upd (B 20) wr 0)) 2 K) 2 K) = (updA (updA (updA B 19 (upd (B 19) wr (nI at0))) 20 (upd (B 20) wr 0)) 2 K) from updsA_eq2 (F := B) (l1 := [(19, (upd (B 19) wr (nI at0))), (20, (upd (B 20) wr 0)), (2, K), (2, K)]) (l2 := [(19, (upd (B 19) wr (nI at0))), (20, (upd (B 20) wr 0)), (2, K)]) (V := [(upd (B 19) wr (nI at0)), (upd (B 20) wr 0), K, K, (upd (B 19) wr (nI at0)), (upd (B 20) wr 0), K]) rfl rfl) hP
              have hD : va_D A (mW G h0 a (upd (upd (upd (upd (upd (upd (upd F 15 (nI fa388)) 16 pl389) 27 (nI nd)) 31 (nI (wr + 1))) 64 (nI at387)) 65 (nI (ne + 1))) 66 (nI lk)) (updA (updA (updA B 19 (upd (B 19) wr (nI at0))) 20 (upd (B 20) wr 0)) 2 K)) := mW_D hD
              refine W.widen (k := 0) (n := 0) (Nat.le_of_ble_eq_true rfl) (Nat.le_of_ble_eq_true rfl) ?_
              refine W.eq (g2 := F0 m 172 ls [.int 0, .int (nI at0), .int (nI fi), .int 10, .ref h0]) rfl ?_
              refine lv_iload_n hx hb dX12_newHere_172 rfl (lv_at hl 0 rfl) ?_
              have hP : va_P G.1 pCl (mW G h0 a (upd (upd (upd (upd (upd (upd (upd (upd F 15 (nI fa388)) 16 pl389) 27 (nI nd)) 31 (nI (wr + 1))) 64 (nI at387)) 65 (nI (ne + 1))) 66 (nI lk)) 27 (nI nd)) (updA (updA (updA B 19 (upd (B 19) wr (nI at0))) 20 (upd (B 20) wr 0)) 2 K)) _ := mW_to (F := F) (l1 := [(15, (nI fa388)), (16, pl389), (27, (nI nd)), (31, (nI (wr + 1))), (64, (nI at387)), (65, (nI (ne + 1))), (66, (nI lk))]) (l2 := [(15, (nI fa388)), (16, pl389), (27, (nI nd)), (31, (nI (wr + 1))), (64, (nI at387)), (65, (nI (ne + 1))), (66, (nI lk)), (27, (nI nd))]) (V := [(nI fa388), pl389, (nI nd), (nI (wr + 1)), (nI at387), (nI (ne + 1)), (nI lk), (nI fa388), pl389, (nI nd), (nI (wr + 1)), (nI at387), (nI (ne + 1)), (nI lk), (nI nd)]) rfl rfl rfl hP
              have hD : va_D A (mW G h0 a (upd (upd (upd (upd (upd (upd (upd (upd F 15 (nI fa388)) 16 pl389) 27 (nI nd)) 31 (nI (wr + 1))) 64 (nI at387)) 65 (nI (ne + 1))) 66 (nI lk)) 27 (nI nd)) (updA (updA (updA B 19 (upd (B 19) wr (nI at0))) 20 (upd (B 20) wr 0)) 2 K)) := mW_D hD
              refine pc_V0 (G := G) (As := [.int 10, .int (nI fi), .int (nI at0), .int 0, .int (nI wr)]) (rest := []) hx hb hml hown hq hE hX pX0_al hP hD hS hA hl.1 (R_nodeB l G h0 a (upd (upd (upd (upd (upd (upd (upd F 15 (nI fa388)) 16 pl389) 27 (nI nd)) 31 (nI (wr + 1))) 64 (nI at387)) 65 (nI (ne + 1))) 66 (nI lk)) (updA (updA B 19 (upd (B 19) wr (nI at0))) 20 (upd (B 20) wr 0)) 10 (nI fi) (nI at0) 0 (nI wr) nd K (by omega)) (gV pw_1650 pw_1651 pw_1652 pw_1523 pw_1589) hV_X12_node 0 9 rfl rfl rfl rfl (Nat.le_of_ble_eq_true rfl) dX12_newHere_173 ⟨Nat.le_of_ble_eq_true rfl, Nat.le_of_ble_eq_true rfl⟩ ⟨(by show 2 + 1 ≤ (20 * n + 8); omega), (by show 8 + (7 + 11) + 60 ≤ (1000 * n + 40 * 8); omega)⟩ (fun v532 u530 H locs hw531 hP hD hS => ?_)
              obtain ⟨X533, rfl⟩ : ∃ z, z = u530 := ⟨_, rfl⟩
              obtain ⟨hw531, h534⟩ := hw531
              have h534 : NewN (updA (updA B 19 (upd (B 19) wr (nI at0))) 20 (upd (B 20) wr 0)) X533 nd 10 (nI fi) (nI at0) 0 (nI wr) := h534
              obtain rfl : v532 = some (.int (nI nd)) := hw531
              have hP : va_P G.1 pCl (mW G h0 a (upd (upd (upd (upd (upd (upd (upd F 15 (nI fa388)) 16 pl389) 27 (nI (nd + 1))) 31 (nI (wr + 1))) 64 (nI at387)) 65 (nI (ne + 1))) 66 (nI lk)) (updA X533 2 K)) _ := mW_to (F := F) (l1 := [(15, (nI fa388)), (16, pl389), (27, (nI nd)), (31, (nI (wr + 1))), (64, (nI at387)), (65, (nI (ne + 1))), (66, (nI lk)), (27, (nI (nd + 1)))]) (l2 := [(15, (nI fa388)), (16, pl389), (27, (nI (nd + 1))), (31, (nI (wr + 1))), (64, (nI at387)), (65, (nI (ne + 1))), (66, (nI lk))]) (V := [(nI fa388), pl389, (nI (nd + 1)), (nI (wr + 1)), (nI at387), (nI (ne + 1)), (nI lk), (nI (nd + 1)), (nI fa388), pl389, (nI (nd + 1)), (nI (wr + 1)), (nI at387), (nI (ne + 1)), (nI lk)]) rfl rfl rfl hP
              have hD : va_D A (mW G h0 a (upd (upd (upd (upd (upd (upd (upd F 15 (nI fa388)) 16 pl389) 27 (nI (nd + 1))) 31 (nI (wr + 1))) 64 (nI at387)) 65 (nI (ne + 1))) 66 (nI lk)) (updA X533 2 K)) := mW_D hD
              refine W.widen (k := 0) (n := 0) (Nat.le_of_ble_eq_true rfl) (Nat.le_of_ble_eq_true rfl) ?_
              refine W.eq (g2 := F0 m 176 ls [.int (nI nd)]) rfl ?_
              have hkp535 : Kp B X533 (wr + 1) T := (Kp.new hkp366 h534)
              refine lv_istore (lv' := [(4, .int (nI nd)), (3, .int (nI wr)), (2, .int (nI at0)), (0, .ref h0), (1, .int (nI fi))]) hx hb dX12_newHere_176 hl (by decide) rfl (fun ls hl => ?_)
              refine lv_aload_n hx hb dX12_newHere_178 rfl (lv_at hl 3 rfl) ?_
              refine lv_bipush (v := 93) hx hb dX12_newHere_179 (by decide) ?_
              have hP : va_P G.1 pCl (mW G h0 a (upd (upd (upd (upd (upd (upd (upd (upd (upd F 15 (nI fa388)) 16 pl389) 27 (nI (nd + 1))) 31 (nI (wr + 1))) 64 (nI at387)) 65 (nI (ne + 1))) 66 (nI lk)) 15 (nI fa388)) 64 (nI at387)) (updA (updA X533 2 K) 2 K)) _ := mW_to (F := F) (l1 := [(15, (nI fa388)), (16, pl389), (27, (nI (nd + 1))), (31, (nI (wr + 1))), (64, (nI at387)), (65, (nI (ne + 1))), (66, (nI lk))]) (l2 := [(15, (nI fa388)), (16, pl389), (27, (nI (nd + 1))), (31, (nI (wr + 1))), (64, (nI at387)), (65, (nI (ne + 1))), (66, (nI lk)), (15, (nI fa388)), (64, (nI at387))]) (V := [(nI fa388), pl389, (nI (nd + 1)), (nI (wr + 1)), (nI at387), (nI (ne + 1)), (nI lk), (nI fa388), pl389, (nI (nd + 1)), (nI (wr + 1)), (nI at387), (nI (ne + 1)), (nI lk), (nI fa388), (nI at387)]) rfl rfl (show (updA X533 2 K) = (updA (updA X533 2 K) 2 K) from updsA_eq2 (F := X533) (l1 := [(2, K)]) (l2 := [(2, K), (2, K)]) (V := [K, K, K]) rfl rfl) hP
              have hD : va_D A (mW G h0 a (upd (upd (upd (upd (upd (upd (upd (upd (upd F 15 (nI fa388)) 16 pl389) 27 (nI (nd + 1))) 31 (nI (wr + 1))) 64 (nI at387)) 65 (nI (ne + 1))) 66 (nI lk)) 15 (nI fa388)) 64 (nI at387)) (updA (updA X533 2 K) 2 K)) := mW_D hD
              refine pc_V0 (G := G) (As := [.int 93]) (rest := []) hx hb hml hown hq hE hX pX0_al hP hD hS hA hl.1 (R_take l G h0 a (upd (upd (upd (upd (upd (upd (upd F 15 (nI fa388)) 16 pl389) 27 (nI (nd + 1))) 31 (nI (wr + 1))) 64 (nI at387)) 65 (nI (ne + 1))) 66 (nI lk)) (updA X533 2 K) at387 T fa388 K 93 (by omega) (by omega) hK (by omega) (by decide) (by decide)) (gV pw_1614 pw_1615 pw_1616 pw_1523 pw_1601) hV_X12_take 0 9 rfl rfl rfl rfl (Nat.le_of_ble_eq_true rfl) dX12_newHere_181 ⟨Nat.le_of_ble_eq_true rfl, Nat.le_of_ble_eq_true rfl⟩ ⟨(by show 4 + 1 ≤ (20 * n + 8); omega), (by show 8 + (2 + 11) + 103 ≤ (1000 * n + 40 * 8); omega)⟩ (fun v538 u536 H locs hw537 hP hD hS => ?_)
              obtain ⟨at539, fa540, pl541⟩ := u536
              obtain ⟨hw537, h542, h543, h544, h545, h546, h547, h548, h549⟩ := hw537
              have h542 : at387 ≤ at539 := h542
              have h543 : at539 ≤ T := h543
              have h544 : fa388 ≤ fa540 := h544
              have h545 : fa540 ≤ 100 := h545
              have h546 : If (0 < fa388) (at539 = at387 ∧ fa540 = fa388) := h546
              have h547 : at539 ≤ at387 + 1 := h547
              have h548 : at387 + 1 ≤ at539 + fa540 := h548
              have h549 : If (fa540 = 0) (K at387 = 93) := h549
              obtain rfl : v538 = none := hw537
              have hP : va_P G.1 pCl (mW G h0 a (upd (upd (upd (upd (upd (upd (upd F 15 (nI fa540)) 16 pl541) 27 (nI (nd + 1))) 31 (nI (wr + 1))) 64 (nI at539)) 65 (nI (ne + 1))) 66 (nI lk)) (updA X533 2 K)) _ := mW_to (F := F) (l1 := [(15, (nI fa388)), (16, pl389), (27, (nI (nd + 1))), (31, (nI (wr + 1))), (64, (nI at387)), (65, (nI (ne + 1))), (66, (nI lk)), (15, (nI fa540)), (16, pl541), (64, (nI at539))]) (l2 := [(15, (nI fa540)), (16, pl541), (27, (nI (nd + 1))), (31, (nI (wr + 1))), (64, (nI at539)), (65, (nI (ne + 1))), (66, (nI lk))]) (V := [(nI fa540), pl541, (nI (nd + 1)), (nI (wr + 1)), (nI at539), (nI (ne + 1)), (nI lk), (nI fa540), pl541, (nI at539), (nI fa540), pl541, (nI (nd + 1)), (nI (wr + 1)), (nI at539), (nI (ne + 1)), (nI lk)]) rfl rfl (show (updA (updA X533 2 K) 2 K) = (updA X533 2 K) from updsA_eq2 (F := X533) (l1 := [(2, K), (2, K)]) (l2 := [(2, K)]) (V := [K, K, K]) rfl rfl) hP
              have hD : va_D A (mW G h0 a (upd (upd (upd (upd (upd (upd (upd F 15 (nI fa540)) 16 pl541) 27 (nI (nd + 1))) 31 (nI (wr + 1))) 64 (nI at539)) 65 (nI (ne + 1))) 66 (nI lk)) (updA X533 2 K)) := mW_D hD
              refine W.widen (k := 0) (n := 0) (Nat.le_of_ble_eq_true rfl) (Nat.le_of_ble_eq_true rfl) ?_
              refine W.eq (g2 := F0 m 184 ls []) rfl ?_
              obtain ⟨n551, n550⟩ := h546 e398
              replace n551 := n551.symm
              subst n551
              replace n550 := n550.symm
              subst n550
              refine lv_aload_n hx hb dX12_newHere_184 rfl (lv_at hl 3 rfl) ?_
              refine lv_dup hx hb dX12_newHere_185 rfl ?_
              refine r_get (v := .int (nI (ne + 1))) hx hb hown hq hE hP 65 366 tFX12_65 (by decide) pw_1612 rfl dX12_newHere_186 ?_
              refine lv_iconst (v := 1) hx hb dX12_newHere_189 (by decide) ?_
              refine lv_isub hx hb dX12_newHere_190 ?_
              refine lv_topi (fun x552 e553 => ?_)
              obtain rfl : x552 = nI ((ne + 1) - 1) := e553.trans (nI_subN (a := 1) (b := (ne + 1)) (by omega))
              refine r_put (v := (nI ((ne + 1) - 1))) (ty := .int) hx hb hown hq hE hP hD hS 65 366 tFX12_65 (by decide) pw_1612 (by decide) rfl rfl (ms_65 a _ _) dX12_newHere_191 (fun H locs hP hD hS => ?_)
              refine lv_iload hx hb dX12_newHere_194 (lv_at hl 0 rfl) ?_
              have hz554 : at0 ≤ at387 := (by omega)
              have hz555 : at387 ≤ T := (by omega)
              have hz556 : fa388 ≤ 100 := (by omega)
              have hz557 : nd ≤ (nd + 1) := (by omega)
              have hz558 : (nd + 1) + 2 * at0 ≤ nd + 2 * at387 + 100000 * fa388 := (by omega)
              have hz559 : (nd + 1) + 2 * at0 ≤ nd + 2 * at387 + 40 * (21 - ne) := (by omega)
              have hz560 : wr ≤ (wr + 1) := (by omega)
              have hz561 : (wr + 1) + at0 ≤ wr + at387 := (by omega)
              have hz562 : lk ≤ lk := (by omega)
              have hz563 : lk ≤ 60 + 100 * fa388 := (by omega)
              have hz564 : at0 + 1 ≤ at387 + fa388 := (by omega)
              have hz565 : nd ≤ (nd + 1) := (by omega)
              have hz566 : Kp B X533 (wr + 1) T := hkp535
              have hz567 : If (fa388 = 0) (Low B X533 nd wr ∧ Frs K T (wr + 1) X533 nd (nd + 1) 20000 [(nd, (210 + lk - (10 * ne + lk)))] ∧ kcl 1 (X533 9 nd) = true) := (fun e => absurd e (by omega))
              have hP : va_P G.1 pCl (mW G h0 a (upd (upd (upd (upd (upd (upd (upd F 15 (nI fa388)) 16 pl541) 27 (nI (nd + 1))) 31 (nI (wr + 1))) 64 (nI at387)) 65 (nI ne)) 66 (nI lk)) (updA X533 2 K)) _ := hP
              have hD : va_D A (mW G h0 a (upd (upd (upd (upd (upd (upd (upd F 15 (nI fa388)) 16 pl541) 27 (nI (nd + 1))) 31 (nI (wr + 1))) 64 (nI at387)) 65 (nI ne)) 66 (nI lk)) (updA X533 2 K)) := mW_D hD
              exact W.iret (v := (nI nd)) hx hb hr (fun t9 ht9 hW9 => ⟨⟨_, (at387, fa388, pl541, (nd + 1), lk, (wr + 1), nd, X533), rfl, ⟨rfl, hz554, hz555, hz556, hz557, hz558, hz559, hz560, hz561, hz562, hz563, hz564, hz565, hz566, hz567⟩, by rw [ht9]; exact hP, hD⟩, hS.F ht9⟩) hS.2.2 dX12_newHere_196
          · have e382 := e382
            refine lv_aload_n hx hb dX12_newHere_157 rfl (lv_at hl 2 rfl) ?_
            refine lv_bipush (v := 91) hx hb dX12_newHere_158 (by decide) ?_
            have hP : va_P G.1 pCl (mW G h0 a (upd (upd (upd (upd (upd (upd (upd (upd (upd F 15 (nI fa376)) 16 pl377) 27 (nI nd)) 31 (nI (wr + 1))) 64 (nI (at0 + 1))) 65 (nI (ne + 1))) 66 (nI lk)) 15 (nI fa376)) 64 (nI (at0 + 1))) (updA (updA (updA (updA B 19 (upd (B 19) wr (nI at0))) 20 (upd (B 20) wr 0)) 2 K) 2 K)) _ := mW_to (F := F) (l1 := [(15, (nI fa376)), (16, pl377), (27, (nI nd)), (31, (nI (wr + 1))), (64, (nI (at0 + 1))), (65, (nI (ne + 1))), (66, (nI lk))]) (l2 := [(15, (nI fa376)), (16, pl377), (27, (nI nd)), (31, (nI (wr + 1))), (64, (nI (at0 + 1))), (65, (nI (ne + 1))), (66, (nI lk)), (15, (nI fa376)), (64, (nI (at0 + 1)))]) (V := [(nI fa376), pl377, (nI nd), (nI (wr + 1)), (nI (at0 + 1)), (nI (ne + 1)), (nI lk), (nI fa376), pl377, (nI nd), (nI (wr + 1)), (nI (at0 + 1)), (nI (ne + 1)), (nI lk), (nI fa376), (nI (at0 + 1))]) rfl rfl (show (updA (updA (updA B 19 (upd (B 19) wr (nI at0))) 20 (upd (B 20) wr 0)) 2 K) = (updA (updA (updA (updA B 19 (upd (B 19) wr (nI at0))) 20 (upd (B 20) wr 0)) 2 K) 2 K) from updsA_eq2 (F := B) (l1 := [(19, (upd (B 19) wr (nI at0))), (20, (upd (B 20) wr 0)), (2, K)]) (l2 := [(19, (upd (B 19) wr (nI at0))), (20, (upd (B 20) wr 0)), (2, K), (2, K)]) (V := [(upd (B 19) wr (nI at0)), (upd (B 20) wr 0), K, (upd (B 19) wr (nI at0)), (upd (B 20) wr 0), K, K]) rfl rfl) hP
            have hD : va_D A (mW G h0 a (upd (upd (upd (upd (upd (upd (upd (upd (upd F 15 (nI fa376)) 16 pl377) 27 (nI nd)) 31 (nI (wr + 1))) 64 (nI (at0 + 1))) 65 (nI (ne + 1))) 66 (nI lk)) 15 (nI fa376)) 64 (nI (at0 + 1))) (updA (updA (updA (updA B 19 (upd (B 19) wr (nI at0))) 20 (upd (B 20) wr 0)) 2 K) 2 K)) := mW_D hD
            refine pc_V0 (G := G) (As := [.int 91]) (rest := []) hx hb hml hown hq hE hX pX0_al hP hD hS hA hl.1 (R_take l G h0 a (upd (upd (upd (upd (upd (upd (upd F 15 (nI fa376)) 16 pl377) 27 (nI nd)) 31 (nI (wr + 1))) 64 (nI (at0 + 1))) 65 (nI (ne + 1))) 66 (nI lk)) (updA (updA (updA B 19 (upd (B 19) wr (nI at0))) 20 (upd (B 20) wr 0)) 2 K) (at0 + 1) T fa376 K 91 (by omega) (by omega) hK (by omega) (by decide) (by decide)) (gV pw_1614 pw_1615 pw_1616 pw_1523 pw_1601) hV_X12_take 0 9 rfl rfl rfl rfl (Nat.le_of_ble_eq_true rfl) dX12_newHere_160 ⟨Nat.le_of_ble_eq_true rfl, Nat.le_of_ble_eq_true rfl⟩ ⟨(by show 4 + 1 ≤ (20 * n + 8); omega), (by show 8 + (2 + 11) + 103 ≤ (1000 * n + 40 * 8); omega)⟩ (fun v570 u568 H locs hw569 hP hD hS => ?_)
            obtain ⟨at571, fa572, pl573⟩ := u568
            obtain ⟨hw569, h574, h575, h576, h577, h578, h579, h580, h581⟩ := hw569
            have h574 : (at0 + 1) ≤ at571 := h574
            have h575 : at571 ≤ T := h575
            have h576 : fa376 ≤ fa572 := h576
            have h577 : fa572 ≤ 100 := h577
            have h578 : If (0 < fa376) (at571 = (at0 + 1) ∧ fa572 = fa376) := h578
            have h579 : at571 ≤ (at0 + 1) + 1 := h579
            have h580 : (at0 + 1) + 1 ≤ at571 + fa572 := h580
            have h581 : If (fa572 = 0) (K (at0 + 1) = 91) := h581
            obtain rfl : v570 = none := hw569
            have hP : va_P G.1 pCl (mW G h0 a (upd (upd (upd (upd (upd (upd (upd F 15 (nI fa572)) 16 pl573) 27 (nI nd)) 31 (nI (wr + 1))) 64 (nI at571)) 65 (nI (ne + 1))) 66 (nI lk)) (updA (updA (updA B 19 (upd (B 19) wr (nI at0))) 20 (upd (B 20) wr 0)) 2 K)) _ := mW_to (F := F) (l1 := [(15, (nI fa376)), (16, pl377), (27, (nI nd)), (31, (nI (wr + 1))), (64, (nI (at0 + 1))), (65, (nI (ne + 1))), (66, (nI lk)), (15, (nI fa572)), (16, pl573), (64, (nI at571))]) (l2 := [(15, (nI fa572)), (16, pl573), (27, (nI nd)), (31, (nI (wr + 1))), (64, (nI at571)), (65, (nI (ne + 1))), (66, (nI lk))]) (V := [(nI fa572), pl573, (nI nd), (nI (wr + 1)), (nI at571), (nI (ne + 1)), (nI lk), (nI fa572), pl573, (nI at571), (nI fa572), pl573, (nI nd), (nI (wr + 1)), (nI at571), (nI (ne + 1)), (nI lk)]) rfl rfl (show (updA (updA (updA (updA B 19 (upd (B 19) wr (nI at0))) 20 (upd (B 20) wr 0)) 2 K) 2 K) = (updA (updA (updA B 19 (upd (B 19) wr (nI at0))) 20 (upd (B 20) wr 0)) 2 K) from updsA_eq2 (F := B) (l1 := [(19, (upd (B 19) wr (nI at0))), (20, (upd (B 20) wr 0)), (2, K), (2, K)]) (l2 := [(19, (upd (B 19) wr (nI at0))), (20, (upd (B 20) wr 0)), (2, K)]) (V := [(upd (B 19) wr (nI at0)), (upd (B 20) wr 0), K, K, (upd (B 19) wr (nI at0)), (upd (B 20) wr 0), K]) rfl rfl) hP
            have hD : va_D A (mW G h0 a (upd (upd (upd (upd (upd (upd (upd F 15 (nI fa572)) 16 pl573) 27 (nI nd)) 31 (nI (wr + 1))) 64 (nI at571)) 65 (nI (ne + 1))) 66 (nI lk)) (updA (updA (updA B 19 (upd (B 19) wr (nI at0))) 20 (upd (B 20) wr 0)) 2 K)) := mW_D hD
            refine W.widen (k := 0) (n := 0) (Nat.le_of_ble_eq_true rfl) (Nat.le_of_ble_eq_true rfl) ?_
            refine W.eq (g2 := F0 m 163 ls []) rfl ?_
            obtain ⟨n583, n582⟩ := h578 e382
            replace n583 := n583.symm
            subst n583
            replace n582 := n582.symm
            subst n582
            refine lv_aload_n hx hb dX12_newHere_163 rfl (lv_at hl 2 rfl) ?_
            refine lv_bipush (v := 10) hx hb dX12_newHere_164 (by decide) ?_
            refine lv_iload_n hx hb dX12_newHere_166 rfl (lv_at hl 3 rfl) ?_
            refine lv_iload_n hx hb dX12_newHere_167 rfl (lv_at hl 1 rfl) ?_
            refine lv_aload_n hx hb dX12_newHere_168 rfl (lv_at hl 2 rfl) ?_
            have hP : va_P G.1 pCl (mW G h0 a (upd (upd (upd (upd (upd (upd (upd (upd (upd F 15 (nI fa376)) 16 pl573) 27 (nI nd)) 31 (nI (wr + 1))) 64 (nI (at0 + 1))) 65 (nI (ne + 1))) 66 (nI lk)) 15 (nI fa376)) 64 (nI (at0 + 1))) (updA (updA (updA (updA B 19 (upd (B 19) wr (nI at0))) 20 (upd (B 20) wr 0)) 2 K) 2 K)) _ := hP
            have hD : va_D A (mW G h0 a (upd (upd (upd (upd (upd (upd (upd (upd (upd F 15 (nI fa376)) 16 pl573) 27 (nI nd)) 31 (nI (wr + 1))) 64 (nI (at0 + 1))) 65 (nI (ne + 1))) 66 (nI lk)) 15 (nI fa376)) 64 (nI (at0 + 1))) (updA (updA (updA (updA B 19 (upd (B 19) wr (nI at0))) 20 (upd (B 20) wr 0)) 2 K) 2 K)) := mW_D hD
            refine pc_V0 (G := G) (As := []) (rest := [.int (nI at0), .int (nI fi), .int 10, .ref h0]) hx hb hml hown hq hE hX pX0_al hP hD hS hA hl.1 (RF_choice l G h0 a (upd (upd (upd (upd (upd (upd (upd F 15 (nI fa376)) 16 pl573) 27 (nI nd)) 31 (nI (wr + 1))) 64 (nI (at0 + 1))) 65 (nI (ne + 1))) 66 (nI lk)) (updA (updA (updA B 19 (upd (B 19) wr (nI at0))) 20 (upd (B 20) wr 0)) 2 K) (at0 + 1) T fa376 K (by omega) (by omega) hK (by omega) e382) (gV pw_1640 pw_1641 pw_1642 pw_1523 pw_1656) hV_X12_choice 0 9 rfl rfl rfl rfl (Nat.le_of_ble_eq_true rfl) dX12_newHere_169 ⟨Nat.le_of_ble_eq_true rfl, Nat.le_of_ble_eq_true rfl⟩ ⟨(by show 16 + 1 ≤ (20 * n + 8); omega), (by show 8 + (4 + 11) + 405 ≤ (1000 * n + 40 * 8); omega)⟩ (fun v586 u584 H locs hw585 hP hD hS => ?_)
            obtain rfl : v586 = some (.int 0) := hw585
            have hP : va_P G.1 pCl (mW G h0 a (upd (upd (upd (upd (upd (upd (upd F 15 (nI fa376)) 16 pl573) 27 (nI nd)) 31 (nI (wr + 1))) 64 (nI (at0 + 1))) 65 (nI (ne + 1))) 66 (nI lk)) (updA (updA (updA B 19 (upd (B 19) wr (nI at0))) 20 (upd (B 20) wr 0)) 2 K)) _ := mW_to (F := F) (l1 := [(15, (nI fa376)), (16, pl573), (27, (nI nd)), (31, (nI (wr + 1))), (64, (nI (at0 + 1))), (65, (nI (ne + 1))), (66, (nI lk)), (15, (nI fa376)), (64, (nI (at0 + 1)))]) (l2 := [(15, (nI fa376)), (16, pl573), (27, (nI nd)), (31, (nI (wr + 1))), (64, (nI (at0 + 1))), (65, (nI (ne + 1))), (66, (nI lk))]) (V := [(nI fa376), pl573, (nI nd), (nI (wr + 1)), (nI (at0 + 1)), (nI (ne + 1)), (nI lk), (nI fa376), (nI (at0 + 1)), (nI fa376), pl573, (nI nd), (nI (wr + 1)), (nI (at0 + 1)), (nI (ne + 1)), (nI lk)]) rfl rfl (show (updA (updA (updA (updA B 19 (upd (B 19) wr (nI at0))) 20 (upd (B 20) wr 0)) 2 K) 2 K) = (updA (updA (updA B 19 (upd (B 19) wr (nI at0))) 20 (upd (B 20) wr 0)) 2 K) from updsA_eq2 (F := B) (l1 := [(19, (upd (B 19) wr (nI at0))), (20, (upd (B 20) wr 0)), (2, K), (2, K)]) (l2 := [(19, (upd (B 19) wr (nI at0))), (20, (upd (B 20) wr 0)), (2, K)]) (V := [(upd (B 19) wr (nI at0)), (upd (B 20) wr 0), K, K, (upd (B 19) wr (nI at0)), (upd (B 20) wr 0), K]) rfl rfl) hP
            have hD : va_D A (mW G h0 a (upd (upd (upd (upd (upd (upd (upd F 15 (nI fa376)) 16 pl573) 27 (nI nd)) 31 (nI (wr + 1))) 64 (nI (at0 + 1))) 65 (nI (ne + 1))) 66 (nI lk)) (updA (updA (updA B 19 (upd (B 19) wr (nI at0))) 20 (upd (B 20) wr 0)) 2 K)) := mW_D hD
            refine W.widen (k := 0) (n := 0) (Nat.le_of_ble_eq_true rfl) (Nat.le_of_ble_eq_true rfl) ?_
            refine W.eq (g2 := F0 m 172 ls [.int 0, .int (nI at0), .int (nI fi), .int 10, .ref h0]) rfl ?_
            refine lv_iload_n hx hb dX12_newHere_172 rfl (lv_at hl 0 rfl) ?_
            have hP : va_P G.1 pCl (mW G h0 a (upd (upd (upd (upd (upd (upd (upd (upd F 15 (nI fa376)) 16 pl573) 27 (nI nd)) 31 (nI (wr + 1))) 64 (nI (at0 + 1))) 65 (nI (ne + 1))) 66 (nI lk)) 27 (nI nd)) (updA (updA (updA B 19 (upd (B 19) wr (nI at0))) 20 (upd (B 20) wr 0)) 2 K)) _ := mW_to (F := F) (l1 := [(15, (nI fa376)), (16, pl573), (27, (nI nd)), (31, (nI (wr + 1))), (64, (nI (at0 + 1))), (65, (nI (ne + 1))), (66, (nI lk))]) (l2 := [(15, (nI fa376)), (16, pl573), (27, (nI nd)), (31, (nI (wr + 1))), (64, (nI (at0 + 1))), (65, (nI (ne + 1))), (66, (nI lk)), (27, (nI nd))]) (V := [(nI fa376), pl573, (nI nd), (nI (wr + 1)), (nI (at0 + 1)), (nI (ne + 1)), (nI lk), (nI fa376), pl573, (nI nd), (nI (wr + 1)), (nI (at0 + 1)), (nI (ne + 1)), (nI lk), (nI nd)]) rfl rfl rfl hP
            have hD : va_D A (mW G h0 a (upd (upd (upd (upd (upd (upd (upd (upd F 15 (nI fa376)) 16 pl573) 27 (nI nd)) 31 (nI (wr + 1))) 64 (nI (at0 + 1))) 65 (nI (ne + 1))) 66 (nI lk)) 27 (nI nd)) (updA (updA (updA B 19 (upd (B 19) wr (nI at0))) 20 (upd (B 20) wr 0)) 2 K)) := mW_D hD
            refine pc_V0 (G := G) (As := [.int 10, .int (nI fi), .int (nI at0), .int 0, .int (nI wr)]) (rest := []) hx hb hml hown hq hE hX pX0_al hP hD hS hA hl.1 (R_nodeB l G h0 a (upd (upd (upd (upd (upd (upd (upd F 15 (nI fa376)) 16 pl573) 27 (nI nd)) 31 (nI (wr + 1))) 64 (nI (at0 + 1))) 65 (nI (ne + 1))) 66 (nI lk)) (updA (updA B 19 (upd (B 19) wr (nI at0))) 20 (upd (B 20) wr 0)) 10 (nI fi) (nI at0) 0 (nI wr) nd K (by omega)) (gV pw_1650 pw_1651 pw_1652 pw_1523 pw_1589) hV_X12_node 0 9 rfl rfl rfl rfl (Nat.le_of_ble_eq_true rfl) dX12_newHere_173 ⟨Nat.le_of_ble_eq_true rfl, Nat.le_of_ble_eq_true rfl⟩ ⟨(by show 2 + 1 ≤ (20 * n + 8); omega), (by show 8 + (7 + 11) + 60 ≤ (1000 * n + 40 * 8); omega)⟩ (fun v589 u587 H locs hw588 hP hD hS => ?_)
            obtain ⟨X590, rfl⟩ : ∃ z, z = u587 := ⟨_, rfl⟩
            obtain ⟨hw588, h591⟩ := hw588
            have h591 : NewN (updA (updA B 19 (upd (B 19) wr (nI at0))) 20 (upd (B 20) wr 0)) X590 nd 10 (nI fi) (nI at0) 0 (nI wr) := h591
            obtain rfl : v589 = some (.int (nI nd)) := hw588
            have hP : va_P G.1 pCl (mW G h0 a (upd (upd (upd (upd (upd (upd (upd F 15 (nI fa376)) 16 pl573) 27 (nI (nd + 1))) 31 (nI (wr + 1))) 64 (nI (at0 + 1))) 65 (nI (ne + 1))) 66 (nI lk)) (updA X590 2 K)) _ := mW_to (F := F) (l1 := [(15, (nI fa376)), (16, pl573), (27, (nI nd)), (31, (nI (wr + 1))), (64, (nI (at0 + 1))), (65, (nI (ne + 1))), (66, (nI lk)), (27, (nI (nd + 1)))]) (l2 := [(15, (nI fa376)), (16, pl573), (27, (nI (nd + 1))), (31, (nI (wr + 1))), (64, (nI (at0 + 1))), (65, (nI (ne + 1))), (66, (nI lk))]) (V := [(nI fa376), pl573, (nI (nd + 1)), (nI (wr + 1)), (nI (at0 + 1)), (nI (ne + 1)), (nI lk), (nI (nd + 1)), (nI fa376), pl573, (nI (nd + 1)), (nI (wr + 1)), (nI (at0 + 1)), (nI (ne + 1)), (nI lk)]) rfl rfl rfl hP
            have hD : va_D A (mW G h0 a (upd (upd (upd (upd (upd (upd (upd F 15 (nI fa376)) 16 pl573) 27 (nI (nd + 1))) 31 (nI (wr + 1))) 64 (nI (at0 + 1))) 65 (nI (ne + 1))) 66 (nI lk)) (updA X590 2 K)) := mW_D hD
            refine W.widen (k := 0) (n := 0) (Nat.le_of_ble_eq_true rfl) (Nat.le_of_ble_eq_true rfl) ?_
            refine W.eq (g2 := F0 m 176 ls [.int (nI nd)]) rfl ?_
            have hkp592 : Kp B X590 (wr + 1) T := (Kp.new hkp366 h591)
            refine lv_istore (lv' := [(4, .int (nI nd)), (3, .int (nI wr)), (2, .int (nI at0)), (0, .ref h0), (1, .int (nI fi))]) hx hb dX12_newHere_176 hl (by decide) rfl (fun ls hl => ?_)
            refine lv_aload_n hx hb dX12_newHere_178 rfl (lv_at hl 3 rfl) ?_
            refine lv_bipush (v := 93) hx hb dX12_newHere_179 (by decide) ?_
            have hP : va_P G.1 pCl (mW G h0 a (upd (upd (upd (upd (upd (upd (upd (upd (upd F 15 (nI fa376)) 16 pl573) 27 (nI (nd + 1))) 31 (nI (wr + 1))) 64 (nI (at0 + 1))) 65 (nI (ne + 1))) 66 (nI lk)) 15 (nI fa376)) 64 (nI (at0 + 1))) (updA (updA X590 2 K) 2 K)) _ := mW_to (F := F) (l1 := [(15, (nI fa376)), (16, pl573), (27, (nI (nd + 1))), (31, (nI (wr + 1))), (64, (nI (at0 + 1))), (65, (nI (ne + 1))), (66, (nI lk))]) (l2 := [(15, (nI fa376)), (16, pl573), (27, (nI (nd + 1))), (31, (nI (wr + 1))), (64, (nI (at0 + 1))), (65, (nI (ne + 1))), (66, (nI lk)), (15, (nI fa376)), (64, (nI (at0 + 1)))]) (V := [(nI fa376), pl573, (nI (nd + 1)), (nI (wr + 1)), (nI (at0 + 1)), (nI (ne + 1)), (nI lk), (nI fa376), pl573, (nI (nd + 1)), (nI (wr + 1)), (nI (at0 + 1)), (nI (ne + 1)), (nI lk), (nI fa376), (nI (at0 + 1))]) rfl rfl (show (updA X590 2 K) = (updA (updA X590 2 K) 2 K) from updsA_eq2 (F := X590) (l1 := [(2, K)]) (l2 := [(2, K), (2, K)]) (V := [K, K, K]) rfl rfl) hP
            have hD : va_D A (mW G h0 a (upd (upd (upd (upd (upd (upd (upd (upd (upd F 15 (nI fa376)) 16 pl573) 27 (nI (nd + 1))) 31 (nI (wr + 1))) 64 (nI (at0 + 1))) 65 (nI (ne + 1))) 66 (nI lk)) 15 (nI fa376)) 64 (nI (at0 + 1))) (updA (updA X590 2 K) 2 K)) := mW_D hD
            refine pc_V0 (G := G) (As := [.int 93]) (rest := []) hx hb hml hown hq hE hX pX0_al hP hD hS hA hl.1 (R_take l G h0 a (upd (upd (upd (upd (upd (upd (upd F 15 (nI fa376)) 16 pl573) 27 (nI (nd + 1))) 31 (nI (wr + 1))) 64 (nI (at0 + 1))) 65 (nI (ne + 1))) 66 (nI lk)) (updA X590 2 K) (at0 + 1) T fa376 K 93 (by omega) (by omega) hK (by omega) (by decide) (by decide)) (gV pw_1614 pw_1615 pw_1616 pw_1523 pw_1601) hV_X12_take 0 9 rfl rfl rfl rfl (Nat.le_of_ble_eq_true rfl) dX12_newHere_181 ⟨Nat.le_of_ble_eq_true rfl, Nat.le_of_ble_eq_true rfl⟩ ⟨(by show 4 + 1 ≤ (20 * n + 8); omega), (by show 8 + (2 + 11) + 103 ≤ (1000 * n + 40 * 8); omega)⟩ (fun v595 u593 H locs hw594 hP hD hS => ?_)
            obtain ⟨at596, fa597, pl598⟩ := u593
            obtain ⟨hw594, h599, h600, h601, h602, h603, h604, h605, h606⟩ := hw594
            have h599 : (at0 + 1) ≤ at596 := h599
            have h600 : at596 ≤ T := h600
            have h601 : fa376 ≤ fa597 := h601
            have h602 : fa597 ≤ 100 := h602
            have h603 : If (0 < fa376) (at596 = (at0 + 1) ∧ fa597 = fa376) := h603
            have h604 : at596 ≤ (at0 + 1) + 1 := h604
            have h605 : (at0 + 1) + 1 ≤ at596 + fa597 := h605
            have h606 : If (fa597 = 0) (K (at0 + 1) = 93) := h606
            obtain rfl : v595 = none := hw594
            have hP : va_P G.1 pCl (mW G h0 a (upd (upd (upd (upd (upd (upd (upd F 15 (nI fa597)) 16 pl598) 27 (nI (nd + 1))) 31 (nI (wr + 1))) 64 (nI at596)) 65 (nI (ne + 1))) 66 (nI lk)) (updA X590 2 K)) _ := mW_to (F := F) (l1 := [(15, (nI fa376)), (16, pl573), (27, (nI (nd + 1))), (31, (nI (wr + 1))), (64, (nI (at0 + 1))), (65, (nI (ne + 1))), (66, (nI lk)), (15, (nI fa597)), (16, pl598), (64, (nI at596))]) (l2 := [(15, (nI fa597)), (16, pl598), (27, (nI (nd + 1))), (31, (nI (wr + 1))), (64, (nI at596)), (65, (nI (ne + 1))), (66, (nI lk))]) (V := [(nI fa597), pl598, (nI (nd + 1)), (nI (wr + 1)), (nI at596), (nI (ne + 1)), (nI lk), (nI fa597), pl598, (nI at596), (nI fa597), pl598, (nI (nd + 1)), (nI (wr + 1)), (nI at596), (nI (ne + 1)), (nI lk)]) rfl rfl (show (updA (updA X590 2 K) 2 K) = (updA X590 2 K) from updsA_eq2 (F := X590) (l1 := [(2, K), (2, K)]) (l2 := [(2, K)]) (V := [K, K, K]) rfl rfl) hP
            have hD : va_D A (mW G h0 a (upd (upd (upd (upd (upd (upd (upd F 15 (nI fa597)) 16 pl598) 27 (nI (nd + 1))) 31 (nI (wr + 1))) 64 (nI at596)) 65 (nI (ne + 1))) 66 (nI lk)) (updA X590 2 K)) := mW_D hD
            refine W.widen (k := 0) (n := 0) (Nat.le_of_ble_eq_true rfl) (Nat.le_of_ble_eq_true rfl) ?_
            refine W.eq (g2 := F0 m 184 ls []) rfl ?_
            obtain ⟨n608, n607⟩ := h603 e382
            replace n608 := n608.symm
            subst n608
            replace n607 := n607.symm
            subst n607
            refine lv_aload_n hx hb dX12_newHere_184 rfl (lv_at hl 3 rfl) ?_
            refine lv_dup hx hb dX12_newHere_185 rfl ?_
            refine r_get (v := .int (nI (ne + 1))) hx hb hown hq hE hP 65 366 tFX12_65 (by decide) pw_1612 rfl dX12_newHere_186 ?_
            refine lv_iconst (v := 1) hx hb dX12_newHere_189 (by decide) ?_
            refine lv_isub hx hb dX12_newHere_190 ?_
            refine lv_topi (fun x609 e610 => ?_)
            obtain rfl : x609 = nI ((ne + 1) - 1) := e610.trans (nI_subN (a := 1) (b := (ne + 1)) (by omega))
            refine r_put (v := (nI ((ne + 1) - 1))) (ty := .int) hx hb hown hq hE hP hD hS 65 366 tFX12_65 (by decide) pw_1612 (by decide) rfl rfl (ms_65 a _ _) dX12_newHere_191 (fun H locs hP hD hS => ?_)
            refine lv_iload hx hb dX12_newHere_194 (lv_at hl 0 rfl) ?_
            have hz611 : at0 ≤ (at0 + 1) := (by omega)
            have hz612 : (at0 + 1) ≤ T := (by omega)
            have hz613 : fa376 ≤ 100 := (by omega)
            have hz614 : nd ≤ (nd + 1) := (by omega)
            have hz615 : (nd + 1) + 2 * at0 ≤ nd + 2 * (at0 + 1) + 100000 * fa376 := (by omega)
            have hz616 : (nd + 1) + 2 * at0 ≤ nd + 2 * (at0 + 1) + 40 * (21 - ne) := (by omega)
            have hz617 : wr ≤ (wr + 1) := (by omega)
            have hz618 : (wr + 1) + at0 ≤ wr + (at0 + 1) := (by omega)
            have hz619 : lk ≤ lk := (by omega)
            have hz620 : lk ≤ 60 + 100 * fa376 := (by omega)
            have hz621 : at0 + 1 ≤ (at0 + 1) + fa376 := (by omega)
            have hz622 : nd ≤ (nd + 1) := (by omega)
            have hz623 : Kp B X590 (wr + 1) T := hkp592
            have hz624 : If (fa376 = 0) (Low B X590 nd wr ∧ Frs K T (wr + 1) X590 nd (nd + 1) 20000 [(nd, (210 + lk - (10 * ne + lk)))] ∧ kcl 1 (X590 9 nd) = true) := (fun e => absurd e (by omega))
            have hP : va_P G.1 pCl (mW G h0 a (upd (upd (upd (upd (upd (upd (upd F 15 (nI fa376)) 16 pl598) 27 (nI (nd + 1))) 31 (nI (wr + 1))) 64 (nI (at0 + 1))) 65 (nI ne)) 66 (nI lk)) (updA X590 2 K)) _ := hP
            have hD : va_D A (mW G h0 a (upd (upd (upd (upd (upd (upd (upd F 15 (nI fa376)) 16 pl598) 27 (nI (nd + 1))) 31 (nI (wr + 1))) 64 (nI (at0 + 1))) 65 (nI ne)) 66 (nI lk)) (updA X590 2 K)) := mW_D hD
            exact W.iret (v := (nI nd)) hx hb hr (fun t9 ht9 hW9 => ⟨⟨_, ((at0 + 1), fa376, pl598, (nd + 1), lk, (wr + 1), nd, X590), rfl, ⟨rfl, hz611, hz612, hz613, hz614, hz615, hz616, hz617, hz618, hz619, hz620, hz621, hz622, hz623, hz624⟩, by rw [ht9]; exact hP, hD⟩, hS.F ht9⟩) hS.2.2 dX12_newHere_196
        · refine lv_aload_n hx hb dX12_newHere_148 rfl (lv_at hl 2 rfl) ?_
          refine lv_iconst (v := 1) hx hb dX12_newHere_149 (by decide) ?_
          have hP : va_P G.1 pCl (mW G h0 a (upd (upd (upd (upd (upd (upd (upd (upd F 15 0) 27 (nI nd)) 31 (nI (wr + 1))) 64 (nI (at0 + 1))) 65 (nI ne)) 66 (nI lk)) 15 (nI 0)) 64 (nI (at0 + 1))) (updA (updA (updA (updA B 19 (upd (B 19) wr (nI at0))) 20 (upd (B 20) wr 0)) 2 K) 2 K)) _ := mW_to (F := F) (l1 := [(15, 0), (27, (nI nd)), (31, (nI (wr + 1))), (64, (nI (at0 + 1))), (65, (nI ne)), (66, (nI lk))]) (l2 := [(15, 0), (27, (nI nd)), (31, (nI (wr + 1))), (64, (nI (at0 + 1))), (65, (nI ne)), (66, (nI lk)), (15, (nI 0)), (64, (nI (at0 + 1)))]) (V := [(nI 0), (nI nd), (nI (wr + 1)), (nI (at0 + 1)), (nI ne), (nI lk), (nI 0), (nI nd), (nI (wr + 1)), (nI (at0 + 1)), (nI ne), (nI lk), (nI 0), (nI (at0 + 1))]) rfl rfl (show (updA (updA (updA B 19 (upd (B 19) wr (nI at0))) 20 (upd (B 20) wr 0)) 2 K) = (updA (updA (updA (updA B 19 (upd (B 19) wr (nI at0))) 20 (upd (B 20) wr 0)) 2 K) 2 K) from updsA_eq2 (F := B) (l1 := [(19, (upd (B 19) wr (nI at0))), (20, (upd (B 20) wr 0)), (2, K)]) (l2 := [(19, (upd (B 19) wr (nI at0))), (20, (upd (B 20) wr 0)), (2, K), (2, K)]) (V := [(upd (B 19) wr (nI at0)), (upd (B 20) wr 0), K, (upd (B 19) wr (nI at0)), (upd (B 20) wr 0), K, K]) rfl rfl) hP
          have hD : va_D A (mW G h0 a (upd (upd (upd (upd (upd (upd (upd (upd F 15 0) 27 (nI nd)) 31 (nI (wr + 1))) 64 (nI (at0 + 1))) 65 (nI ne)) 66 (nI lk)) 15 (nI 0)) 64 (nI (at0 + 1))) (updA (updA (updA (updA B 19 (upd (B 19) wr (nI at0))) 20 (upd (B 20) wr 0)) 2 K) 2 K)) := mW_D hD
          refine pc_V0 (G := G) (As := [.int (nI 1)]) (rest := []) hx hb hml hown hq hE hX pX0_al hP hD hS hA hl.1 (R_bad l G h0 a (upd (upd (upd (upd (upd (upd F 15 0) 27 (nI nd)) 31 (nI (wr + 1))) 64 (nI (at0 + 1))) 65 (nI ne)) 66 (nI lk)) (updA (updA (updA B 19 (upd (B 19) wr (nI at0))) 20 (upd (B 20) wr 0)) 2 K) (at0 + 1) T 0 K 1 (by omega) (by omega) hK (by omega) (by omega) (by omega)) (gV pw_1602 pw_1603 pw_1604 pw_1523 pw_1596) hV_X12_bad 0 9 rfl rfl rfl rfl (Nat.le_of_ble_eq_true rfl) dX12_newHere_150 ⟨Nat.le_of_ble_eq_true rfl, Nat.le_of_ble_eq_true rfl⟩ ⟨(by show 3 + 1 ≤ (20 * n + 8); omega), (by show 8 + (2 + 11) + 82 ≤ (1000 * n + 40 * 8); omega)⟩ (fun v627 u625 H locs hw626 hP hD hS => ?_)
          obtain ⟨fa628, pl629⟩ := u625
          obtain ⟨hw626, h630, h631, h632, h633⟩ := hw626
          have h630 : 0 ≤ fa628 := h630
          have h631 : fa628 ≤ 0 + 1 := h631
          have h632 : 0 < fa628 := h632
          have h633 : If (0 < 0) (fa628 = 0) := h633
          obtain rfl : v627 = none := hw626
          have hP : va_P G.1 pCl (mW G h0 a (upd (upd (upd (upd (upd (upd (upd F 15 (nI fa628)) 16 pl629) 27 (nI nd)) 31 (nI (wr + 1))) 64 (nI (at0 + 1))) 65 (nI ne)) 66 (nI lk)) (updA (updA (updA B 19 (upd (B 19) wr (nI at0))) 20 (upd (B 20) wr 0)) 2 K)) _ := mW_to (F := F) (l1 := [(15, 0), (27, (nI nd)), (31, (nI (wr + 1))), (64, (nI (at0 + 1))), (65, (nI ne)), (66, (nI lk)), (15, (nI fa628)), (16, pl629), (64, (nI (at0 + 1)))]) (l2 := [(15, (nI fa628)), (16, pl629), (27, (nI nd)), (31, (nI (wr + 1))), (64, (nI (at0 + 1))), (65, (nI ne)), (66, (nI lk))]) (V := [(nI fa628), (nI nd), (nI (wr + 1)), (nI (at0 + 1)), (nI ne), (nI lk), (nI fa628), pl629, (nI (at0 + 1)), (nI fa628), pl629, (nI nd), (nI (wr + 1)), (nI (at0 + 1)), (nI ne), (nI lk)]) rfl rfl (show (updA (updA (updA (updA B 19 (upd (B 19) wr (nI at0))) 20 (upd (B 20) wr 0)) 2 K) 2 K) = (updA (updA (updA B 19 (upd (B 19) wr (nI at0))) 20 (upd (B 20) wr 0)) 2 K) from updsA_eq2 (F := B) (l1 := [(19, (upd (B 19) wr (nI at0))), (20, (upd (B 20) wr 0)), (2, K), (2, K)]) (l2 := [(19, (upd (B 19) wr (nI at0))), (20, (upd (B 20) wr 0)), (2, K)]) (V := [(upd (B 19) wr (nI at0)), (upd (B 20) wr 0), K, K, (upd (B 19) wr (nI at0)), (upd (B 20) wr 0), K]) rfl rfl) hP
          have hD : va_D A (mW G h0 a (upd (upd (upd (upd (upd (upd (upd F 15 (nI fa628)) 16 pl629) 27 (nI nd)) 31 (nI (wr + 1))) 64 (nI (at0 + 1))) 65 (nI ne)) 66 (nI lk)) (updA (updA (updA B 19 (upd (B 19) wr (nI at0))) 20 (upd (B 20) wr 0)) 2 K)) := mW_D hD
          refine W.widen (k := 0) (n := 0) (Nat.le_of_ble_eq_true rfl) (Nat.le_of_ble_eq_true rfl) ?_
          refine W.eq (g2 := F0 m 153 ls []) rfl ?_
          refine lv_aload_n hx hb dX12_newHere_153 rfl (lv_at hl 2 rfl) ?_
          have hP : va_P G.1 pCl (mW G h0 a (upd (upd (upd (upd (upd (upd (upd (upd (upd (upd F 15 (nI fa628)) 16 pl629) 27 (nI nd)) 31 (nI (wr + 1))) 64 (nI (at0 + 1))) 65 (nI ne)) 66 (nI lk)) 15 (nI fa628)) 64 (nI (at0 + 1))) 65 (nI ne)) (updA (updA (updA (updA B 19 (upd (B 19) wr (nI at0))) 20 (upd (B 20) wr 0)) 2 K) 2 K)) _ := mW_to (F := F) (l1 := [(15, (nI fa628)), (16, pl629), (27, (nI nd)), (31, (nI (wr + 1))), (64, (nI (at0 + 1))), (65, (nI ne)), (66, (nI lk))]) (l2 := [(15, (nI fa628)), (16, pl629), (27, (nI nd)), (31, (nI (wr + 1))), (64, (nI (at0 + 1))), (65, (nI ne)), (66, (nI lk)), (15, (nI fa628)), (64, (nI (at0 + 1))), (65, (nI ne))]) (V := [(nI fa628), pl629, (nI nd), (nI (wr + 1)), (nI (at0 + 1)), (nI ne), (nI lk), (nI fa628), pl629, (nI nd), (nI (wr + 1)), (nI (at0 + 1)), (nI ne), (nI lk), (nI fa628), (nI (at0 + 1)), (nI ne)]) rfl rfl (show (updA (updA (updA B 19 (upd (B 19) wr (nI at0))) 20 (upd (B 20) wr 0)) 2 K) = (updA (updA (updA (updA B 19 (upd (B 19) wr (nI at0))) 20 (upd (B 20) wr 0)) 2 K) 2 K) from updsA_eq2 (F := B) (l1 := [(19, (upd (B 19) wr (nI at0))), (20, (upd (B 20) wr 0)), (2, K)]) (l2 := [(19, (upd (B 19) wr (nI at0))), (20, (upd (B 20) wr 0)), (2, K), (2, K)]) (V := [(upd (B 19) wr (nI at0)), (upd (B 20) wr 0), K, (upd (B 19) wr (nI at0)), (upd (B 20) wr 0), K, K]) rfl rfl) hP
          have hD : va_D A (mW G h0 a (upd (upd (upd (upd (upd (upd (upd (upd (upd (upd F 15 (nI fa628)) 16 pl629) 27 (nI nd)) 31 (nI (wr + 1))) 64 (nI (at0 + 1))) 65 (nI ne)) 66 (nI lk)) 15 (nI fa628)) 64 (nI (at0 + 1))) 65 (nI ne)) (updA (updA (updA (updA B 19 (upd (B 19) wr (nI at0))) 20 (upd (B 20) wr 0)) 2 K) 2 K)) := mW_D hD
          refine pc_V0 (G := G) (As := []) (rest := []) hx hb hml hown hq hE hX pX0_al hP hD hS hA hl.1 (R_deeper l G h0 a (upd (upd (upd (upd (upd (upd (upd F 15 (nI fa628)) 16 pl629) 27 (nI nd)) 31 (nI (wr + 1))) 64 (nI (at0 + 1))) 65 (nI ne)) 66 (nI lk)) (updA (updA (updA B 19 (upd (B 19) wr (nI at0))) 20 (upd (B 20) wr 0)) 2 K) (at0 + 1) T fa628 K ne (by omega) (by omega) hK (by omega) (by omega)) (gV pw_1637 pw_1638 pw_1639 pw_1523 pw_1611) hV_X12_deeper 0 9 rfl rfl rfl rfl (Nat.le_of_ble_eq_true rfl) dX12_newHere_154 ⟨Nat.le_of_ble_eq_true rfl, Nat.le_of_ble_eq_true rfl⟩ ⟨(by show 4 + 1 ≤ (20 * n + 8); omega), (by show 8 + (1 + 11) + 103 ≤ (1000 * n + 40 * 8); omega)⟩ (fun v636 u634 H locs hw635 hP hD hS => ?_)
          obtain ⟨fa637, pl638⟩ := u634
          obtain ⟨hw635, h639, h640, h641, h642⟩ := hw635
          have h639 : fa628 ≤ fa637 := h639
          have h640 : fa637 ≤ 100 := h640
          have h641 : If (0 < fa628) (fa637 = fa628) := h641
          have h642 : If (ne ≤ 20) (ne + 1 ≤ 20 + fa637) := h642
          obtain rfl : v636 = none := hw635
          have hP : va_P G.1 pCl (mW G h0 a (upd (upd (upd (upd (upd (upd (upd F 15 (nI fa637)) 16 pl638) 27 (nI nd)) 31 (nI (wr + 1))) 64 (nI (at0 + 1))) 65 (nI (ne + 1))) 66 (nI lk)) (updA (updA (updA B 19 (upd (B 19) wr (nI at0))) 20 (upd (B 20) wr 0)) 2 K)) _ := mW_to (F := F) (l1 := [(15, (nI fa628)), (16, pl629), (27, (nI nd)), (31, (nI (wr + 1))), (64, (nI (at0 + 1))), (65, (nI ne)), (66, (nI lk)), (15, (nI fa637)), (16, pl638), (64, (nI (at0 + 1))), (65, (nI (ne + 1)))]) (l2 := [(15, (nI fa637)), (16, pl638), (27, (nI nd)), (31, (nI (wr + 1))), (64, (nI (at0 + 1))), (65, (nI (ne + 1))), (66, (nI lk))]) (V := [(nI fa637), pl638, (nI nd), (nI (wr + 1)), (nI (at0 + 1)), (nI (ne + 1)), (nI lk), (nI fa637), pl638, (nI (at0 + 1)), (nI (ne + 1)), (nI fa637), pl638, (nI nd), (nI (wr + 1)), (nI (at0 + 1)), (nI (ne + 1)), (nI lk)]) rfl rfl (show (updA (updA (updA (updA B 19 (upd (B 19) wr (nI at0))) 20 (upd (B 20) wr 0)) 2 K) 2 K) = (updA (updA (updA B 19 (upd (B 19) wr (nI at0))) 20 (upd (B 20) wr 0)) 2 K) from updsA_eq2 (F := B) (l1 := [(19, (upd (B 19) wr (nI at0))), (20, (upd (B 20) wr 0)), (2, K), (2, K)]) (l2 := [(19, (upd (B 19) wr (nI at0))), (20, (upd (B 20) wr 0)), (2, K)]) (V := [(upd (B 19) wr (nI at0)), (upd (B 20) wr 0), K, K, (upd (B 19) wr (nI at0)), (upd (B 20) wr 0), K]) rfl rfl) hP
          have hD : va_D A (mW G h0 a (upd (upd (upd (upd (upd (upd (upd F 15 (nI fa637)) 16 pl638) 27 (nI nd)) 31 (nI (wr + 1))) 64 (nI (at0 + 1))) 65 (nI (ne + 1))) 66 (nI lk)) (updA (updA (updA B 19 (upd (B 19) wr (nI at0))) 20 (upd (B 20) wr 0)) 2 K)) := mW_D hD
          refine W.widen (k := 0) (n := 0) (Nat.le_of_ble_eq_true rfl) (Nat.le_of_ble_eq_true rfl) ?_
          refine W.eq (g2 := F0 m 157 ls []) rfl ?_
          have n643 := h641 h632
          replace n643 := n643.symm
          subst n643
          refine lv_aload_n hx hb dX12_newHere_157 rfl (lv_at hl 2 rfl) ?_
          refine lv_bipush (v := 91) hx hb dX12_newHere_158 (by decide) ?_
          have hP : va_P G.1 pCl (mW G h0 a (upd (upd (upd (upd (upd (upd (upd (upd (upd F 15 (nI fa628)) 16 pl638) 27 (nI nd)) 31 (nI (wr + 1))) 64 (nI (at0 + 1))) 65 (nI (ne + 1))) 66 (nI lk)) 15 (nI fa628)) 64 (nI (at0 + 1))) (updA (updA (updA (updA B 19 (upd (B 19) wr (nI at0))) 20 (upd (B 20) wr 0)) 2 K) 2 K)) _ := hP
          have hD : va_D A (mW G h0 a (upd (upd (upd (upd (upd (upd (upd (upd (upd F 15 (nI fa628)) 16 pl638) 27 (nI nd)) 31 (nI (wr + 1))) 64 (nI (at0 + 1))) 65 (nI (ne + 1))) 66 (nI lk)) 15 (nI fa628)) 64 (nI (at0 + 1))) (updA (updA (updA (updA B 19 (upd (B 19) wr (nI at0))) 20 (upd (B 20) wr 0)) 2 K) 2 K)) := mW_D hD
          refine pc_V0 (G := G) (As := [.int 91]) (rest := []) hx hb hml hown hq hE hX pX0_al hP hD hS hA hl.1 (R_take l G h0 a (upd (upd (upd (upd (upd (upd (upd F 15 (nI fa628)) 16 pl638) 27 (nI nd)) 31 (nI (wr + 1))) 64 (nI (at0 + 1))) 65 (nI (ne + 1))) 66 (nI lk)) (updA (updA (updA B 19 (upd (B 19) wr (nI at0))) 20 (upd (B 20) wr 0)) 2 K) (at0 + 1) T fa628 K 91 (by omega) (by omega) hK (by omega) (by decide) (by decide)) (gV pw_1614 pw_1615 pw_1616 pw_1523 pw_1601) hV_X12_take 0 9 rfl rfl rfl rfl (Nat.le_of_ble_eq_true rfl) dX12_newHere_160 ⟨Nat.le_of_ble_eq_true rfl, Nat.le_of_ble_eq_true rfl⟩ ⟨(by show 4 + 1 ≤ (20 * n + 8); omega), (by show 8 + (2 + 11) + 103 ≤ (1000 * n + 40 * 8); omega)⟩ (fun v647 u645 H locs hw646 hP hD hS => ?_)
          obtain ⟨at648, fa649, pl650⟩ := u645
          obtain ⟨hw646, h651, h652, h653, h654, h655, h656, h657, h658⟩ := hw646
          have h651 : (at0 + 1) ≤ at648 := h651
          have h652 : at648 ≤ T := h652
          have h653 : fa628 ≤ fa649 := h653
          have h654 : fa649 ≤ 100 := h654
          have h655 : If (0 < fa628) (at648 = (at0 + 1) ∧ fa649 = fa628) := h655
          have h656 : at648 ≤ (at0 + 1) + 1 := h656
          have h657 : (at0 + 1) + 1 ≤ at648 + fa649 := h657
          have h658 : If (fa649 = 0) (K (at0 + 1) = 91) := h658
          obtain rfl : v647 = none := hw646
          have hP : va_P G.1 pCl (mW G h0 a (upd (upd (upd (upd (upd (upd (upd F 15 (nI fa649)) 16 pl650) 27 (nI nd)) 31 (nI (wr + 1))) 64 (nI at648)) 65 (nI (ne + 1))) 66 (nI lk)) (updA (updA (updA B 19 (upd (B 19) wr (nI at0))) 20 (upd (B 20) wr 0)) 2 K)) _ := mW_to (F := F) (l1 := [(15, (nI fa628)), (16, pl638), (27, (nI nd)), (31, (nI (wr + 1))), (64, (nI (at0 + 1))), (65, (nI (ne + 1))), (66, (nI lk)), (15, (nI fa649)), (16, pl650), (64, (nI at648))]) (l2 := [(15, (nI fa649)), (16, pl650), (27, (nI nd)), (31, (nI (wr + 1))), (64, (nI at648)), (65, (nI (ne + 1))), (66, (nI lk))]) (V := [(nI fa649), pl650, (nI nd), (nI (wr + 1)), (nI at648), (nI (ne + 1)), (nI lk), (nI fa649), pl650, (nI at648), (nI fa649), pl650, (nI nd), (nI (wr + 1)), (nI at648), (nI (ne + 1)), (nI lk)]) rfl rfl (show (updA (updA (updA (updA B 19 (upd (B 19) wr (nI at0))) 20 (upd (B 20) wr 0)) 2 K) 2 K) = (updA (updA (updA B 19 (upd (B 19) wr (nI at0))) 20 (upd (B 20) wr 0)) 2 K) from updsA_eq2 (F := B) (l1 := [(19, (upd (B 19) wr (nI at0))), (20, (upd (B 20) wr 0)), (2, K), (2, K)]) (l2 := [(19, (upd (B 19) wr (nI at0))), (20, (upd (B 20) wr 0)), (2, K)]) (V := [(upd (B 19) wr (nI at0)), (upd (B 20) wr 0), K, K, (upd (B 19) wr (nI at0)), (upd (B 20) wr 0), K]) rfl rfl) hP
          have hD : va_D A (mW G h0 a (upd (upd (upd (upd (upd (upd (upd F 15 (nI fa649)) 16 pl650) 27 (nI nd)) 31 (nI (wr + 1))) 64 (nI at648)) 65 (nI (ne + 1))) 66 (nI lk)) (updA (updA (updA B 19 (upd (B 19) wr (nI at0))) 20 (upd (B 20) wr 0)) 2 K)) := mW_D hD
          refine W.widen (k := 0) (n := 0) (Nat.le_of_ble_eq_true rfl) (Nat.le_of_ble_eq_true rfl) ?_
          refine W.eq (g2 := F0 m 163 ls []) rfl ?_
          obtain ⟨n660, n659⟩ := h655 h632
          replace n660 := n660.symm
          subst n660
          replace n659 := n659.symm
          subst n659
          refine lv_aload_n hx hb dX12_newHere_163 rfl (lv_at hl 2 rfl) ?_
          refine lv_bipush (v := 10) hx hb dX12_newHere_164 (by decide) ?_
          refine lv_iload_n hx hb dX12_newHere_166 rfl (lv_at hl 3 rfl) ?_
          refine lv_iload_n hx hb dX12_newHere_167 rfl (lv_at hl 1 rfl) ?_
          refine lv_aload_n hx hb dX12_newHere_168 rfl (lv_at hl 2 rfl) ?_
          have hP : va_P G.1 pCl (mW G h0 a (upd (upd (upd (upd (upd (upd (upd (upd (upd F 15 (nI fa628)) 16 pl650) 27 (nI nd)) 31 (nI (wr + 1))) 64 (nI (at0 + 1))) 65 (nI (ne + 1))) 66 (nI lk)) 15 (nI fa628)) 64 (nI (at0 + 1))) (updA (updA (updA (updA B 19 (upd (B 19) wr (nI at0))) 20 (upd (B 20) wr 0)) 2 K) 2 K)) _ := hP
          have hD : va_D A (mW G h0 a (upd (upd (upd (upd (upd (upd (upd (upd (upd F 15 (nI fa628)) 16 pl650) 27 (nI nd)) 31 (nI (wr + 1))) 64 (nI (at0 + 1))) 65 (nI (ne + 1))) 66 (nI lk)) 15 (nI fa628)) 64 (nI (at0 + 1))) (updA (updA (updA (updA B 19 (upd (B 19) wr (nI at0))) 20 (upd (B 20) wr 0)) 2 K) 2 K)) := mW_D hD
          refine pc_V0 (G := G) (As := []) (rest := [.int (nI at0), .int (nI fi), .int 10, .ref h0]) hx hb hml hown hq hE hX pX0_al hP hD hS hA hl.1 (RF_choice l G h0 a (upd (upd (upd (upd (upd (upd (upd F 15 (nI fa628)) 16 pl650) 27 (nI nd)) 31 (nI (wr + 1))) 64 (nI (at0 + 1))) 65 (nI (ne + 1))) 66 (nI lk)) (updA (updA (updA B 19 (upd (B 19) wr (nI at0))) 20 (upd (B 20) wr 0)) 2 K) (at0 + 1) T fa628 K (by omega) (by omega) hK (by omega) h632) (gV pw_1640 pw_1641 pw_1642 pw_1523 pw_1656) hV_X12_choice 0 9 rfl rfl rfl rfl (Nat.le_of_ble_eq_true rfl) dX12_newHere_169 ⟨Nat.le_of_ble_eq_true rfl, Nat.le_of_ble_eq_true rfl⟩ ⟨(by show 16 + 1 ≤ (20 * n + 8); omega), (by show 8 + (4 + 11) + 405 ≤ (1000 * n + 40 * 8); omega)⟩ (fun v663 u661 H locs hw662 hP hD hS => ?_)
          obtain rfl : v663 = some (.int 0) := hw662
          have hP : va_P G.1 pCl (mW G h0 a (upd (upd (upd (upd (upd (upd (upd F 15 (nI fa628)) 16 pl650) 27 (nI nd)) 31 (nI (wr + 1))) 64 (nI (at0 + 1))) 65 (nI (ne + 1))) 66 (nI lk)) (updA (updA (updA B 19 (upd (B 19) wr (nI at0))) 20 (upd (B 20) wr 0)) 2 K)) _ := mW_to (F := F) (l1 := [(15, (nI fa628)), (16, pl650), (27, (nI nd)), (31, (nI (wr + 1))), (64, (nI (at0 + 1))), (65, (nI (ne + 1))), (66, (nI lk)), (15, (nI fa628)), (64, (nI (at0 + 1)))]) (l2 := [(15, (nI fa628)), (16, pl650), (27, (nI nd)), (31, (nI (wr + 1))), (64, (nI (at0 + 1))), (65, (nI (ne + 1))), (66, (nI lk))]) (V := [(nI fa628), pl650, (nI nd), (nI (wr + 1)), (nI (at0 + 1)), (nI (ne + 1)), (nI lk), (nI fa628), (nI (at0 + 1)), (nI fa628), pl650, (nI nd), (nI (wr + 1)), (nI (at0 + 1)), (nI (ne + 1)), (nI lk)]) rfl rfl (show (updA (updA (updA (updA B 19 (upd (B 19) wr (nI at0))) 20 (upd (B 20) wr 0)) 2 K) 2 K) = (updA (updA (updA B 19 (upd (B 19) wr (nI at0))) 20 (upd (B 20) wr 0)) 2 K) from updsA_eq2 (F := B) (l1 := [(19, (upd (B 19) wr (nI at0))), (20, (upd (B 20) wr 0)), (2, K), (2, K)]) (l2 := [(19, (upd (B 19) wr (nI at0))), (20, (upd (B 20) wr 0)), (2, K)]) (V := [(upd (B 19) wr (nI at0)), (upd (B 20) wr 0), K, K, (upd (B 19) wr (nI at0)), (upd (B 20) wr 0), K]) rfl rfl) hP
          have hD : va_D A (mW G h0 a (upd (upd (upd (upd (upd (upd (upd F 15 (nI fa628)) 16 pl650) 27 (nI nd)) 31 (nI (wr + 1))) 64 (nI (at0 + 1))) 65 (nI (ne + 1))) 66 (nI lk)) (updA (updA (updA B 19 (upd (B 19) wr (nI at0))) 20 (upd (B 20) wr 0)) 2 K)) := mW_D hD
          refine W.widen (k := 0) (n := 0) (Nat.le_of_ble_eq_true rfl) (Nat.le_of_ble_eq_true rfl) ?_
          refine W.eq (g2 := F0 m 172 ls [.int 0, .int (nI at0), .int (nI fi), .int 10, .ref h0]) rfl ?_
          refine lv_iload_n hx hb dX12_newHere_172 rfl (lv_at hl 0 rfl) ?_
          have hP : va_P G.1 pCl (mW G h0 a (upd (upd (upd (upd (upd (upd (upd (upd F 15 (nI fa628)) 16 pl650) 27 (nI nd)) 31 (nI (wr + 1))) 64 (nI (at0 + 1))) 65 (nI (ne + 1))) 66 (nI lk)) 27 (nI nd)) (updA (updA (updA B 19 (upd (B 19) wr (nI at0))) 20 (upd (B 20) wr 0)) 2 K)) _ := mW_to (F := F) (l1 := [(15, (nI fa628)), (16, pl650), (27, (nI nd)), (31, (nI (wr + 1))), (64, (nI (at0 + 1))), (65, (nI (ne + 1))), (66, (nI lk))]) (l2 := [(15, (nI fa628)), (16, pl650), (27, (nI nd)), (31, (nI (wr + 1))), (64, (nI (at0 + 1))), (65, (nI (ne + 1))), (66, (nI lk)), (27, (nI nd))]) (V := [(nI fa628), pl650, (nI nd), (nI (wr + 1)), (nI (at0 + 1)), (nI (ne + 1)), (nI lk), (nI fa628), pl650, (nI nd), (nI (wr + 1)), (nI (at0 + 1)), (nI (ne + 1)), (nI lk), (nI nd)]) rfl rfl rfl hP
          have hD : va_D A (mW G h0 a (upd (upd (upd (upd (upd (upd (upd (upd F 15 (nI fa628)) 16 pl650) 27 (nI nd)) 31 (nI (wr + 1))) 64 (nI (at0 + 1))) 65 (nI (ne + 1))) 66 (nI lk)) 27 (nI nd)) (updA (updA (updA B 19 (upd (B 19) wr (nI at0))) 20 (upd (B 20) wr 0)) 2 K)) := mW_D hD
          refine pc_V0 (G := G) (As := [.int 10, .int (nI fi), .int (nI at0), .int 0, .int (nI wr)]) (rest := []) hx hb hml hown hq hE hX pX0_al hP hD hS hA hl.1 (R_nodeB l G h0 a (upd (upd (upd (upd (upd (upd (upd F 15 (nI fa628)) 16 pl650) 27 (nI nd)) 31 (nI (wr + 1))) 64 (nI (at0 + 1))) 65 (nI (ne + 1))) 66 (nI lk)) (updA (updA B 19 (upd (B 19) wr (nI at0))) 20 (upd (B 20) wr 0)) 10 (nI fi) (nI at0) 0 (nI wr) nd K (by omega)) (gV pw_1650 pw_1651 pw_1652 pw_1523 pw_1589) hV_X12_node 0 9 rfl rfl rfl rfl (Nat.le_of_ble_eq_true rfl) dX12_newHere_173 ⟨Nat.le_of_ble_eq_true rfl, Nat.le_of_ble_eq_true rfl⟩ ⟨(by show 2 + 1 ≤ (20 * n + 8); omega), (by show 8 + (7 + 11) + 60 ≤ (1000 * n + 40 * 8); omega)⟩ (fun v666 u664 H locs hw665 hP hD hS => ?_)
          obtain ⟨X667, rfl⟩ : ∃ z, z = u664 := ⟨_, rfl⟩
          obtain ⟨hw665, h668⟩ := hw665
          have h668 : NewN (updA (updA B 19 (upd (B 19) wr (nI at0))) 20 (upd (B 20) wr 0)) X667 nd 10 (nI fi) (nI at0) 0 (nI wr) := h668
          obtain rfl : v666 = some (.int (nI nd)) := hw665
          have hP : va_P G.1 pCl (mW G h0 a (upd (upd (upd (upd (upd (upd (upd F 15 (nI fa628)) 16 pl650) 27 (nI (nd + 1))) 31 (nI (wr + 1))) 64 (nI (at0 + 1))) 65 (nI (ne + 1))) 66 (nI lk)) (updA X667 2 K)) _ := mW_to (F := F) (l1 := [(15, (nI fa628)), (16, pl650), (27, (nI nd)), (31, (nI (wr + 1))), (64, (nI (at0 + 1))), (65, (nI (ne + 1))), (66, (nI lk)), (27, (nI (nd + 1)))]) (l2 := [(15, (nI fa628)), (16, pl650), (27, (nI (nd + 1))), (31, (nI (wr + 1))), (64, (nI (at0 + 1))), (65, (nI (ne + 1))), (66, (nI lk))]) (V := [(nI fa628), pl650, (nI (nd + 1)), (nI (wr + 1)), (nI (at0 + 1)), (nI (ne + 1)), (nI lk), (nI (nd + 1)), (nI fa628), pl650, (nI (nd + 1)), (nI (wr + 1)), (nI (at0 + 1)), (nI (ne + 1)), (nI lk)]) rfl rfl rfl hP
          have hD : va_D A (mW G h0 a (upd (upd (upd (upd (upd (upd (upd F 15 (nI fa628)) 16 pl650) 27 (nI (nd + 1))) 31 (nI (wr + 1))) 64 (nI (at0 + 1))) 65 (nI (ne + 1))) 66 (nI lk)) (updA X667 2 K)) := mW_D hD
          refine W.widen (k := 0) (n := 0) (Nat.le_of_ble_eq_true rfl) (Nat.le_of_ble_eq_true rfl) ?_
          refine W.eq (g2 := F0 m 176 ls [.int (nI nd)]) rfl ?_
          have hkp669 : Kp B X667 (wr + 1) T := (Kp.new hkp366 h668)
          refine lv_istore (lv' := [(4, .int (nI nd)), (3, .int (nI wr)), (2, .int (nI at0)), (0, .ref h0), (1, .int (nI fi))]) hx hb dX12_newHere_176 hl (by decide) rfl (fun ls hl => ?_)
          refine lv_aload_n hx hb dX12_newHere_178 rfl (lv_at hl 3 rfl) ?_
          refine lv_bipush (v := 93) hx hb dX12_newHere_179 (by decide) ?_
          have hP : va_P G.1 pCl (mW G h0 a (upd (upd (upd (upd (upd (upd (upd (upd (upd F 15 (nI fa628)) 16 pl650) 27 (nI (nd + 1))) 31 (nI (wr + 1))) 64 (nI (at0 + 1))) 65 (nI (ne + 1))) 66 (nI lk)) 15 (nI fa628)) 64 (nI (at0 + 1))) (updA (updA X667 2 K) 2 K)) _ := mW_to (F := F) (l1 := [(15, (nI fa628)), (16, pl650), (27, (nI (nd + 1))), (31, (nI (wr + 1))), (64, (nI (at0 + 1))), (65, (nI (ne + 1))), (66, (nI lk))]) (l2 := [(15, (nI fa628)), (16, pl650), (27, (nI (nd + 1))), (31, (nI (wr + 1))), (64, (nI (at0 + 1))), (65, (nI (ne + 1))), (66, (nI lk)), (15, (nI fa628)), (64, (nI (at0 + 1)))]) (V := [(nI fa628), pl650, (nI (nd + 1)), (nI (wr + 1)), (nI (at0 + 1)), (nI (ne + 1)), (nI lk), (nI fa628), pl650, (nI (nd + 1)), (nI (wr + 1)), (nI (at0 + 1)), (nI (ne + 1)), (nI lk), (nI fa628), (nI (at0 + 1))]) rfl rfl (show (updA X667 2 K) = (updA (updA X667 2 K) 2 K) from updsA_eq2 (F := X667) (l1 := [(2, K)]) (l2 := [(2, K), (2, K)]) (V := [K, K, K]) rfl rfl) hP
          have hD : va_D A (mW G h0 a (upd (upd (upd (upd (upd (upd (upd (upd (upd F 15 (nI fa628)) 16 pl650) 27 (nI (nd + 1))) 31 (nI (wr + 1))) 64 (nI (at0 + 1))) 65 (nI (ne + 1))) 66 (nI lk)) 15 (nI fa628)) 64 (nI (at0 + 1))) (updA (updA X667 2 K) 2 K)) := mW_D hD
          refine pc_V0 (G := G) (As := [.int 93]) (rest := []) hx hb hml hown hq hE hX pX0_al hP hD hS hA hl.1 (R_take l G h0 a (upd (upd (upd (upd (upd (upd (upd F 15 (nI fa628)) 16 pl650) 27 (nI (nd + 1))) 31 (nI (wr + 1))) 64 (nI (at0 + 1))) 65 (nI (ne + 1))) 66 (nI lk)) (updA X667 2 K) (at0 + 1) T fa628 K 93 (by omega) (by omega) hK (by omega) (by decide) (by decide)) (gV pw_1614 pw_1615 pw_1616 pw_1523 pw_1601) hV_X12_take 0 9 rfl rfl rfl rfl (Nat.le_of_ble_eq_true rfl) dX12_newHere_181 ⟨Nat.le_of_ble_eq_true rfl, Nat.le_of_ble_eq_true rfl⟩ ⟨(by show 4 + 1 ≤ (20 * n + 8); omega), (by show 8 + (2 + 11) + 103 ≤ (1000 * n + 40 * 8); omega)⟩ (fun v672 u670 H locs hw671 hP hD hS => ?_)
          obtain ⟨at673, fa674, pl675⟩ := u670
          obtain ⟨hw671, h676, h677, h678, h679, h680, h681, h682, h683⟩ := hw671
          have h676 : (at0 + 1) ≤ at673 := h676
          have h677 : at673 ≤ T := h677
          have h678 : fa628 ≤ fa674 := h678
          have h679 : fa674 ≤ 100 := h679
          have h680 : If (0 < fa628) (at673 = (at0 + 1) ∧ fa674 = fa628) := h680
          have h681 : at673 ≤ (at0 + 1) + 1 := h681
          have h682 : (at0 + 1) + 1 ≤ at673 + fa674 := h682
          have h683 : If (fa674 = 0) (K (at0 + 1) = 93) := h683
          obtain rfl : v672 = none := hw671
          have hP : va_P G.1 pCl (mW G h0 a (upd (upd (upd (upd (upd (upd (upd F 15 (nI fa674)) 16 pl675) 27 (nI (nd + 1))) 31 (nI (wr + 1))) 64 (nI at673)) 65 (nI (ne + 1))) 66 (nI lk)) (updA X667 2 K)) _ := mW_to (F := F) (l1 := [(15, (nI fa628)), (16, pl650), (27, (nI (nd + 1))), (31, (nI (wr + 1))), (64, (nI (at0 + 1))), (65, (nI (ne + 1))), (66, (nI lk)), (15, (nI fa674)), (16, pl675), (64, (nI at673))]) (l2 := [(15, (nI fa674)), (16, pl675), (27, (nI (nd + 1))), (31, (nI (wr + 1))), (64, (nI at673)), (65, (nI (ne + 1))), (66, (nI lk))]) (V := [(nI fa674), pl675, (nI (nd + 1)), (nI (wr + 1)), (nI at673), (nI (ne + 1)), (nI lk), (nI fa674), pl675, (nI at673), (nI fa674), pl675, (nI (nd + 1)), (nI (wr + 1)), (nI at673), (nI (ne + 1)), (nI lk)]) rfl rfl (show (updA (updA X667 2 K) 2 K) = (updA X667 2 K) from updsA_eq2 (F := X667) (l1 := [(2, K), (2, K)]) (l2 := [(2, K)]) (V := [K, K, K]) rfl rfl) hP
          have hD : va_D A (mW G h0 a (upd (upd (upd (upd (upd (upd (upd F 15 (nI fa674)) 16 pl675) 27 (nI (nd + 1))) 31 (nI (wr + 1))) 64 (nI at673)) 65 (nI (ne + 1))) 66 (nI lk)) (updA X667 2 K)) := mW_D hD
          refine W.widen (k := 0) (n := 0) (Nat.le_of_ble_eq_true rfl) (Nat.le_of_ble_eq_true rfl) ?_
          refine W.eq (g2 := F0 m 184 ls []) rfl ?_
          obtain ⟨n685, n684⟩ := h680 h632
          replace n685 := n685.symm
          subst n685
          replace n684 := n684.symm
          subst n684
          refine lv_aload_n hx hb dX12_newHere_184 rfl (lv_at hl 3 rfl) ?_
          refine lv_dup hx hb dX12_newHere_185 rfl ?_
          refine r_get (v := .int (nI (ne + 1))) hx hb hown hq hE hP 65 366 tFX12_65 (by decide) pw_1612 rfl dX12_newHere_186 ?_
          refine lv_iconst (v := 1) hx hb dX12_newHere_189 (by decide) ?_
          refine lv_isub hx hb dX12_newHere_190 ?_
          refine lv_topi (fun x686 e687 => ?_)
          obtain rfl : x686 = nI ((ne + 1) - 1) := e687.trans (nI_subN (a := 1) (b := (ne + 1)) (by omega))
          refine r_put (v := (nI ((ne + 1) - 1))) (ty := .int) hx hb hown hq hE hP hD hS 65 366 tFX12_65 (by decide) pw_1612 (by decide) rfl rfl (ms_65 a _ _) dX12_newHere_191 (fun H locs hP hD hS => ?_)
          refine lv_iload hx hb dX12_newHere_194 (lv_at hl 0 rfl) ?_
          have hz688 : at0 ≤ (at0 + 1) := (by omega)
          have hz689 : (at0 + 1) ≤ T := (by omega)
          have hz690 : fa628 ≤ 100 := (by omega)
          have hz691 : nd ≤ (nd + 1) := (by omega)
          have hz692 : (nd + 1) + 2 * at0 ≤ nd + 2 * (at0 + 1) + 100000 * fa628 := (by omega)
          have hz693 : (nd + 1) + 2 * at0 ≤ nd + 2 * (at0 + 1) + 40 * (21 - ne) := (by omega)
          have hz694 : wr ≤ (wr + 1) := (by omega)
          have hz695 : (wr + 1) + at0 ≤ wr + (at0 + 1) := (by omega)
          have hz696 : lk ≤ lk := (by omega)
          have hz697 : lk ≤ 60 + 100 * fa628 := (by omega)
          have hz698 : at0 + 1 ≤ (at0 + 1) + fa628 := (by omega)
          have hz699 : nd ≤ (nd + 1) := (by omega)
          have hz700 : Kp B X667 (wr + 1) T := hkp669
          have hz701 : If (fa628 = 0) (Low B X667 nd wr ∧ Frs K T (wr + 1) X667 nd (nd + 1) 20000 [(nd, (210 + lk - (10 * ne + lk)))] ∧ kcl 1 (X667 9 nd) = true) := (fun e => absurd e (by omega))
          have hP : va_P G.1 pCl (mW G h0 a (upd (upd (upd (upd (upd (upd (upd F 15 (nI fa628)) 16 pl675) 27 (nI (nd + 1))) 31 (nI (wr + 1))) 64 (nI (at0 + 1))) 65 (nI ne)) 66 (nI lk)) (updA X667 2 K)) _ := hP
          have hD : va_D A (mW G h0 a (upd (upd (upd (upd (upd (upd (upd F 15 (nI fa628)) 16 pl675) 27 (nI (nd + 1))) 31 (nI (wr + 1))) 64 (nI (at0 + 1))) 65 (nI ne)) 66 (nI lk)) (updA X667 2 K)) := mW_D hD
          exact W.iret (v := (nI nd)) hx hb hr (fun t9 ht9 hW9 => ⟨⟨_, ((at0 + 1), fa628, pl675, (nd + 1), lk, (wr + 1), nd, X667), rfl, ⟨rfl, hz688, hz689, hz690, hz691, hz692, hz693, hz694, hz695, hz696, hz697, hz698, hz699, hz700, hz701⟩, by rw [ht9]; exact hP, hD⟩, hS.F ht9⟩) hS.2.2 dX12_newHere_196
      · have n702 : ¬ (r357 = 0) := fun h9 => c362 ((nI_eq (a := r357) (b := 0) (by omega) (by omega)).mpr h9)
        have n703 : (at0 + 1) < T := tk_lt (by omega) hK (h360 (by omega)) (by decide) (by decide)
        refine lv_aload_n hx hb dX12_newHere_62 rfl (lv_at hl 1 rfl) ?_
        have hP : va_P G.1 pCl (mW G h0 a (upd (upd (upd (upd (upd (upd (upd (upd (upd F 15 0) 27 (nI nd)) 31 (nI wr)) 64 (nI (at0 + 1))) 65 (nI ne)) 66 (nI lk)) 15 (nI 0)) 64 (nI (at0 + 1))) 65 (nI ne)) (updA (updA B 2 K) 2 K)) _ := mW_to (F := F) (l1 := [(15, 0), (27, (nI nd)), (31, (nI wr)), (64, (nI (at0 + 1))), (65, (nI ne)), (66, (nI lk))]) (l2 := [(15, 0), (27, (nI nd)), (31, (nI wr)), (64, (nI (at0 + 1))), (65, (nI ne)), (66, (nI lk)), (15, (nI 0)), (64, (nI (at0 + 1))), (65, (nI ne))]) (V := [(nI 0), (nI nd), (nI wr), (nI (at0 + 1)), (nI ne), (nI lk), (nI 0), (nI nd), (nI wr), (nI (at0 + 1)), (nI ne), (nI lk), (nI 0), (nI (at0 + 1)), (nI ne)]) rfl rfl (show (updA B 2 K) = (updA (updA B 2 K) 2 K) from updsA_eq2 (F := B) (l1 := [(2, K)]) (l2 := [(2, K), (2, K)]) (V := [K, K, K]) rfl rfl) hP
        have hD : va_D A (mW G h0 a (upd (upd (upd (upd (upd (upd (upd (upd (upd F 15 0) 27 (nI nd)) 31 (nI wr)) 64 (nI (at0 + 1))) 65 (nI ne)) 66 (nI lk)) 15 (nI 0)) 64 (nI (at0 + 1))) 65 (nI ne)) (updA (updA B 2 K) 2 K)) := mW_D hD
        refine pc_V0 (G := G) (As := []) (rest := []) hx hb hml hown hq hE hX pX0_al hP hD hS hA hl.1 (R_deeper l G h0 a (upd (upd (upd (upd (upd (upd F 15 0) 27 (nI nd)) 31 (nI wr)) 64 (nI (at0 + 1))) 65 (nI ne)) 66 (nI lk)) (updA B 2 K) (at0 + 1) T 0 K ne (by omega) (by omega) hK (by omega) (by omega)) (gV pw_1637 pw_1638 pw_1639 pw_1523 pw_1611) hV_X12_deeper 0 9 rfl rfl rfl rfl (Nat.le_of_ble_eq_true rfl) dX12_newHere_63 ⟨Nat.le_of_ble_eq_true rfl, Nat.le_of_ble_eq_true rfl⟩ ⟨(by show 4 + 1 ≤ (20 * n + 8); omega), (by show 8 + (1 + 11) + 103 ≤ (1000 * n + 40 * 8); omega)⟩ (fun v706 u704 H locs hw705 hP hD hS => ?_)
        obtain ⟨fa707, pl708⟩ := u704
        obtain ⟨hw705, h709, h710, h711, h712⟩ := hw705
        have h709 : 0 ≤ fa707 := h709
        have h710 : fa707 ≤ 100 := h710
        have h711 : If (0 < 0) (fa707 = 0) := h711
        have h712 : If (ne ≤ 20) (ne + 1 ≤ 20 + fa707) := h712
        obtain rfl : v706 = none := hw705
        have hP : va_P G.1 pCl (mW G h0 a (upd (upd (upd (upd (upd (upd (upd F 15 (nI fa707)) 16 pl708) 27 (nI nd)) 31 (nI wr)) 64 (nI (at0 + 1))) 65 (nI (ne + 1))) 66 (nI lk)) (updA B 2 K)) _ := mW_to (F := F) (l1 := [(15, 0), (27, (nI nd)), (31, (nI wr)), (64, (nI (at0 + 1))), (65, (nI ne)), (66, (nI lk)), (15, (nI fa707)), (16, pl708), (64, (nI (at0 + 1))), (65, (nI (ne + 1)))]) (l2 := [(15, (nI fa707)), (16, pl708), (27, (nI nd)), (31, (nI wr)), (64, (nI (at0 + 1))), (65, (nI (ne + 1))), (66, (nI lk))]) (V := [(nI fa707), (nI nd), (nI wr), (nI (at0 + 1)), (nI (ne + 1)), (nI lk), (nI fa707), pl708, (nI (at0 + 1)), (nI (ne + 1)), (nI fa707), pl708, (nI nd), (nI wr), (nI (at0 + 1)), (nI (ne + 1)), (nI lk)]) rfl rfl (show (updA (updA B 2 K) 2 K) = (updA B 2 K) from updsA_eq2 (F := B) (l1 := [(2, K), (2, K)]) (l2 := [(2, K)]) (V := [K, K, K]) rfl rfl) hP
        have hD : va_D A (mW G h0 a (upd (upd (upd (upd (upd (upd (upd F 15 (nI fa707)) 16 pl708) 27 (nI nd)) 31 (nI wr)) 64 (nI (at0 + 1))) 65 (nI (ne + 1))) 66 (nI lk)) (updA B 2 K)) := mW_D hD
        refine W.widen (k := 0) (n := 0) (Nat.le_of_ble_eq_true rfl) (Nat.le_of_ble_eq_true rfl) ?_
        refine W.eq (g2 := F0 m 66 ls []) rfl ?_
        rcases Nat.eq_zero_or_pos fa707 with e713 | e713
        · subst e713
          have hP : va_P G.1 pCl (mW G h0 a (upd (upd (upd (upd (upd (upd (upd F 15 0) 16 pl708) 27 (nI nd)) 31 (nI wr)) 64 (nI (at0 + 1))) 65 (nI (ne + 1))) 66 (nI lk)) (updA B 2 K)) _ := hP
          have hD : va_D A (mW G h0 a (upd (upd (upd (upd (upd (upd (upd F 15 0) 16 pl708) 27 (nI nd)) 31 (nI wr)) 64 (nI (at0 + 1))) 65 (nI (ne + 1))) 66 (nI lk)) (updA B 2 K)) := mW_D hD
          have n714 : ne + 1 ≤ 20 := (h712 (by omega))
          refine lv_aload_n hx hb dX12_newHere_66 rfl (lv_at hl 1 rfl) ?_
          refine lv_dup hx hb dX12_newHere_67 rfl ?_
          refine r_get (v := .int (nI (at0 + 1))) hx hb hown hq hE hP 64 343 tFX12_64 (by decide) pw_1592 rfl dX12_newHere_68 ?_
          refine lv_iconst (v := 1) hx hb dX12_newHere_71 (by decide) ?_
          refine lv_iadd hx hb dX12_newHere_72 ?_
          refine lv_topi (fun x715 e716 => ?_)
          obtain rfl : x715 = nI ((at0 + 1) + 1) := e716.trans (nI_add ((at0 + 1)) (1))
          refine r_put (v := (nI ((at0 + 1) + 1))) (ty := .int) hx hb hown hq hE hP hD hS 64 343 tFX12_64 (by decide) pw_1592 (by decide) rfl rfl (ms_64 a _ _) dX12_newHere_73 (fun H locs hP hD hS => ?_)
          refine lv_aload_n hx hb dX12_newHere_76 rfl (lv_at hl 1 rfl) ?_
          refine lv_bipush (v := 41) hx hb dX12_newHere_77 (by decide) ?_
          have hP : va_P G.1 pCl (mW G h0 a (upd (upd (upd (upd (upd (upd (upd (upd (upd F 15 0) 16 pl708) 27 (nI nd)) 31 (nI wr)) 64 (nI ((at0 + 1) + 1))) 65 (nI (ne + 1))) 66 (nI lk)) 15 (nI 0)) 64 (nI ((at0 + 1) + 1))) (updA (updA B 2 K) 2 K)) _ := mW_to (F := F) (l1 := [(15, 0), (16, pl708), (27, (nI nd)), (31, (nI wr)), (64, (nI (at0 + 1))), (65, (nI (ne + 1))), (66, (nI lk)), (64, (nI ((at0 + 1) + 1)))]) (l2 := [(15, 0), (16, pl708), (27, (nI nd)), (31, (nI wr)), (64, (nI ((at0 + 1) + 1))), (65, (nI (ne + 1))), (66, (nI lk)), (15, (nI 0)), (64, (nI ((at0 + 1) + 1)))]) (V := [(nI 0), pl708, (nI nd), (nI wr), (nI ((at0 + 1) + 1)), (nI (ne + 1)), (nI lk), (nI ((at0 + 1) + 1)), (nI 0), pl708, (nI nd), (nI wr), (nI ((at0 + 1) + 1)), (nI (ne + 1)), (nI lk), (nI 0), (nI ((at0 + 1) + 1))]) rfl rfl (show (updA B 2 K) = (updA (updA B 2 K) 2 K) from updsA_eq2 (F := B) (l1 := [(2, K)]) (l2 := [(2, K), (2, K)]) (V := [K, K, K]) rfl rfl) hP
          have hD : va_D A (mW G h0 a (upd (upd (upd (upd (upd (upd (upd (upd (upd F 15 0) 16 pl708) 27 (nI nd)) 31 (nI wr)) 64 (nI ((at0 + 1) + 1))) 65 (nI (ne + 1))) 66 (nI lk)) 15 (nI 0)) 64 (nI ((at0 + 1) + 1))) (updA (updA B 2 K) 2 K)) := mW_D hD
          refine pc_V0 (G := G) (As := [.int 41]) (rest := []) hx hb hml hown hq hE hX pX0_al hP hD hS hA hl.1 (R_take l G h0 a (upd (upd (upd (upd (upd (upd (upd F 15 0) 16 pl708) 27 (nI nd)) 31 (nI wr)) 64 (nI ((at0 + 1) + 1))) 65 (nI (ne + 1))) 66 (nI lk)) (updA B 2 K) ((at0 + 1) + 1) T 0 K 41 (by omega) (by omega) hK (by omega) (by decide) (by decide)) (gV pw_1614 pw_1615 pw_1616 pw_1523 pw_1601) hV_X12_take 0 9 rfl rfl rfl rfl (Nat.le_of_ble_eq_true rfl) dX12_newHere_79 ⟨Nat.le_of_ble_eq_true rfl, Nat.le_of_ble_eq_true rfl⟩ ⟨(by show 4 + 1 ≤ (20 * n + 8); omega), (by show 8 + (2 + 11) + 103 ≤ (1000 * n + 40 * 8); omega)⟩ (fun v719 u717 H locs hw718 hP hD hS => ?_)
          obtain ⟨at720, fa721, pl722⟩ := u717
          obtain ⟨hw718, h723, h724, h725, h726, h727, h728, h729, h730⟩ := hw718
          have h723 : ((at0 + 1) + 1) ≤ at720 := h723
          have h724 : at720 ≤ T := h724
          have h725 : 0 ≤ fa721 := h725
          have h726 : fa721 ≤ 100 := h726
          have h727 : If (0 < 0) (at720 = ((at0 + 1) + 1) ∧ fa721 = 0) := h727
          have h728 : at720 ≤ ((at0 + 1) + 1) + 1 := h728
          have h729 : ((at0 + 1) + 1) + 1 ≤ at720 + fa721 := h729
          have h730 : If (fa721 = 0) (K ((at0 + 1) + 1) = 41) := h730
          obtain rfl : v719 = none := hw718
          have hP : va_P G.1 pCl (mW G h0 a (upd (upd (upd (upd (upd (upd (upd F 15 (nI fa721)) 16 pl722) 27 (nI nd)) 31 (nI wr)) 64 (nI at720)) 65 (nI (ne + 1))) 66 (nI lk)) (updA B 2 K)) _ := mW_to (F := F) (l1 := [(15, 0), (16, pl708), (27, (nI nd)), (31, (nI wr)), (64, (nI ((at0 + 1) + 1))), (65, (nI (ne + 1))), (66, (nI lk)), (15, (nI fa721)), (16, pl722), (64, (nI at720))]) (l2 := [(15, (nI fa721)), (16, pl722), (27, (nI nd)), (31, (nI wr)), (64, (nI at720)), (65, (nI (ne + 1))), (66, (nI lk))]) (V := [(nI fa721), pl722, (nI nd), (nI wr), (nI at720), (nI (ne + 1)), (nI lk), (nI fa721), pl722, (nI at720), (nI fa721), pl722, (nI nd), (nI wr), (nI at720), (nI (ne + 1)), (nI lk)]) rfl rfl (show (updA (updA B 2 K) 2 K) = (updA B 2 K) from updsA_eq2 (F := B) (l1 := [(2, K), (2, K)]) (l2 := [(2, K)]) (V := [K, K, K]) rfl rfl) hP
          have hD : va_D A (mW G h0 a (upd (upd (upd (upd (upd (upd (upd F 15 (nI fa721)) 16 pl722) 27 (nI nd)) 31 (nI wr)) 64 (nI at720)) 65 (nI (ne + 1))) 66 (nI lk)) (updA B 2 K)) := mW_D hD
          refine W.widen (k := 0) (n := 0) (Nat.le_of_ble_eq_true rfl) (Nat.le_of_ble_eq_true rfl) ?_
          refine W.eq (g2 := F0 m 82 ls []) rfl ?_
          rcases Nat.eq_zero_or_pos fa721 with e731 | e731
          · subst e731
            have hP : va_P G.1 pCl (mW G h0 a (upd (upd (upd (upd (upd (upd (upd F 15 0) 16 pl722) 27 (nI nd)) 31 (nI wr)) 64 (nI at720)) 65 (nI (ne + 1))) 66 (nI lk)) (updA B 2 K)) _ := hP
            have hD : va_D A (mW G h0 a (upd (upd (upd (upd (upd (upd (upd F 15 0) 16 pl722) 27 (nI nd)) 31 (nI wr)) 64 (nI at720)) 65 (nI (ne + 1))) 66 (nI lk)) (updA B 2 K)) := mW_D hD
            refine lv_aload_n hx hb dX12_newHere_82 rfl (lv_at hl 1 rfl) ?_
            refine lv_dup hx hb dX12_newHere_83 rfl ?_
            refine r_get (v := .int (nI (ne + 1))) hx hb hown hq hE hP 65 366 tFX12_65 (by decide) pw_1612 rfl dX12_newHere_84 ?_
            refine lv_iconst (v := 1) hx hb dX12_newHere_87 (by decide) ?_
            refine lv_isub hx hb dX12_newHere_88 ?_
            refine lv_topi (fun x732 e733 => ?_)
            obtain rfl : x732 = nI ((ne + 1) - 1) := e733.trans (nI_subN (a := 1) (b := (ne + 1)) (by omega))
            refine r_put (v := (nI ((ne + 1) - 1))) (ty := .int) hx hb hown hq hE hP hD hS 65 366 tFX12_65 (by decide) pw_1612 (by decide) rfl rfl (ms_65 a _ _) dX12_newHere_89 (fun H locs hP hD hS => ?_)
            refine lv_aload_n hx hb dX12_newHere_92 rfl (lv_at hl 1 rfl) ?_
            refine lv_bipush (v := 9) hx hb dX12_newHere_93 (by decide) ?_
            refine lv_iload_n hx hb dX12_newHere_95 rfl (lv_at hl 2 rfl) ?_
            refine lv_iload_n hx hb dX12_newHere_96 rfl (lv_at hl 0 rfl) ?_
            refine lv_iconst (v := (-1)) hx hb dX12_newHere_97 (by decide) ?_
            refine lv_iconst (v := (-1)) hx hb dX12_newHere_98 (by decide) ?_
            have hP : va_P G.1 pCl (mW G h0 a (upd (upd (upd (upd (upd (upd (upd (upd F 15 0) 16 pl722) 27 (nI nd)) 31 (nI wr)) 64 (nI at720)) 65 (nI ((ne + 1) - 1))) 66 (nI lk)) 27 (nI nd)) (updA B 2 K)) _ := mW_to (F := F) (l1 := [(15, 0), (16, pl722), (27, (nI nd)), (31, (nI wr)), (64, (nI at720)), (65, (nI (ne + 1))), (66, (nI lk)), (65, (nI ((ne + 1) - 1)))]) (l2 := [(15, 0), (16, pl722), (27, (nI nd)), (31, (nI wr)), (64, (nI at720)), (65, (nI ((ne + 1) - 1))), (66, (nI lk)), (27, (nI nd))]) (V := [0, pl722, (nI nd), (nI wr), (nI at720), (nI ((ne + 1) - 1)), (nI lk), (nI ((ne + 1) - 1)), 0, pl722, (nI nd), (nI wr), (nI at720), (nI ((ne + 1) - 1)), (nI lk), (nI nd)]) rfl rfl rfl hP
            have hD : va_D A (mW G h0 a (upd (upd (upd (upd (upd (upd (upd (upd F 15 0) 16 pl722) 27 (nI nd)) 31 (nI wr)) 64 (nI at720)) 65 (nI ((ne + 1) - 1))) 66 (nI lk)) 27 (nI nd)) (updA B 2 K)) := mW_D hD
            refine pc_V0 (G := G) (As := [.int 9, .int (nI fi), .int (nI at0), .int (-1), .int (-1)]) (rest := []) hx hb hml hown hq hE hX pX0_al hP hD hS hA hl.1 (R_nodeB l G h0 a (upd (upd (upd (upd (upd (upd (upd F 15 0) 16 pl722) 27 (nI nd)) 31 (nI wr)) 64 (nI at720)) 65 (nI ((ne + 1) - 1))) 66 (nI lk)) B 9 (nI fi) (nI at0) (-1) (-1) nd K (by omega)) (gV pw_1650 pw_1651 pw_1652 pw_1523 pw_1589) hV_X12_node 0 9 rfl rfl rfl rfl (Nat.le_of_ble_eq_true rfl) dX12_newHere_99 ⟨Nat.le_of_ble_eq_true rfl, Nat.le_of_ble_eq_true rfl⟩ ⟨(by show 2 + 1 ≤ (20 * n + 8); omega), (by show 8 + (7 + 11) + 60 ≤ (1000 * n + 40 * 8); omega)⟩ (fun v736 u734 H locs hw735 hP hD hS => ?_)
            obtain ⟨X737, rfl⟩ : ∃ z, z = u734 := ⟨_, rfl⟩
            obtain ⟨hw735, h738⟩ := hw735
            have h738 : NewN B X737 nd 9 (nI fi) (nI at0) (-1) (-1) := h738
            obtain rfl : v736 = some (.int (nI nd)) := hw735
            have hP : va_P G.1 pCl (mW G h0 a (upd (upd (upd (upd (upd (upd (upd F 15 0) 16 pl722) 27 (nI (nd + 1))) 31 (nI wr)) 64 (nI at720)) 65 (nI ((ne + 1) - 1))) 66 (nI lk)) (updA X737 2 K)) _ := mW_to (F := F) (l1 := [(15, 0), (16, pl722), (27, (nI nd)), (31, (nI wr)), (64, (nI at720)), (65, (nI ((ne + 1) - 1))), (66, (nI lk)), (27, (nI (nd + 1)))]) (l2 := [(15, 0), (16, pl722), (27, (nI (nd + 1))), (31, (nI wr)), (64, (nI at720)), (65, (nI ((ne + 1) - 1))), (66, (nI lk))]) (V := [0, pl722, (nI (nd + 1)), (nI wr), (nI at720), (nI ((ne + 1) - 1)), (nI lk), (nI (nd + 1)), 0, pl722, (nI (nd + 1)), (nI wr), (nI at720), (nI ((ne + 1) - 1)), (nI lk)]) rfl rfl rfl hP
            have hD : va_D A (mW G h0 a (upd (upd (upd (upd (upd (upd (upd F 15 0) 16 pl722) 27 (nI (nd + 1))) 31 (nI wr)) 64 (nI at720)) 65 (nI ((ne + 1) - 1))) 66 (nI lk)) (updA X737 2 K)) := mW_D hD
            refine W.widen (k := 0) (n := 0) (Nat.le_of_ble_eq_true rfl) (Nat.le_of_ble_eq_true rfl) ?_
            refine W.eq (g2 := F0 m 102 ls [.int (nI nd)]) rfl ?_
            have hkp739 : Kp B X737 wr T := (Kp.new hkp1 h738)
            have hlo740 : Low B X737 nd wr := (Low.new hlo2 h738 (by omega))
            have hf741 : Frs K T wr X737 nd (nd + 1) nd [(nd, 0)] := (Frs.new0 (k := 9) Frs.nil (Nat.le_refl _) (Nat.le_refl _) h738 rfl (by decide) (by decide) (by omega) (by omega) (fun e => absurd e (by decide)) (newOK.m1 (by decide)) (newOK.m1 (by decide)) (newOK.m1 (by decide)) (newOK.m1 (by decide)))
            have hn742 : Nd X737 nd 9 (-1) (-1) (-1) (-1) := (NewN.toNd h738)
            have hf743 : Frs K T wr X737 nd (nd + 1) 20000 [(nd, 0)] := (Frs.fin (k := 9) hf741 hn742 rfl (by decide) (fun h => absurd h (by decide)) (fun h => absurd h (by decide)) (fun h => absurd h (by decide)) (fun h => absurd h (by decide)))
            have hz744 : at0 ≤ at720 := (by omega)
            have hz745 : at720 ≤ T := (by omega)
            have hz746 : 0 ≤ 100 := (by omega)
            have hz747 : nd ≤ (nd + 1) := (by omega)
            have hz748 : (nd + 1) + 2 * at0 ≤ nd + 2 * at720 + 100000 * 0 := (by omega)
            have hz749 : (nd + 1) + 2 * at0 ≤ nd + 2 * at720 + 40 * (21 - ne) := (by omega)
            have hz750 : wr ≤ wr := (by omega)
            have hz751 : wr + at0 ≤ wr + at720 := (by omega)
            have hz752 : lk ≤ lk := (by omega)
            have hz753 : lk ≤ 60 + 100 * 0 := (by omega)
            have hz754 : at0 + 1 ≤ at720 + 0 := (by omega)
            have hz755 : nd ≤ (nd + 1) := (by omega)
            have hz756 : Kp B X737 wr T := hkp739
            have hz757 : If (0 = 0) (Low B X737 nd wr ∧ Frs K T wr X737 nd (nd + 1) 20000 [(nd, (210 + lk - (10 * ne + lk)))] ∧ kcl 1 (X737 9 nd) = true) := (fun _ => ⟨hlo740, Frs.up hf743 (by omega), (by rw [hn742.1]; decide)⟩)
            have hP : va_P G.1 pCl (mW G h0 a (upd (upd (upd (upd (upd (upd (upd F 15 (nI 0)) 16 pl722) 27 (nI (nd + 1))) 31 (nI wr)) 64 (nI at720)) 65 (nI ne)) 66 (nI lk)) (updA X737 2 K)) _ := mW_to (F := F) (l1 := [(15, 0), (16, pl722), (27, (nI (nd + 1))), (31, (nI wr)), (64, (nI at720)), (65, (nI ((ne + 1) - 1))), (66, (nI lk))]) (l2 := [(15, (nI 0)), (16, pl722), (27, (nI (nd + 1))), (31, (nI wr)), (64, (nI at720)), (65, (nI ne)), (66, (nI lk))]) (V := [(nI 0), pl722, (nI (nd + 1)), (nI wr), (nI at720), (nI ne), (nI lk), (nI 0), pl722, (nI (nd + 1)), (nI wr), (nI at720), (nI ne), (nI lk)]) rfl rfl rfl hP
            have hD : va_D A (mW G h0 a (upd (upd (upd (upd (upd (upd (upd F 15 (nI 0)) 16 pl722) 27 (nI (nd + 1))) 31 (nI wr)) 64 (nI at720)) 65 (nI ne)) 66 (nI lk)) (updA X737 2 K)) := mW_D hD
            exact W.iret (v := (nI nd)) hx hb hr (fun t9 ht9 hW9 => ⟨⟨_, (at720, 0, pl722, (nd + 1), lk, wr, nd, X737), rfl, ⟨rfl, hz744, hz745, hz746, hz747, hz748, hz749, hz750, hz751, hz752, hz753, hz754, hz755, hz756, hz757⟩, by rw [ht9]; exact hP, hD⟩, hS.F ht9⟩) hS.2.2 dX12_newHere_102
          · have e731 := e731
            refine lv_aload_n hx hb dX12_newHere_82 rfl (lv_at hl 1 rfl) ?_
            refine lv_dup hx hb dX12_newHere_83 rfl ?_
            refine r_get (v := .int (nI (ne + 1))) hx hb hown hq hE hP 65 366 tFX12_65 (by decide) pw_1612 rfl dX12_newHere_84 ?_
            refine lv_iconst (v := 1) hx hb dX12_newHere_87 (by decide) ?_
            refine lv_isub hx hb dX12_newHere_88 ?_
            refine lv_topi (fun x758 e759 => ?_)
            obtain rfl : x758 = nI ((ne + 1) - 1) := e759.trans (nI_subN (a := 1) (b := (ne + 1)) (by omega))
            refine r_put (v := (nI ((ne + 1) - 1))) (ty := .int) hx hb hown hq hE hP hD hS 65 366 tFX12_65 (by decide) pw_1612 (by decide) rfl rfl (ms_65 a _ _) dX12_newHere_89 (fun H locs hP hD hS => ?_)
            refine lv_aload_n hx hb dX12_newHere_92 rfl (lv_at hl 1 rfl) ?_
            refine lv_bipush (v := 9) hx hb dX12_newHere_93 (by decide) ?_
            refine lv_iload_n hx hb dX12_newHere_95 rfl (lv_at hl 2 rfl) ?_
            refine lv_iload_n hx hb dX12_newHere_96 rfl (lv_at hl 0 rfl) ?_
            refine lv_iconst (v := (-1)) hx hb dX12_newHere_97 (by decide) ?_
            refine lv_iconst (v := (-1)) hx hb dX12_newHere_98 (by decide) ?_
            have hP : va_P G.1 pCl (mW G h0 a (upd (upd (upd (upd (upd (upd (upd (upd F 15 (nI fa721)) 16 pl722) 27 (nI nd)) 31 (nI wr)) 64 (nI at720)) 65 (nI ((ne + 1) - 1))) 66 (nI lk)) 27 (nI nd)) (updA B 2 K)) _ := mW_to (F := F) (l1 := [(15, (nI fa721)), (16, pl722), (27, (nI nd)), (31, (nI wr)), (64, (nI at720)), (65, (nI (ne + 1))), (66, (nI lk)), (65, (nI ((ne + 1) - 1)))]) (l2 := [(15, (nI fa721)), (16, pl722), (27, (nI nd)), (31, (nI wr)), (64, (nI at720)), (65, (nI ((ne + 1) - 1))), (66, (nI lk)), (27, (nI nd))]) (V := [(nI fa721), pl722, (nI nd), (nI wr), (nI at720), (nI ((ne + 1) - 1)), (nI lk), (nI ((ne + 1) - 1)), (nI fa721), pl722, (nI nd), (nI wr), (nI at720), (nI ((ne + 1) - 1)), (nI lk), (nI nd)]) rfl rfl rfl hP
            have hD : va_D A (mW G h0 a (upd (upd (upd (upd (upd (upd (upd (upd F 15 (nI fa721)) 16 pl722) 27 (nI nd)) 31 (nI wr)) 64 (nI at720)) 65 (nI ((ne + 1) - 1))) 66 (nI lk)) 27 (nI nd)) (updA B 2 K)) := mW_D hD
            refine pc_V0 (G := G) (As := [.int 9, .int (nI fi), .int (nI at0), .int (-1), .int (-1)]) (rest := []) hx hb hml hown hq hE hX pX0_al hP hD hS hA hl.1 (R_nodeB l G h0 a (upd (upd (upd (upd (upd (upd (upd F 15 (nI fa721)) 16 pl722) 27 (nI nd)) 31 (nI wr)) 64 (nI at720)) 65 (nI ((ne + 1) - 1))) 66 (nI lk)) B 9 (nI fi) (nI at0) (-1) (-1) nd K (by omega)) (gV pw_1650 pw_1651 pw_1652 pw_1523 pw_1589) hV_X12_node 0 9 rfl rfl rfl rfl (Nat.le_of_ble_eq_true rfl) dX12_newHere_99 ⟨Nat.le_of_ble_eq_true rfl, Nat.le_of_ble_eq_true rfl⟩ ⟨(by show 2 + 1 ≤ (20 * n + 8); omega), (by show 8 + (7 + 11) + 60 ≤ (1000 * n + 40 * 8); omega)⟩ (fun v762 u760 H locs hw761 hP hD hS => ?_)
            obtain ⟨X763, rfl⟩ : ∃ z, z = u760 := ⟨_, rfl⟩
            obtain ⟨hw761, h764⟩ := hw761
            have h764 : NewN B X763 nd 9 (nI fi) (nI at0) (-1) (-1) := h764
            obtain rfl : v762 = some (.int (nI nd)) := hw761
            have hP : va_P G.1 pCl (mW G h0 a (upd (upd (upd (upd (upd (upd (upd F 15 (nI fa721)) 16 pl722) 27 (nI (nd + 1))) 31 (nI wr)) 64 (nI at720)) 65 (nI ((ne + 1) - 1))) 66 (nI lk)) (updA X763 2 K)) _ := mW_to (F := F) (l1 := [(15, (nI fa721)), (16, pl722), (27, (nI nd)), (31, (nI wr)), (64, (nI at720)), (65, (nI ((ne + 1) - 1))), (66, (nI lk)), (27, (nI (nd + 1)))]) (l2 := [(15, (nI fa721)), (16, pl722), (27, (nI (nd + 1))), (31, (nI wr)), (64, (nI at720)), (65, (nI ((ne + 1) - 1))), (66, (nI lk))]) (V := [(nI fa721), pl722, (nI (nd + 1)), (nI wr), (nI at720), (nI ((ne + 1) - 1)), (nI lk), (nI (nd + 1)), (nI fa721), pl722, (nI (nd + 1)), (nI wr), (nI at720), (nI ((ne + 1) - 1)), (nI lk)]) rfl rfl rfl hP
            have hD : va_D A (mW G h0 a (upd (upd (upd (upd (upd (upd (upd F 15 (nI fa721)) 16 pl722) 27 (nI (nd + 1))) 31 (nI wr)) 64 (nI at720)) 65 (nI ((ne + 1) - 1))) 66 (nI lk)) (updA X763 2 K)) := mW_D hD
            refine W.widen (k := 0) (n := 0) (Nat.le_of_ble_eq_true rfl) (Nat.le_of_ble_eq_true rfl) ?_
            refine W.eq (g2 := F0 m 102 ls [.int (nI nd)]) rfl ?_
            have hkp765 : Kp B X763 wr T := (Kp.new hkp1 h764)
            have hz766 : at0 ≤ at720 := (by omega)
            have hz767 : at720 ≤ T := (by omega)
            have hz768 : fa721 ≤ 100 := (by omega)
            have hz769 : nd ≤ (nd + 1) := (by omega)
            have hz770 : (nd + 1) + 2 * at0 ≤ nd + 2 * at720 + 100000 * fa721 := (by omega)
            have hz771 : (nd + 1) + 2 * at0 ≤ nd + 2 * at720 + 40 * (21 - ne) := (by omega)
            have hz772 : wr ≤ wr := (by omega)
            have hz773 : wr + at0 ≤ wr + at720 := (by omega)
            have hz774 : lk ≤ lk := (by omega)
            have hz775 : lk ≤ 60 + 100 * fa721 := (by omega)
            have hz776 : at0 + 1 ≤ at720 + fa721 := (by omega)
            have hz777 : nd ≤ (nd + 1) := (by omega)
            have hz778 : Kp B X763 wr T := hkp765
            have hz779 : If (fa721 = 0) (Low B X763 nd wr ∧ Frs K T wr X763 nd (nd + 1) 20000 [(nd, (210 + lk - (10 * ne + lk)))] ∧ kcl 1 (X763 9 nd) = true) := (fun e => absurd e (by omega))
            have hP : va_P G.1 pCl (mW G h0 a (upd (upd (upd (upd (upd (upd (upd F 15 (nI fa721)) 16 pl722) 27 (nI (nd + 1))) 31 (nI wr)) 64 (nI at720)) 65 (nI ne)) 66 (nI lk)) (updA X763 2 K)) _ := mW_to (F := F) (l1 := [(15, (nI fa721)), (16, pl722), (27, (nI (nd + 1))), (31, (nI wr)), (64, (nI at720)), (65, (nI ((ne + 1) - 1))), (66, (nI lk))]) (l2 := [(15, (nI fa721)), (16, pl722), (27, (nI (nd + 1))), (31, (nI wr)), (64, (nI at720)), (65, (nI ne)), (66, (nI lk))]) (V := [(nI fa721), pl722, (nI (nd + 1)), (nI wr), (nI at720), (nI ne), (nI lk), (nI fa721), pl722, (nI (nd + 1)), (nI wr), (nI at720), (nI ne), (nI lk)]) rfl rfl rfl hP
            have hD : va_D A (mW G h0 a (upd (upd (upd (upd (upd (upd (upd F 15 (nI fa721)) 16 pl722) 27 (nI (nd + 1))) 31 (nI wr)) 64 (nI at720)) 65 (nI ne)) 66 (nI lk)) (updA X763 2 K)) := mW_D hD
            exact W.iret (v := (nI nd)) hx hb hr (fun t9 ht9 hW9 => ⟨⟨_, (at720, fa721, pl722, (nd + 1), lk, wr, nd, X763), rfl, ⟨rfl, hz766, hz767, hz768, hz769, hz770, hz771, hz772, hz773, hz774, hz775, hz776, hz777, hz778, hz779⟩, by rw [ht9]; exact hP, hD⟩, hS.F ht9⟩) hS.2.2 dX12_newHere_102
        · have e713 := e713
          refine lv_aload_n hx hb dX12_newHere_66 rfl (lv_at hl 1 rfl) ?_
          refine lv_dup hx hb dX12_newHere_67 rfl ?_
          refine r_get (v := .int (nI (at0 + 1))) hx hb hown hq hE hP 64 343 tFX12_64 (by decide) pw_1592 rfl dX12_newHere_68 ?_
          refine lv_iconst (v := 1) hx hb dX12_newHere_71 (by decide) ?_
          refine lv_iadd hx hb dX12_newHere_72 ?_
          refine lv_topi (fun x780 e781 => ?_)
          obtain rfl : x780 = nI ((at0 + 1) + 1) := e781.trans (nI_add ((at0 + 1)) (1))
          refine r_put (v := (nI ((at0 + 1) + 1))) (ty := .int) hx hb hown hq hE hP hD hS 64 343 tFX12_64 (by decide) pw_1592 (by decide) rfl rfl (ms_64 a _ _) dX12_newHere_73 (fun H locs hP hD hS => ?_)
          refine lv_aload_n hx hb dX12_newHere_76 rfl (lv_at hl 1 rfl) ?_
          refine lv_bipush (v := 41) hx hb dX12_newHere_77 (by decide) ?_
          have hP : va_P G.1 pCl (mW G h0 a (upd (upd (upd (upd (upd (upd (upd (upd (upd F 15 (nI fa707)) 16 pl708) 27 (nI nd)) 31 (nI wr)) 64 (nI ((at0 + 1) + 1))) 65 (nI (ne + 1))) 66 (nI lk)) 15 (nI fa707)) 64 (nI ((at0 + 1) + 1))) (updA (updA B 2 K) 2 K)) _ := mW_to (F := F) (l1 := [(15, (nI fa707)), (16, pl708), (27, (nI nd)), (31, (nI wr)), (64, (nI (at0 + 1))), (65, (nI (ne + 1))), (66, (nI lk)), (64, (nI ((at0 + 1) + 1)))]) (l2 := [(15, (nI fa707)), (16, pl708), (27, (nI nd)), (31, (nI wr)), (64, (nI ((at0 + 1) + 1))), (65, (nI (ne + 1))), (66, (nI lk)), (15, (nI fa707)), (64, (nI ((at0 + 1) + 1)))]) (V := [(nI fa707), pl708, (nI nd), (nI wr), (nI ((at0 + 1) + 1)), (nI (ne + 1)), (nI lk), (nI ((at0 + 1) + 1)), (nI fa707), pl708, (nI nd), (nI wr), (nI ((at0 + 1) + 1)), (nI (ne + 1)), (nI lk), (nI fa707), (nI ((at0 + 1) + 1))]) rfl rfl (show (updA B 2 K) = (updA (updA B 2 K) 2 K) from updsA_eq2 (F := B) (l1 := [(2, K)]) (l2 := [(2, K), (2, K)]) (V := [K, K, K]) rfl rfl) hP
          have hD : va_D A (mW G h0 a (upd (upd (upd (upd (upd (upd (upd (upd (upd F 15 (nI fa707)) 16 pl708) 27 (nI nd)) 31 (nI wr)) 64 (nI ((at0 + 1) + 1))) 65 (nI (ne + 1))) 66 (nI lk)) 15 (nI fa707)) 64 (nI ((at0 + 1) + 1))) (updA (updA B 2 K) 2 K)) := mW_D hD
          refine pc_V0 (G := G) (As := [.int 41]) (rest := []) hx hb hml hown hq hE hX pX0_al hP hD hS hA hl.1 (R_take l G h0 a (upd (upd (upd (upd (upd (upd (upd F 15 (nI fa707)) 16 pl708) 27 (nI nd)) 31 (nI wr)) 64 (nI ((at0 + 1) + 1))) 65 (nI (ne + 1))) 66 (nI lk)) (updA B 2 K) ((at0 + 1) + 1) T fa707 K 41 (by omega) (by omega) hK (by omega) (by decide) (by decide)) (gV pw_1614 pw_1615 pw_1616 pw_1523 pw_1601) hV_X12_take 0 9 rfl rfl rfl rfl (Nat.le_of_ble_eq_true rfl) dX12_newHere_79 ⟨Nat.le_of_ble_eq_true rfl, Nat.le_of_ble_eq_true rfl⟩ ⟨(by show 4 + 1 ≤ (20 * n + 8); omega), (by show 8 + (2 + 11) + 103 ≤ (1000 * n + 40 * 8); omega)⟩ (fun v784 u782 H locs hw783 hP hD hS => ?_)
          obtain ⟨at785, fa786, pl787⟩ := u782
          obtain ⟨hw783, h788, h789, h790, h791, h792, h793, h794, h795⟩ := hw783
          have h788 : ((at0 + 1) + 1) ≤ at785 := h788
          have h789 : at785 ≤ T := h789
          have h790 : fa707 ≤ fa786 := h790
          have h791 : fa786 ≤ 100 := h791
          have h792 : If (0 < fa707) (at785 = ((at0 + 1) + 1) ∧ fa786 = fa707) := h792
          have h793 : at785 ≤ ((at0 + 1) + 1) + 1 := h793
          have h794 : ((at0 + 1) + 1) + 1 ≤ at785 + fa786 := h794
          have h795 : If (fa786 = 0) (K ((at0 + 1) + 1) = 41) := h795
          obtain rfl : v784 = none := hw783
          have hP : va_P G.1 pCl (mW G h0 a (upd (upd (upd (upd (upd (upd (upd F 15 (nI fa786)) 16 pl787) 27 (nI nd)) 31 (nI wr)) 64 (nI at785)) 65 (nI (ne + 1))) 66 (nI lk)) (updA B 2 K)) _ := mW_to (F := F) (l1 := [(15, (nI fa707)), (16, pl708), (27, (nI nd)), (31, (nI wr)), (64, (nI ((at0 + 1) + 1))), (65, (nI (ne + 1))), (66, (nI lk)), (15, (nI fa786)), (16, pl787), (64, (nI at785))]) (l2 := [(15, (nI fa786)), (16, pl787), (27, (nI nd)), (31, (nI wr)), (64, (nI at785)), (65, (nI (ne + 1))), (66, (nI lk))]) (V := [(nI fa786), pl787, (nI nd), (nI wr), (nI at785), (nI (ne + 1)), (nI lk), (nI fa786), pl787, (nI at785), (nI fa786), pl787, (nI nd), (nI wr), (nI at785), (nI (ne + 1)), (nI lk)]) rfl rfl (show (updA (updA B 2 K) 2 K) = (updA B 2 K) from updsA_eq2 (F := B) (l1 := [(2, K), (2, K)]) (l2 := [(2, K)]) (V := [K, K, K]) rfl rfl) hP
          have hD : va_D A (mW G h0 a (upd (upd (upd (upd (upd (upd (upd F 15 (nI fa786)) 16 pl787) 27 (nI nd)) 31 (nI wr)) 64 (nI at785)) 65 (nI (ne + 1))) 66 (nI lk)) (updA B 2 K)) := mW_D hD
          refine W.widen (k := 0) (n := 0) (Nat.le_of_ble_eq_true rfl) (Nat.le_of_ble_eq_true rfl) ?_
          refine W.eq (g2 := F0 m 82 ls []) rfl ?_
          obtain ⟨n797, n796⟩ := h792 e713
          replace n797 := n797.symm
          subst n797
          replace n796 := n796.symm
          subst n796
          refine lv_aload_n hx hb dX12_newHere_82 rfl (lv_at hl 1 rfl) ?_
          refine lv_dup hx hb dX12_newHere_83 rfl ?_
          refine r_get (v := .int (nI (ne + 1))) hx hb hown hq hE hP 65 366 tFX12_65 (by decide) pw_1612 rfl dX12_newHere_84 ?_
          refine lv_iconst (v := 1) hx hb dX12_newHere_87 (by decide) ?_
          refine lv_isub hx hb dX12_newHere_88 ?_
          refine lv_topi (fun x798 e799 => ?_)
          obtain rfl : x798 = nI ((ne + 1) - 1) := e799.trans (nI_subN (a := 1) (b := (ne + 1)) (by omega))
          refine r_put (v := (nI ((ne + 1) - 1))) (ty := .int) hx hb hown hq hE hP hD hS 65 366 tFX12_65 (by decide) pw_1612 (by decide) rfl rfl (ms_65 a _ _) dX12_newHere_89 (fun H locs hP hD hS => ?_)
          refine lv_aload_n hx hb dX12_newHere_92 rfl (lv_at hl 1 rfl) ?_
          refine lv_bipush (v := 9) hx hb dX12_newHere_93 (by decide) ?_
          refine lv_iload_n hx hb dX12_newHere_95 rfl (lv_at hl 2 rfl) ?_
          refine lv_iload_n hx hb dX12_newHere_96 rfl (lv_at hl 0 rfl) ?_
          refine lv_iconst (v := (-1)) hx hb dX12_newHere_97 (by decide) ?_
          refine lv_iconst (v := (-1)) hx hb dX12_newHere_98 (by decide) ?_
          have hP : va_P G.1 pCl (mW G h0 a (upd (upd (upd (upd (upd (upd (upd (upd F 15 (nI fa707)) 16 pl787) 27 (nI nd)) 31 (nI wr)) 64 (nI ((at0 + 1) + 1))) 65 (nI ((ne + 1) - 1))) 66 (nI lk)) 27 (nI nd)) (updA B 2 K)) _ := hP
          have hD : va_D A (mW G h0 a (upd (upd (upd (upd (upd (upd (upd (upd F 15 (nI fa707)) 16 pl787) 27 (nI nd)) 31 (nI wr)) 64 (nI ((at0 + 1) + 1))) 65 (nI ((ne + 1) - 1))) 66 (nI lk)) 27 (nI nd)) (updA B 2 K)) := mW_D hD
          refine pc_V0 (G := G) (As := [.int 9, .int (nI fi), .int (nI at0), .int (-1), .int (-1)]) (rest := []) hx hb hml hown hq hE hX pX0_al hP hD hS hA hl.1 (R_nodeB l G h0 a (upd (upd (upd (upd (upd (upd (upd F 15 (nI fa707)) 16 pl787) 27 (nI nd)) 31 (nI wr)) 64 (nI ((at0 + 1) + 1))) 65 (nI ((ne + 1) - 1))) 66 (nI lk)) B 9 (nI fi) (nI at0) (-1) (-1) nd K (by omega)) (gV pw_1650 pw_1651 pw_1652 pw_1523 pw_1589) hV_X12_node 0 9 rfl rfl rfl rfl (Nat.le_of_ble_eq_true rfl) dX12_newHere_99 ⟨Nat.le_of_ble_eq_true rfl, Nat.le_of_ble_eq_true rfl⟩ ⟨(by show 2 + 1 ≤ (20 * n + 8); omega), (by show 8 + (7 + 11) + 60 ≤ (1000 * n + 40 * 8); omega)⟩ (fun v802 u800 H locs hw801 hP hD hS => ?_)
          obtain ⟨X803, rfl⟩ : ∃ z, z = u800 := ⟨_, rfl⟩
          obtain ⟨hw801, h804⟩ := hw801
          have h804 : NewN B X803 nd 9 (nI fi) (nI at0) (-1) (-1) := h804
          obtain rfl : v802 = some (.int (nI nd)) := hw801
          have hP : va_P G.1 pCl (mW G h0 a (upd (upd (upd (upd (upd (upd (upd F 15 (nI fa707)) 16 pl787) 27 (nI (nd + 1))) 31 (nI wr)) 64 (nI ((at0 + 1) + 1))) 65 (nI ((ne + 1) - 1))) 66 (nI lk)) (updA X803 2 K)) _ := mW_to (F := F) (l1 := [(15, (nI fa707)), (16, pl787), (27, (nI nd)), (31, (nI wr)), (64, (nI ((at0 + 1) + 1))), (65, (nI ((ne + 1) - 1))), (66, (nI lk)), (27, (nI (nd + 1)))]) (l2 := [(15, (nI fa707)), (16, pl787), (27, (nI (nd + 1))), (31, (nI wr)), (64, (nI ((at0 + 1) + 1))), (65, (nI ((ne + 1) - 1))), (66, (nI lk))]) (V := [(nI fa707), pl787, (nI (nd + 1)), (nI wr), (nI ((at0 + 1) + 1)), (nI ((ne + 1) - 1)), (nI lk), (nI (nd + 1)), (nI fa707), pl787, (nI (nd + 1)), (nI wr), (nI ((at0 + 1) + 1)), (nI ((ne + 1) - 1)), (nI lk)]) rfl rfl rfl hP
          have hD : va_D A (mW G h0 a (upd (upd (upd (upd (upd (upd (upd F 15 (nI fa707)) 16 pl787) 27 (nI (nd + 1))) 31 (nI wr)) 64 (nI ((at0 + 1) + 1))) 65 (nI ((ne + 1) - 1))) 66 (nI lk)) (updA X803 2 K)) := mW_D hD
          refine W.widen (k := 0) (n := 0) (Nat.le_of_ble_eq_true rfl) (Nat.le_of_ble_eq_true rfl) ?_
          refine W.eq (g2 := F0 m 102 ls [.int (nI nd)]) rfl ?_
          have hkp805 : Kp B X803 wr T := (Kp.new hkp1 h804)
          have hz806 : at0 ≤ ((at0 + 1) + 1) := (by omega)
          have hz807 : ((at0 + 1) + 1) ≤ T := (by omega)
          have hz808 : fa707 ≤ 100 := (by omega)
          have hz809 : nd ≤ (nd + 1) := (by omega)
          have hz810 : (nd + 1) + 2 * at0 ≤ nd + 2 * ((at0 + 1) + 1) + 100000 * fa707 := (by omega)
          have hz811 : (nd + 1) + 2 * at0 ≤ nd + 2 * ((at0 + 1) + 1) + 40 * (21 - ne) := (by omega)
          have hz812 : wr ≤ wr := (by omega)
          have hz813 : wr + at0 ≤ wr + ((at0 + 1) + 1) := (by omega)
          have hz814 : lk ≤ lk := (by omega)
          have hz815 : lk ≤ 60 + 100 * fa707 := (by omega)
          have hz816 : at0 + 1 ≤ ((at0 + 1) + 1) + fa707 := (by omega)
          have hz817 : nd ≤ (nd + 1) := (by omega)
          have hz818 : Kp B X803 wr T := hkp805
          have hz819 : If (fa707 = 0) (Low B X803 nd wr ∧ Frs K T wr X803 nd (nd + 1) 20000 [(nd, (210 + lk - (10 * ne + lk)))] ∧ kcl 1 (X803 9 nd) = true) := (fun e => absurd e (by omega))
          have hP : va_P G.1 pCl (mW G h0 a (upd (upd (upd (upd (upd (upd (upd F 15 (nI fa707)) 16 pl787) 27 (nI (nd + 1))) 31 (nI wr)) 64 (nI ((at0 + 1) + 1))) 65 (nI ne)) 66 (nI lk)) (updA X803 2 K)) _ := mW_to (F := F) (l1 := [(15, (nI fa707)), (16, pl787), (27, (nI (nd + 1))), (31, (nI wr)), (64, (nI ((at0 + 1) + 1))), (65, (nI ((ne + 1) - 1))), (66, (nI lk))]) (l2 := [(15, (nI fa707)), (16, pl787), (27, (nI (nd + 1))), (31, (nI wr)), (64, (nI ((at0 + 1) + 1))), (65, (nI ne)), (66, (nI lk))]) (V := [(nI fa707), pl787, (nI (nd + 1)), (nI wr), (nI ((at0 + 1) + 1)), (nI ne), (nI lk), (nI fa707), pl787, (nI (nd + 1)), (nI wr), (nI ((at0 + 1) + 1)), (nI ne), (nI lk)]) rfl rfl rfl hP
          have hD : va_D A (mW G h0 a (upd (upd (upd (upd (upd (upd (upd F 15 (nI fa707)) 16 pl787) 27 (nI (nd + 1))) 31 (nI wr)) 64 (nI ((at0 + 1) + 1))) 65 (nI ne)) 66 (nI lk)) (updA X803 2 K)) := mW_D hD
          exact W.iret (v := (nI nd)) hx hb hr (fun t9 ht9 hW9 => ⟨⟨_, (((at0 + 1) + 1), fa707, pl787, (nd + 1), lk, wr, nd, X803), rfl, ⟨rfl, hz806, hz807, hz808, hz809, hz810, hz811, hz812, hz813, hz814, hz815, hz816, hz817, hz818, hz819⟩, by rw [ht9]; exact hP, hD⟩, hS.F ht9⟩) hS.2.2 dX12_newHere_102
  · have n820 : r7 = 0 := (nI_eq (a := r7) (b := 0) (by omega) (by omega)).mp c10
    refine lv_aload_n hx hb dX12_newHere_14 rfl (lv_at hl 0 rfl) ?_
    refine lv_iconst (v := 1) hx hb dX12_newHere_15 (by decide) ?_
    have hP : va_P G.1 pCl (mW G h0 a (upd (upd (upd (upd (upd (upd (upd (upd F 15 0) 27 (nI nd)) 31 (nI wr)) 64 (nI at0)) 65 (nI ne)) 66 (nI lk)) 15 (nI 0)) 64 (nI at0)) (updA (updA B 2 K) 2 K)) _ := mW_to (F := F) (l1 := [(15, 0), (27, (nI nd)), (31, (nI wr)), (64, (nI at0)), (65, (nI ne)), (66, (nI lk))]) (l2 := [(15, 0), (27, (nI nd)), (31, (nI wr)), (64, (nI at0)), (65, (nI ne)), (66, (nI lk)), (15, (nI 0)), (64, (nI at0))]) (V := [(nI 0), (nI nd), (nI wr), (nI at0), (nI ne), (nI lk), (nI 0), (nI nd), (nI wr), (nI at0), (nI ne), (nI lk), (nI 0), (nI at0)]) rfl rfl (show (updA B 2 K) = (updA (updA B 2 K) 2 K) from updsA_eq2 (F := B) (l1 := [(2, K)]) (l2 := [(2, K), (2, K)]) (V := [K, K, K]) rfl rfl) hP
    have hD : va_D A (mW G h0 a (upd (upd (upd (upd (upd (upd (upd (upd F 15 0) 27 (nI nd)) 31 (nI wr)) 64 (nI at0)) 65 (nI ne)) 66 (nI lk)) 15 (nI 0)) 64 (nI at0)) (updA (updA B 2 K) 2 K)) := mW_D hD
    refine pc_V0 (G := G) (As := [.int (nI 1)]) (rest := []) hx hb hml hown hq hE hX pX0_al hP hD hS hA hl.1 (R_bad l G h0 a (upd (upd (upd (upd (upd (upd F 15 0) 27 (nI nd)) 31 (nI wr)) 64 (nI at0)) 65 (nI ne)) 66 (nI lk)) (updA B 2 K) at0 T 0 K 1 (by omega) (by omega) hK (by omega) (by omega) (by omega)) (gV pw_1602 pw_1603 pw_1604 pw_1523 pw_1596) hV_X12_bad 0 9 rfl rfl rfl rfl (Nat.le_of_ble_eq_true rfl) dX12_newHere_16 ⟨Nat.le_of_ble_eq_true rfl, Nat.le_of_ble_eq_true rfl⟩ ⟨(by show 3 + 1 ≤ (20 * n + 8); omega), (by show 8 + (2 + 11) + 82 ≤ (1000 * n + 40 * 8); omega)⟩ (fun v823 u821 H locs hw822 hP hD hS => ?_)
    obtain ⟨fa824, pl825⟩ := u821
    obtain ⟨hw822, h826, h827, h828, h829⟩ := hw822
    have h826 : 0 ≤ fa824 := h826
    have h827 : fa824 ≤ 0 + 1 := h827
    have h828 : 0 < fa824 := h828
    have h829 : If (0 < 0) (fa824 = 0) := h829
    obtain rfl : v823 = none := hw822
    have hP : va_P G.1 pCl (mW G h0 a (upd (upd (upd (upd (upd (upd (upd F 15 (nI fa824)) 16 pl825) 27 (nI nd)) 31 (nI wr)) 64 (nI at0)) 65 (nI ne)) 66 (nI lk)) (updA B 2 K)) _ := mW_to (F := F) (l1 := [(15, 0), (27, (nI nd)), (31, (nI wr)), (64, (nI at0)), (65, (nI ne)), (66, (nI lk)), (15, (nI fa824)), (16, pl825), (64, (nI at0))]) (l2 := [(15, (nI fa824)), (16, pl825), (27, (nI nd)), (31, (nI wr)), (64, (nI at0)), (65, (nI ne)), (66, (nI lk))]) (V := [(nI fa824), (nI nd), (nI wr), (nI at0), (nI ne), (nI lk), (nI fa824), pl825, (nI at0), (nI fa824), pl825, (nI nd), (nI wr), (nI at0), (nI ne), (nI lk)]) rfl rfl (show (updA (updA B 2 K) 2 K) = (updA B 2 K) from updsA_eq2 (F := B) (l1 := [(2, K), (2, K)]) (l2 := [(2, K)]) (V := [K, K, K]) rfl rfl) hP
    have hD : va_D A (mW G h0 a (upd (upd (upd (upd (upd (upd (upd F 15 (nI fa824)) 16 pl825) 27 (nI nd)) 31 (nI wr)) 64 (nI at0)) 65 (nI ne)) 66 (nI lk)) (updA B 2 K)) := mW_D hD
    refine W.widen (k := 0) (n := 0) (Nat.le_of_ble_eq_true rfl) (Nat.le_of_ble_eq_true rfl) ?_
    refine W.eq (g2 := F0 m 19 ls []) rfl ?_
    refine lv_aload_n hx hb dX12_newHere_19 rfl (lv_at hl 0 rfl) ?_
    refine r_get (v := .int (nI fa824)) hx hb hown hq hE hP 15 350 tFX12_15 (by decide) pw_1594 rfl dX12_newHere_20 ?_
    refine lv_if_le (tgt := 28) hx hb dX12_newHere_23 (by decide) (fun c830 => (by have n831 : fa824 ≤ 0 := (nI_leI (a := fa824) (b := 0) (by omega) (by omega)).mp c830; omega)) (fun c830 => ?_)
    refine lv_iconst (v := 0) hx hb dX12_newHere_26 (by decide) ?_
    have hz832 : at0 ≤ at0 := (by omega)
    have hz833 : at0 ≤ T := (by omega)
    have hz834 : fa824 ≤ 100 := (by omega)
    have hz835 : nd ≤ nd := (by omega)
    have hz836 : nd + 2 * at0 ≤ nd + 2 * at0 + 100000 * fa824 := (by omega)
    have hz837 : nd + 2 * at0 ≤ nd + 2 * at0 + 40 * (21 - ne) := (by omega)
    have hz838 : wr ≤ wr := (by omega)
    have hz839 : wr + at0 ≤ wr + at0 := (by omega)
    have hz840 : lk ≤ lk := (by omega)
    have hz841 : lk ≤ 60 + 100 * fa824 := (by omega)
    have hz842 : at0 + 1 ≤ at0 + fa824 := (by omega)
    have hz843 : 0 ≤ nd := (by omega)
    have hz844 : Kp B B wr T := hkp1
    have hz845 : If (fa824 = 0) (Low B B nd wr ∧ Frs K T wr B nd nd 20000 [(0, (210 + lk - (10 * ne + lk)))] ∧ kcl 1 (B 9 0) = true) := (fun e => absurd e (by omega))
    have hP : va_P G.1 pCl (mW G h0 a (upd (upd (upd (upd (upd (upd (upd F 15 (nI fa824)) 16 pl825) 27 (nI nd)) 31 (nI wr)) 64 (nI at0)) 65 (nI ne)) 66 (nI lk)) (updA B 2 K)) _ := hP
    have hD : va_D A (mW G h0 a (upd (upd (upd (upd (upd (upd (upd F 15 (nI fa824)) 16 pl825) 27 (nI nd)) 31 (nI wr)) 64 (nI at0)) 65 (nI ne)) 66 (nI lk)) (updA B 2 K)) := mW_D hD
    exact W.iret (v := 0) hx hb hr (fun t9 ht9 hW9 => ⟨⟨_, (at0, fa824, pl825, nd, lk, wr, 0, B), rfl, ⟨rfl, hz832, hz833, hz834, hz835, hz836, hz837, hz838, hz839, hz840, hz841, hz842, hz843, hz844, hz845⟩, by rw [ht9]; exact hP, hD⟩, hS.F ht9⟩) hS.2.2 dX12_newHere_27

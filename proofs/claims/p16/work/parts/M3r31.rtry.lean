theorem dX12_attempt_0 : decode cX12_attempt 0 = .ok (.aload_n 0, 1) := by decide +kernel
theorem dX12_attempt_1 : decode cX12_attempt 1 = .ok (.bipush 41, 2) := by decide +kernel
theorem dX12_attempt_3 : decode cX12_attempt 3 = .ok (.aload_n 0, 1) := by decide +kernel
theorem dX12_attempt_4 : decode cX12_attempt 4 = .ok (.getfield 343, 3) := by decide +kernel
theorem dX12_attempt_7 : decode cX12_attempt 7 = .ok (.aload_n 0, 1) := by decide +kernel
theorem dX12_attempt_8 : decode cX12_attempt 8 = .ok (.getfield 343, 3) := by decide +kernel
theorem dX12_attempt_11 : decode cX12_attempt 11 = .ok (.iconst (-1), 1) := by decide +kernel
theorem dX12_attempt_12 : decode cX12_attempt 12 = .ok (.iconst (-1), 1) := by decide +kernel
theorem dX12_attempt_13 : decode cX12_attempt 13 = .ok (.invokevirtual 428, 3) := by decide +kernel
theorem dX12_attempt_16 : decode cX12_attempt 16 = .ok (.istore_n 1, 1) := by decide +kernel
theorem dX12_attempt_17 : decode cX12_attempt 17 = .ok (.aload_n 0, 1) := by decide +kernel
theorem dX12_attempt_18 : decode cX12_attempt 18 = .ok (.dup, 1) := by decide +kernel
theorem dX12_attempt_19 : decode cX12_attempt 19 = .ok (.getfield 343, 3) := by decide +kernel
theorem dX12_attempt_22 : decode cX12_attempt 22 = .ok (.iconst 1, 1) := by decide +kernel
theorem dX12_attempt_23 : decode cX12_attempt 23 = .ok (.iadd, 1) := by decide +kernel
theorem dX12_attempt_24 : decode cX12_attempt 24 = .ok (.putfield 343, 3) := by decide +kernel
theorem dX12_attempt_27 : decode cX12_attempt 27 = .ok (.aload_n 0, 1) := by decide +kernel
theorem dX12_attempt_28 : decode cX12_attempt 28 = .ok (.getfield 47, 3) := by decide +kernel
theorem dX12_attempt_31 : decode cX12_attempt 31 = .ok (.iload_n 1, 1) := by decide +kernel
theorem dX12_attempt_32 : decode cX12_attempt 32 = .ok (.aload_n 0, 1) := by decide +kernel
theorem dX12_attempt_33 : decode cX12_attempt 33 = .ok (.invokevirtual 425, 3) := by decide +kernel
theorem dX12_attempt_36 : decode cX12_attempt 36 = .ok (.iastore, 1) := by decide +kernel
theorem dX12_attempt_37 : decode cX12_attempt 37 = .ok (.aload_n 0, 1) := by decide +kernel
theorem dX12_attempt_38 : decode cX12_attempt 38 = .ok (.getfield 350, 3) := by decide +kernel
theorem dX12_attempt_41 : decode cX12_attempt 41 = .ok (.ifCond .ne 28, 3) := by decide +kernel
theorem dX12_attempt_44 : decode cX12_attempt 44 = .ok (.aload_n 0, 1) := by decide +kernel
theorem dX12_attempt_45 : decode cX12_attempt 45 = .ok (.invokevirtual 381, 3) := by decide +kernel
theorem dX12_attempt_48 : decode cX12_attempt 48 = .ok (.sipush 313, 3) := by decide +kernel
theorem dX12_attempt_51 : decode cX12_attempt 51 = .ok (.if_icmp .eq 18, 3) := by decide +kernel
theorem dX12_attempt_167 : decode cX12_attempt 167 = .ok (.aload_n 0, 1) := by decide +kernel
theorem dX12_attempt_168 : decode cX12_attempt 168 = .ok (.sipush 319, 3) := by decide +kernel
theorem dX12_attempt_171 : decode cX12_attempt 171 = .ok (.invokevirtual 378, 3) := by decide +kernel
theorem dX12_attempt_174 : decode cX12_attempt 174 = .ok (.ifCond .eq 13, 3) := by decide +kernel
theorem dX12_attempt_187 : decode cX12_attempt 187 = .ok (.iload_n 1, 1) := by decide +kernel
theorem dX12_attempt_188 : decode cX12_attempt 188 = .ok (.ireturn, 1) := by decide +kernel
theorem dX12_attempt_177 : decode cX12_attempt 177 = .ok (.aload_n 0, 1) := by decide +kernel
theorem dX12_attempt_178 : decode cX12_attempt 178 = .ok (.getfield 53, 3) := by decide +kernel
theorem dX12_attempt_181 : decode cX12_attempt 181 = .ok (.iload_n 1, 1) := by decide +kernel
theorem dX12_attempt_182 : decode cX12_attempt 182 = .ok (.aload_n 0, 1) := by decide +kernel
theorem dX12_attempt_183 : decode cX12_attempt 183 = .ok (.invokevirtual 425, 3) := by decide +kernel
theorem dX12_attempt_186 : decode cX12_attempt 186 = .ok (.iastore, 1) := by decide +kernel
theorem dX12_attempt_69 : decode cX12_attempt 69 = .ok (.iconst (-1), 1) := by decide +kernel
theorem dX12_attempt_70 : decode cX12_attempt 70 = .ok (.istore_n 2, 1) := by decide +kernel
theorem dX12_attempt_71 : decode cX12_attempt 71 = .ok (.aload_n 0, 1) := by decide +kernel
theorem dX12_attempt_72 : decode cX12_attempt 72 = .ok (.sipush 313, 3) := by decide +kernel
theorem dX12_attempt_75 : decode cX12_attempt 75 = .ok (.invokevirtual 378, 3) := by decide +kernel
theorem dX12_attempt_78 : decode cX12_attempt 78 = .ok (.ifCond .eq 89, 3) := by decide +kernel
theorem dX12_attempt_81 : decode cX12_attempt 81 = .ok (.aload_n 0, 1) := by decide +kernel
theorem dX12_attempt_82 : decode cX12_attempt 82 = .ok (.getfield 343, 3) := by decide +kernel
theorem dX12_attempt_85 : decode cX12_attempt 85 = .ok (.iconst 1, 1) := by decide +kernel
theorem dX12_attempt_86 : decode cX12_attempt 86 = .ok (.isub, 1) := by decide +kernel
theorem dX12_attempt_87 : decode cX12_attempt 87 = .ok (.istore_n 3, 1) := by decide +kernel
theorem dX12_attempt_88 : decode cX12_attempt 88 = .ok (.aload_n 0, 1) := by decide +kernel
theorem dX12_attempt_89 : decode cX12_attempt 89 = .ok (.bipush 40, 2) := by decide +kernel
theorem dX12_attempt_91 : decode cX12_attempt 91 = .ok (.invokevirtual 369, 3) := by decide +kernel
theorem dX12_attempt_94 : decode cX12_attempt 94 = .ok (.aload_n 0, 1) := by decide +kernel
theorem dX12_attempt_95 : decode cX12_attempt 95 = .ok (.invokevirtual 375, 3) := by decide +kernel
theorem dX12_attempt_98 : decode cX12_attempt 98 = .ok (.istore 4, 2) := by decide +kernel
theorem dX12_attempt_100 : decode cX12_attempt 100 = .ok (.aload_n 0, 1) := by decide +kernel
theorem dX12_attempt_101 : decode cX12_attempt 101 = .ok (.invokevirtual 375, 3) := by decide +kernel
theorem dX12_attempt_104 : decode cX12_attempt 104 = .ok (.istore 5, 2) := by decide +kernel
theorem dX12_attempt_106 : decode cX12_attempt 106 = .ok (.aload_n 0, 1) := by decide +kernel
theorem dX12_attempt_107 : decode cX12_attempt 107 = .ok (.bipush 41, 2) := by decide +kernel
theorem dX12_attempt_109 : decode cX12_attempt 109 = .ok (.invokevirtual 369, 3) := by decide +kernel
theorem dX12_attempt_112 : decode cX12_attempt 112 = .ok (.aload_n 0, 1) := by decide +kernel
theorem dX12_attempt_113 : decode cX12_attempt 113 = .ok (.bipush 44, 2) := by decide +kernel
theorem dX12_attempt_115 : decode cX12_attempt 115 = .ok (.iload_n 3, 1) := by decide +kernel
theorem dX12_attempt_116 : decode cX12_attempt 116 = .ok (.iload 5, 2) := by decide +kernel
theorem dX12_attempt_118 : decode cX12_attempt 118 = .ok (.iload 4, 2) := by decide +kernel
theorem dX12_attempt_120 : decode cX12_attempt 120 = .ok (.iconst (-1), 1) := by decide +kernel
theorem dX12_attempt_121 : decode cX12_attempt 121 = .ok (.invokevirtual 428, 3) := by decide +kernel
theorem dX12_attempt_124 : decode cX12_attempt 124 = .ok (.istore 6, 2) := by decide +kernel
theorem dX12_attempt_126 : decode cX12_attempt 126 = .ok (.aload_n 0, 1) := by decide +kernel
theorem dX12_attempt_127 : decode cX12_attempt 127 = .ok (.getfield 50, 3) := by decide +kernel
theorem dX12_attempt_130 : decode cX12_attempt 130 = .ok (.iload 6, 2) := by decide +kernel
theorem dX12_attempt_132 : decode cX12_attempt 132 = .ok (.aload_n 0, 1) := by decide +kernel
theorem dX12_attempt_133 : decode cX12_attempt 133 = .ok (.invokevirtual 425, 3) := by decide +kernel
theorem dX12_attempt_136 : decode cX12_attempt 136 = .ok (.iastore, 1) := by decide +kernel
theorem dX12_attempt_137 : decode cX12_attempt 137 = .ok (.iload_n 2, 1) := by decide +kernel
theorem dX12_attempt_138 : decode cX12_attempt 138 = .ok (.iconst (-1), 1) := by decide +kernel
theorem dX12_attempt_139 : decode cX12_attempt 139 = .ok (.if_icmp .ne 14, 3) := by decide +kernel
theorem dX12_attempt_142 : decode cX12_attempt 142 = .ok (.aload_n 0, 1) := by decide +kernel
theorem dX12_attempt_143 : decode cX12_attempt 143 = .ok (.getfield 50, 3) := by decide +kernel
theorem dX12_attempt_146 : decode cX12_attempt 146 = .ok (.iload_n 1, 1) := by decide +kernel
theorem dX12_attempt_147 : decode cX12_attempt 147 = .ok (.iload 6, 2) := by decide +kernel
theorem dX12_attempt_149 : decode cX12_attempt 149 = .ok (.iastore, 1) := by decide +kernel
theorem dX12_attempt_150 : decode cX12_attempt 150 = .ok (.goto 11, 3) := by decide +kernel
theorem dX12_attempt_161 : decode cX12_attempt 161 = .ok (.iload 6, 2) := by decide +kernel
theorem dX12_attempt_163 : decode cX12_attempt 163 = .ok (.istore_n 2, 1) := by decide +kernel
theorem dX12_attempt_164 : decode cX12_attempt 164 = .ok (.goto (-93), 3) := by decide +kernel
theorem dX12_attempt_153 : decode cX12_attempt 153 = .ok (.aload_n 0, 1) := by decide +kernel
theorem dX12_attempt_154 : decode cX12_attempt 154 = .ok (.getfield 59, 3) := by decide +kernel
theorem dX12_attempt_157 : decode cX12_attempt 157 = .ok (.iload_n 2, 1) := by decide +kernel
theorem dX12_attempt_158 : decode cX12_attempt 158 = .ok (.iload 6, 2) := by decide +kernel
theorem dX12_attempt_160 : decode cX12_attempt 160 = .ok (.iastore, 1) := by decide +kernel
theorem dX12_attempt_54 : decode cX12_attempt 54 = .ok (.aload_n 0, 1) := by decide +kernel
theorem dX12_attempt_55 : decode cX12_attempt 55 = .ok (.invokevirtual 381, 3) := by decide +kernel
theorem dX12_attempt_58 : decode cX12_attempt 58 = .ok (.sipush 319, 3) := by decide +kernel
theorem dX12_attempt_61 : decode cX12_attempt 61 = .ok (.if_icmp .eq 8, 3) := by decide +kernel
theorem dX12_attempt_64 : decode cX12_attempt 64 = .ok (.aload_n 0, 1) := by decide +kernel
theorem dX12_attempt_65 : decode cX12_attempt 65 = .ok (.iconst 1, 1) := by decide +kernel
theorem dX12_attempt_66 : decode cX12_attempt 66 = .ok (.invokevirtual 356, 3) := by decide +kernel
set_option maxHeartbeats 8000000 in
set_option maxRecDepth 100000 in
/-- attempt(), no fault ahead -/
theorem RT_attempt (l : Launch) (G : pT) (h0 : Nat) (a : Nat → Nat) (F : Nat → Int32) (B : Nat → Nat → Int32) (at0 : Nat) (T : Nat) (n : Nat) (ne : Nat) (nd : Nat) (wr : Nat) (lk : Nat) (K : Nat → Int32) (hat : at0 ≤ T) (hT : T ≤ 5000) (hK : K T = 0 ∨ K T = 3) (hne : ne ≤ 20) (hnd : nd ≤ 2 * at0) (hwr : wr ≤ at0) (hlk : lk ≤ 60) (hy : tkRow (B 19) wr T) (hn : 21 ≤ n + ne) (hlt : at0 + 1 ≤ T) (hBk : Pblock l G n) : PM l G pX0 yX12_attempt cX12_attempt 7 (some .int) ({ frames := (26 * n + 43), cells := 0, slots := 0, locals := (2000 * n + 4300) }) [.ref h0] (mW G h0 a (upd (upd (upd (upd (upd (upd F 15 0) 27 (nI nd)) 31 (nI wr)) 64 (nI at0)) 65 (nI ne)) 66 (nI lk)) (updA B 2 K)) (fun (v : Option Value) (u : Nat × Nat × Int32 × Nat × Nat × Nat × Nat × (Nat → Nat → Int32)) => v = some (.int (nI u.2.2.2.2.2.2.1)) ∧ (at0 ≤ u.1) ∧ (u.1 ≤ T) ∧ (u.2.1 ≤ 100) ∧ (nd ≤ u.2.2.2.1) ∧ (u.2.2.2.1 + 2 * at0 ≤ nd + 2 * u.1 + 100000 * u.2.1) ∧ (u.2.2.2.1 + 2 * at0 ≤ nd + 2 * u.1 + (60 * (21 - ne) + 40)) ∧ (wr ≤ u.2.2.2.2.2.1) ∧ (u.2.2.2.2.2.1 + at0 ≤ wr + u.1) ∧ (lk ≤ u.2.2.2.2.1) ∧ (u.2.2.2.2.1 ≤ 60 + 100 * u.2.1) ∧ (at0 + 1 ≤ u.1 + u.2.1) ∧ (u.2.2.2.2.2.2.1 ≤ u.2.2.2.1) ∧ (Kp B u.2.2.2.2.2.2.2 u.2.2.2.2.2.1 T) ∧ (If (u.2.1 = 0) (Low B u.2.2.2.2.2.2.2 nd wr ∧ Frs K T u.2.2.2.2.2.1 u.2.2.2.2.2.2.2 nd u.2.2.2.1 20000 [(u.2.2.2.2.2.2.1, (280 + 4 * (21 - ne)))] ∧ kcl 3 (u.2.2.2.2.2.2.2 9 u.2.2.2.2.2.2.1) = true))) (fun u => (mW G h0 a (upd (upd (upd (upd (upd (upd (upd F 15 (nI u.2.1)) 16 u.2.2.1) 27 (nI u.2.2.2.1)) 31 (nI u.2.2.2.2.2.1)) 64 (nI u.1)) 65 (nI ne)) 66 (nI u.2.2.2.2.1)) (updA u.2.2.2.2.2.2.2 2 K))) := by
  intro sz
  refine Met.ofW (cc := cX12_attempt) (maxL := 7) (ret := (some .int)) (by decide) rfl ?_
  intro p e s m args below meth c s₁ B9 hml hv
  obtain ⟨rfl, hsz, hP, hD0, hE, hX⟩ := hv
  have hx := B9.exec
  have hb := B9.bytes
  have hr := B9.returns
  have hts := atoms_spec (ws := Cond.code yX12_attempt cX12_attempt 7 (some .int) :: pw) B9.pre
  have hq : ∀ w ∈ pw, w.before _ s = true := fun w h => hts w (List.mem_cons_of_mem _ h)
  have hown : s.vm.findClass RX12 = some m.cls := findClass_of_methodNamed B9.named
  have hlocks := B9.notSynchronized
  subst hsz
  have hD := hD0.self (sz := s.heap.size)
  have hA : ∀ q : Nat, s.heap.size ≤ q → va_A (mW G h0 a (upd (upd (upd (upd (upd (upd F 15 0) 27 (nI nd)) 31 (nI wr)) 64 (nI at0)) 65 (nI ne)) 66 (nI lk)) (updA B 2 K)) s.heap.size q := fun q h => Or.inr h
  have hP : va_P G.1 pCl (mW G h0 a (upd (upd (upd (upd (upd (upd F 15 0) 27 (nI nd)) 31 (nI wr)) 64 (nI at0)) 65 (nI ne)) 66 (nI lk)) (updA B 2 K)) s.heap := hP
  generalize va_A (mW G h0 a (upd (upd (upd (upd (upd (upd F 15 0) 27 (nI nd)) 31 (nI wr)) 64 (nI at0)) 65 (nI ne)) 66 (nI lk)) (updA B 2 K)) s.heap.size = A at hD hE hA ⊢
  have hS : va_S A s.heap s.heap [] := va_S.rf
  have hl := lv_entry ([.ref h0]) (n := 7) (Nat.le_of_ble_eq_true rfl)
  rw [lg_entry_eq]
  generalize (lg_sl ([.ref h0]) ++ List.replicate (7 - (lg_sl ([.ref h0])).length) Slot.unset).toArray = ls at hl ⊢
  have hl : lv_has ls 7 [(0, .ref h0)] := hl
  have hkp1 : Kp B B wr T := Kp.rfl hy
  have hlo2 : Low B B nd wr := Low.rfl
  refine lv_aload_n hx hb dX12_attempt_0 rfl (lv_at hl 0 rfl) ?_
  refine lv_bipush (v := 41) hx hb dX12_attempt_1 (by decide) ?_
  refine lv_aload_n hx hb dX12_attempt_3 rfl (lv_at hl 0 rfl) ?_
  refine r_get (v := .int (nI at0)) hx hb hown hq hE hP 64 343 tFX12_64 (by decide) pw_1592 rfl dX12_attempt_4 ?_
  refine lv_aload_n hx hb dX12_attempt_7 rfl (lv_at hl 0 rfl) ?_
  refine r_get (v := .int (nI at0)) hx hb hown hq hE hP 64 343 tFX12_64 (by decide) pw_1592 rfl dX12_attempt_8 ?_
  refine lv_iconst (v := (-1)) hx hb dX12_attempt_11 (by decide) ?_
  refine lv_iconst (v := (-1)) hx hb dX12_attempt_12 (by decide) ?_
  have hP : va_P G.1 pCl (mW G h0 a (upd (upd (upd (upd (upd (upd (upd F 15 0) 27 (nI nd)) 31 (nI wr)) 64 (nI at0)) 65 (nI ne)) 66 (nI lk)) 27 (nI nd)) (updA B 2 K)) _ := mW_to (F := F) (l1 := [(15, 0), (27, (nI nd)), (31, (nI wr)), (64, (nI at0)), (65, (nI ne)), (66, (nI lk))]) (l2 := [(15, 0), (27, (nI nd)), (31, (nI wr)), (64, (nI at0)), (65, (nI ne)), (66, (nI lk)), (27, (nI nd))]) (V := [0, (nI nd), (nI wr), (nI at0), (nI ne), (nI lk), 0, (nI nd), (nI wr), (nI at0), (nI ne), (nI lk), (nI nd)]) rfl rfl rfl hP
  have hD : va_D A (mW G h0 a (upd (upd (upd (upd (upd (upd (upd F 15 0) 27 (nI nd)) 31 (nI wr)) 64 (nI at0)) 65 (nI ne)) 66 (nI lk)) 27 (nI nd)) (updA B 2 K)) := mW_D hD
  refine pc_V0 (G := G) (As := [.int 41, .int (nI at0), .int (nI at0), .int (-1), .int (-1)]) (rest := []) hx hb hml hown hq hE hX pX0_al hP hD hS hA hl.1 (R_nodeB l G h0 a (upd (upd (upd (upd (upd (upd F 15 0) 27 (nI nd)) 31 (nI wr)) 64 (nI at0)) 65 (nI ne)) 66 (nI lk)) B 41 (nI at0) (nI at0) (-1) (-1) nd K (by omega)) (gV pw_1650 pw_1651 pw_1652 pw_1523 pw_1589) hV_X12_node 0 9 rfl rfl rfl rfl (Nat.le_of_ble_eq_true rfl) dX12_attempt_13 ⟨Nat.le_of_ble_eq_true rfl, Nat.le_of_ble_eq_true rfl⟩ ⟨(by show 2 + 1 ≤ (26 * n + 43); omega), (by show 8 + (7 + 11) + 60 ≤ (2000 * n + 4300); omega)⟩ (fun v5 u3 H locs hw4 hP hD hS => ?_)
  obtain ⟨X6, rfl⟩ : ∃ z, z = u3 := ⟨_, rfl⟩
  obtain ⟨hw4, h7⟩ := hw4
  have h7 : NewN B X6 nd 41 (nI at0) (nI at0) (-1) (-1) := h7
  obtain rfl : v5 = some (.int (nI nd)) := hw4
  have hP : va_P G.1 pCl (mW G h0 a (upd (upd (upd (upd (upd (upd F 15 0) 27 (nI (nd + 1))) 31 (nI wr)) 64 (nI at0)) 65 (nI ne)) 66 (nI lk)) (updA X6 2 K)) _ := mW_to (F := F) (l1 := [(15, 0), (27, (nI nd)), (31, (nI wr)), (64, (nI at0)), (65, (nI ne)), (66, (nI lk)), (27, (nI (nd + 1)))]) (l2 := [(15, 0), (27, (nI (nd + 1))), (31, (nI wr)), (64, (nI at0)), (65, (nI ne)), (66, (nI lk))]) (V := [0, (nI (nd + 1)), (nI wr), (nI at0), (nI ne), (nI lk), (nI (nd + 1)), 0, (nI (nd + 1)), (nI wr), (nI at0), (nI ne), (nI lk)]) rfl rfl rfl hP
  have hD : va_D A (mW G h0 a (upd (upd (upd (upd (upd (upd F 15 0) 27 (nI (nd + 1))) 31 (nI wr)) 64 (nI at0)) 65 (nI ne)) 66 (nI lk)) (updA X6 2 K)) := mW_D hD
  refine W.widen (k := 0) (n := 0) (Nat.le_of_ble_eq_true rfl) (Nat.le_of_ble_eq_true rfl) ?_
  refine W.eq (g2 := F0 m 16 ls [.int (nI nd)]) rfl ?_
  have hkp8 : Kp B X6 wr T := (Kp.new hkp1 h7)
  have hlo9 : Low B X6 nd wr := (Low.new hlo2 h7 (by omega))
  have hf10 : Frs K T wr X6 nd (nd + 1) nd [(nd, 0)] := (Frs.new0 (k := 41) Frs.nil (Nat.le_refl _) (Nat.le_refl _) h7 rfl (by decide) (by decide) (by omega) (by omega) (fun e => absurd e (by decide)) (newOK.m1 (by decide)) (newOK.m1 (by decide)) (newOK.m1 (by decide)) (newOK.m1 (by decide)))
  have hn11 : Nd X6 nd 41 (-1) (-1) (-1) (-1) := (NewN.toNd h7)
  refine lv_istore_n (lv' := [(1, .int (nI nd)), (0, .ref h0)]) hx hb dX12_attempt_16 rfl hl (by decide) rfl (fun ls hl => ?_)
  refine lv_aload_n hx hb dX12_attempt_17 rfl (lv_at hl 1 rfl) ?_
  refine lv_dup hx hb dX12_attempt_18 rfl ?_
  refine r_get (v := .int (nI at0)) hx hb hown hq hE hP 64 343 tFX12_64 (by decide) pw_1592 rfl dX12_attempt_19 ?_
  refine lv_iconst (v := 1) hx hb dX12_attempt_22 (by decide) ?_
  refine lv_iadd hx hb dX12_attempt_23 ?_
  refine lv_topi (fun x12 e13 => ?_)
  obtain rfl : x12 = nI (at0 + 1) := e13.trans (nI_add (at0) (1))
  refine r_put (v := (nI (at0 + 1))) (ty := .int) hx hb hown hq hE hP hD hS 64 343 tFX12_64 (by decide) pw_1592 (by decide) rfl rfl (ms_64 a _ _) dX12_attempt_24 (fun H locs hP hD hS => ?_)
  refine lv_aload_n hx hb dX12_attempt_27 rfl (lv_at hl 1 rfl) ?_
  refine r_get (v := .ref (a 12)) hx hb hown hq hE hP 20 47 tFX12_20 (by decide) pw_1442 rfl dX12_attempt_28 ?_
  refine lv_iload_n hx hb dX12_attempt_31 rfl (lv_at hl 0 rfl) ?_
  refine lv_aload_n hx hb dX12_attempt_32 rfl (lv_at hl 1 rfl) ?_
  have hP : va_P G.1 pCl (mW G h0 a (upd (upd (upd (upd (upd (upd (upd (upd (upd (upd (upd (upd F 15 0) 27 (nI (nd + 1))) 31 (nI wr)) 64 (nI (at0 + 1))) 65 (nI ne)) 66 (nI lk)) 15 0) 27 (nI (nd + 1))) 31 (nI wr)) 64 (nI (at0 + 1))) 65 (nI ne)) 66 (nI lk)) (updA X6 2 K)) _ := mW_to (F := F) (l1 := [(15, 0), (27, (nI (nd + 1))), (31, (nI wr)), (64, (nI at0)), (65, (nI ne)), (66, (nI lk)), (64, (nI (at0 + 1)))]) (l2 := [(15, 0), (27, (nI (nd + 1))), (31, (nI wr)), (64, (nI (at0 + 1))), (65, (nI ne)), (66, (nI lk)), (15, 0), (27, (nI (nd + 1))), (31, (nI wr)), (64, (nI (at0 + 1))), (65, (nI ne)), (66, (nI lk))]) (V := [0, (nI (nd + 1)), (nI wr), (nI (at0 + 1)), (nI ne), (nI lk), (nI (at0 + 1)), 0, (nI (nd + 1)), (nI wr), (nI (at0 + 1)), (nI ne), (nI lk), 0, (nI (nd + 1)), (nI wr), (nI (at0 + 1)), (nI ne), (nI lk)]) rfl rfl rfl hP
  have hD : va_D A (mW G h0 a (upd (upd (upd (upd (upd (upd (upd (upd (upd (upd (upd (upd F 15 0) 27 (nI (nd + 1))) 31 (nI wr)) 64 (nI (at0 + 1))) 65 (nI ne)) 66 (nI lk)) 15 0) 27 (nI (nd + 1))) 31 (nI wr)) 64 (nI (at0 + 1))) 65 (nI ne)) 66 (nI lk)) (updA X6 2 K)) := mW_D hD
  refine pc_V0 (G := G) (As := []) (rest := [.int (nI nd), .ref (a 12)]) hx hb hml hown hq hE hX pX0_al hP hD hS hA hl.1 (hBk h0 a (upd (upd (upd (upd (upd (upd F 15 0) 27 (nI (nd + 1))) 31 (nI wr)) 64 (nI (at0 + 1))) 65 (nI ne)) 66 (nI lk)) X6 (at0 + 1) T ne (nd + 1) wr lk K (by omega) (by omega) hK (by omega) (by omega) (by omega) (by omega) (hkp8).2 (by omega)) (gV pw_1685 pw_1686 pw_1687 pw_1523 pw_1688) hV_X12_block 0 9 rfl rfl rfl rfl (Nat.le_of_ble_eq_true rfl) dX12_attempt_33 ⟨Nat.le_of_ble_eq_true rfl, Nat.le_of_ble_eq_true rfl⟩ ⟨(by show (26 * n + 42) + 1 ≤ (26 * n + 43); omega), (by show 8 + (4 + 11) + (2000 * n + 4200) ≤ (2000 * n + 4300); omega)⟩ (fun v16 u14 H locs hw15 hP hD hS => ?_)
  obtain ⟨at17, fa18, pl19, nd20, lk21, wr22, r23, X24⟩ := u14
  obtain ⟨hw15, h25, h26, h27, h28, h29, h30, h31, h32, h33, h34, h35, h36, h37, h38⟩ := hw15
  have h25 : (at0 + 1) ≤ at17 := h25
  have h26 : at17 ≤ T := h26
  have h27 : fa18 ≤ 100 := h27
  have h28 : (nd + 1) ≤ nd20 := h28
  have h29 : nd20 + 2 * (at0 + 1) ≤ (nd + 1) + 2 * at17 + 100000 * fa18 := h29
  have h30 : nd20 + 2 * (at0 + 1) ≤ (nd + 1) + 2 * at17 + (60 * (20 - ne) + 50) := h30
  have h31 : wr ≤ wr22 := h31
  have h32 : wr22 + (at0 + 1) ≤ wr + at17 := h32
  have h33 : lk ≤ lk21 := h33
  have h34 : lk21 ≤ lk := h34
  have h35 : (at0 + 1) + 1 ≤ at17 + fa18 := h35
  have h36 : r23 ≤ nd20 := h36
  have h37 : Kp X6 X24 wr22 T := h37
  have h38 : If (fa18 = 0) (Low X6 X24 (nd + 1) wr ∧ Frs K T wr22 X24 (nd + 1) nd20 20000 [(r23, (281 + 4 * (20 - ne)))] ∧ kcl 10 (X24 9 r23) = true) := h38
  obtain rfl : v16 = some (.int (nI r23)) := hw15
  have hP : va_P G.1 pCl (mW G h0 a (upd (upd (upd (upd (upd (upd (upd F 15 (nI fa18)) 16 pl19) 27 (nI nd20)) 31 (nI wr22)) 64 (nI at17)) 65 (nI ne)) 66 (nI lk21)) (updA X24 2 K)) _ := mW_to (F := F) (l1 := [(15, 0), (27, (nI (nd + 1))), (31, (nI wr)), (64, (nI (at0 + 1))), (65, (nI ne)), (66, (nI lk)), (15, (nI fa18)), (16, pl19), (27, (nI nd20)), (31, (nI wr22)), (64, (nI at17)), (65, (nI ne)), (66, (nI lk21))]) (l2 := [(15, (nI fa18)), (16, pl19), (27, (nI nd20)), (31, (nI wr22)), (64, (nI at17)), (65, (nI ne)), (66, (nI lk21))]) (V := [(nI fa18), (nI nd20), (nI wr22), (nI at17), (nI ne), (nI lk21), (nI fa18), pl19, (nI nd20), (nI wr22), (nI at17), (nI ne), (nI lk21), (nI fa18), pl19, (nI nd20), (nI wr22), (nI at17), (nI ne), (nI lk21)]) rfl rfl rfl hP
  have hD : va_D A (mW G h0 a (upd (upd (upd (upd (upd (upd (upd F 15 (nI fa18)) 16 pl19) 27 (nI nd20)) 31 (nI wr22)) 64 (nI at17)) 65 (nI ne)) 66 (nI lk21)) (updA X24 2 K)) := mW_D hD
  refine W.widen (k := 0) (n := 0) (Nat.le_of_ble_eq_true rfl) (Nat.le_of_ble_eq_true rfl) ?_
  refine W.eq (g2 := F0 m 36 ls [.int (nI r23), .int (nI nd), .ref (a 12)]) rfl ?_
  have hkp39 : Kp B X24 wr22 T := (Kp.trans hkp8 h37)
  rcases Nat.eq_zero_or_pos fa18 with e40 | e40
  · subst e40
    have hP : va_P G.1 pCl (mW G h0 a (upd (upd (upd (upd (upd (upd (upd F 15 0) 16 pl19) 27 (nI nd20)) 31 (nI wr22)) 64 (nI at17)) 65 (nI ne)) 66 (nI lk21)) (updA X24 2 K)) _ := hP
    have hD : va_D A (mW G h0 a (upd (upd (upd (upd (upd (upd (upd F 15 0) 16 pl19) 27 (nI nd20)) 31 (nI wr22)) 64 (nI at17)) 65 (nI ne)) 66 (nI lk21)) (updA X24 2 K)) := mW_D hD
    obtain ⟨hlw41, hf42, hc43⟩ := h38 rfl
    have hlo44 : Low B X24 nd wr := (Low.trans hlo9 hlw41 (by omega) (by omega))
    have hf45 : Frs K T wr22 X24 nd (nd + 1) nd [(nd, 0)] := (Frs.same hf10 (by omega) (fun j i q1 q2 q3 q4 => (hlw41.1 j i q1 (by omega) (by omega))))
    have hn46 : Nd X24 nd 41 (-1) (-1) (-1) (-1) := (Nd.low hn11 hlw41 (by omega))
    have hm47 := Frs.mem hf42
    refine r_sti (f := (X24 12)) (j := nd) hx hb hE hP hD hS 12 (ma_12 G a _) rfl (mas_12 G a _) (by omega) (by decide) dX12_attempt_36 (fun H locs hP hD hS => ?_)
    have hP : va_P G.1 pCl (mW G h0 a (upd (upd (upd (upd (upd (upd (upd F 15 0) 16 pl19) 27 (nI nd20)) 31 (nI wr22)) 64 (nI at17)) 65 (nI ne)) 66 (nI lk21)) (updA (stR X24 12 nd (nI r23)) 2 K)) _ := mW_to (F := F) (l1 := [(15, 0), (16, pl19), (27, (nI nd20)), (31, (nI wr22)), (64, (nI at17)), (65, (nI ne)), (66, (nI lk21))]) (l2 := [(15, 0), (16, pl19), (27, (nI nd20)), (31, (nI wr22)), (64, (nI at17)), (65, (nI ne)), (66, (nI lk21))]) (V := [0, pl19, (nI nd20), (nI wr22), (nI at17), (nI ne), (nI lk21), 0, pl19, (nI nd20), (nI wr22), (nI at17), (nI ne), (nI lk21)]) rfl rfl (show (updA (updA X24 2 K) 12 (upd (X24 12) nd (nI r23))) = (updA (stR X24 12 nd (nI r23)) 2 K) from updsA_eq2 (F := X24) (l1 := [(2, K), (12, (upd (X24 12) nd (nI r23)))]) (l2 := [(12, (upd (X24 12) nd (nI r23))), (2, K)]) (V := [K, (upd (X24 12) nd (nI r23)), (upd (X24 12) nd (nI r23)), K]) rfl rfl) hP
    have hD : va_D A (mW G h0 a (upd (upd (upd (upd (upd (upd (upd F 15 0) 16 pl19) 27 (nI nd20)) 31 (nI wr22)) 64 (nI at17)) 65 (nI ne)) 66 (nI lk21)) (updA (stR X24 12 nd (nI r23)) 2 K)) := mW_D hD
    have hkp48 : Kp B (stR X24 12 nd (nI r23)) wr22 T := (Kp.row hkp39 (by omega))
    have hlo49 : Low B (stR X24 12 nd (nI r23)) nd wr := (Low.st hlo44 (by omega) (by omega))
    have hf50 : Frs K T wr22 X24 nd nd20 nd [(nd, 0), (r23, (281 + 4 * (20 - ne)))] := (Frs.join hf45 hf42 (by omega) (by omega) (by omega))
    have hn51 : Nd (stR X24 12 nd (nI r23)) nd 41 (nI r23) (-1) (-1) (-1) := (Nd.st hn46 (by omega))
    have hc52 : kcl 10 ((stR X24 12 nd (nI r23)) 9 r23) = true := by rw [st_ne (by omega)]; exact hc43
    have hf53 : Frs K T wr22 (stR X24 12 nd (nI r23)) nd nd20 nd [(nd, (280 + 4 * (21 - ne)))] := (Frs.set (s := 1) (k := 41) hf50 (by omega) (by omega) (by simp) (by omega) (by omega) hn46.2.1 hn46.1 (by decide) ⟨by decide, by decide, by decide, hc43, fun h => absurd h (by decide)⟩ (by omega) (by omega) (by decide) (fun h1 h2 => by omega))
    have hf54 : Frs K T wr22 (stR X24 12 nd (nI r23)) nd nd20 20000 [(nd, (280 + 4 * (21 - ne)))] := (Frs.fin (k := 41) hf53 hn51 rfl (by decide) (fun _ => nI_m1 (by omega)) (fun h => absurd h (by decide)) (fun h => absurd h (by decide)) (fun h => absurd h (by decide)))
    refine lv_aload_n hx hb dX12_attempt_37 rfl (lv_at hl 1 rfl) ?_
    refine r_get (v := .int 0) hx hb hown hq hE hP 15 350 tFX12_15 (by decide) pw_1594 rfl dX12_attempt_38 ?_
    refine lv_if_ne (tgt := 69) hx hb dX12_attempt_41 (by decide) (fun c55 => absurd c55 (by decide)) (fun c55 => ?_)
    refine lv_aload_n hx hb dX12_attempt_44 rfl (lv_at hl 1 rfl) ?_
    have hP : va_P G.1 pCl (mW G h0 a (upd (upd (upd (upd (upd (upd (upd (upd (upd F 15 0) 16 pl19) 27 (nI nd20)) 31 (nI wr22)) 64 (nI at17)) 65 (nI ne)) 66 (nI lk21)) 15 (nI 0)) 64 (nI at17)) (updA (updA (stR X24 12 nd (nI r23)) 2 K) 2 K)) _ := mW_to (F := F) (l1 := [(15, 0), (16, pl19), (27, (nI nd20)), (31, (nI wr22)), (64, (nI at17)), (65, (nI ne)), (66, (nI lk21))]) (l2 := [(15, 0), (16, pl19), (27, (nI nd20)), (31, (nI wr22)), (64, (nI at17)), (65, (nI ne)), (66, (nI lk21)), (15, (nI 0)), (64, (nI at17))]) (V := [(nI 0), pl19, (nI nd20), (nI wr22), (nI at17), (nI ne), (nI lk21), (nI 0), pl19, (nI nd20), (nI wr22), (nI at17), (nI ne), (nI lk21), (nI 0), (nI at17)]) rfl rfl (show (updA (stR X24 12 nd (nI r23)) 2 K) = (updA (updA (stR X24 12 nd (nI r23)) 2 K) 2 K) from updsA_eq2 (F := X24) (l1 := [(12, (upd (X24 12) nd (nI r23))), (2, K)]) (l2 := [(12, (upd (X24 12) nd (nI r23))), (2, K), (2, K)]) (V := [(upd (X24 12) nd (nI r23)), K, (upd (X24 12) nd (nI r23)), K, K]) rfl rfl) hP
    have hD : va_D A (mW G h0 a (upd (upd (upd (upd (upd (upd (upd (upd (upd F 15 0) 16 pl19) 27 (nI nd20)) 31 (nI wr22)) 64 (nI at17)) 65 (nI ne)) 66 (nI lk21)) 15 (nI 0)) 64 (nI at17)) (updA (updA (stR X24 12 nd (nI r23)) 2 K) 2 K)) := mW_D hD
    refine pc_V0 (G := G) (As := []) (rest := []) hx hb hml hown hq hE hX pX0_al hP hD hS hA hl.1 (R_kind l G h0 a (upd (upd (upd (upd (upd (upd (upd F 15 0) 16 pl19) 27 (nI nd20)) 31 (nI wr22)) 64 (nI at17)) 65 (nI ne)) 66 (nI lk21)) (updA (stR X24 12 nd (nI r23)) 2 K) at17 T 0 K (by omega) (by omega) hK (by omega)) (gV pw_1626 pw_1627 pw_1628 pw_1523 pw_1591) hV_X12_kind 0 9 rfl rfl rfl rfl (Nat.le_of_ble_eq_true rfl) dX12_attempt_45 ⟨Nat.le_of_ble_eq_true rfl, Nat.le_of_ble_eq_true rfl⟩ ⟨(by show 2 + 1 ≤ (26 * n + 43); omega), (by show 8 + (1 + 11) + 60 ≤ (2000 * n + 4300); omega)⟩ (fun v58 u56 H locs hw57 hP hD hS => ?_)
    obtain rfl : v58 = some (.int (K at17)) := hw57
    have hP : va_P G.1 pCl (mW G h0 a (upd (upd (upd (upd (upd (upd (upd F 15 0) 16 pl19) 27 (nI nd20)) 31 (nI wr22)) 64 (nI at17)) 65 (nI ne)) 66 (nI lk21)) (updA (stR X24 12 nd (nI r23)) 2 K)) _ := mW_to (F := F) (l1 := [(15, 0), (16, pl19), (27, (nI nd20)), (31, (nI wr22)), (64, (nI at17)), (65, (nI ne)), (66, (nI lk21)), (15, (nI 0)), (64, (nI at17))]) (l2 := [(15, 0), (16, pl19), (27, (nI nd20)), (31, (nI wr22)), (64, (nI at17)), (65, (nI ne)), (66, (nI lk21))]) (V := [0, pl19, (nI nd20), (nI wr22), (nI at17), (nI ne), (nI lk21), 0, (nI at17), 0, pl19, (nI nd20), (nI wr22), (nI at17), (nI ne), (nI lk21)]) rfl rfl (show (updA (updA (stR X24 12 nd (nI r23)) 2 K) 2 K) = (updA (stR X24 12 nd (nI r23)) 2 K) from updsA_eq2 (F := X24) (l1 := [(12, (upd (X24 12) nd (nI r23))), (2, K), (2, K)]) (l2 := [(12, (upd (X24 12) nd (nI r23))), (2, K)]) (V := [(upd (X24 12) nd (nI r23)), K, K, (upd (X24 12) nd (nI r23)), K]) rfl rfl) hP
    have hD : va_D A (mW G h0 a (upd (upd (upd (upd (upd (upd (upd F 15 0) 16 pl19) 27 (nI nd20)) 31 (nI wr22)) 64 (nI at17)) 65 (nI ne)) 66 (nI lk21)) (updA (stR X24 12 nd (nI r23)) 2 K)) := mW_D hD
    refine W.widen (k := 0) (n := 0) (Nat.le_of_ble_eq_true rfl) (Nat.le_of_ble_eq_true rfl) ?_
    refine W.eq (g2 := F0 m 48 ls [.int (K at17)]) rfl ?_
    refine lv_sipush (v := 313) hx hb dX12_attempt_48 (by decide) ?_
    refine lv_icmp_eq (tgt := 69) hx hb dX12_attempt_51 (by decide) (fun c59 => ?_) (fun c59 => ?_)
    · have cut_a : ∀ (at2 : Nat) (nd2 : Nat) (wr2 : Nat) (lk2 : Nat) (pl2 : Int32) (X2 : Nat → Nat → Int32) (xa3 : Int32) (xb3 : Int32) (H : Heap) (locs : List Loc) (ls : Array Slot), (at0 + 1 ≤ at2) → (nd ≤ nd2) → (nd2 + 2 * at0 ≤ nd + 2 * at2) → (wr ≤ wr2) → (wr2 + at0 ≤ wr + at2) → (lk ≤ lk2) → (lk2 ≤ 60) → (at2 ≤ T) → (nd + 1 ≤ nd2) → (Kp B X2 wr2 T) → (Low B X2 nd wr) → (Frs K T wr2 X2 nd nd2 20000 [(nd, (280 + 4 * (21 - ne)))]) → (Nd X2 nd 41 xa3 xb3 (-1) (-1)) → va_P G.1 pCl (mW G h0 a (upd (upd (upd (upd (upd (upd (upd F 15 0) 16 pl2) 27 (nI nd2)) 31 (nI wr2)) 64 (nI at2)) 65 (nI ne)) 66 (nI lk2)) (updA X2 2 K)) H → va_D A (mW G h0 a (upd (upd (upd (upd (upd (upd (upd F 15 0) 16 pl2) 27 (nI nd2)) 31 (nI wr2)) 64 (nI at2)) 65 (nI ne)) 66 (nI lk2)) (updA X2 2 K)) → va_S A s.heap H locs → lv_has ls 7 [(1, .int (nI nd)), (0, .ref h0)] → W p l e (headSpec (Cond.code yX12_attempt cX12_attempt 7 (some .int) :: pw) ({ frames := (26 * n + 43), cells := 0, slots := 0, locals := (2000 * n + 4300) } : Room)).room s m ([.ref h0] : List Value).toArray below meth c H locs 0 0 (MQ below (pQ G A (fun (v : Option Value) (u : Nat × Nat × Int32 × Nat × Nat × Nat × Nat × (Nat → Nat → Int32)) => v = some (.int (nI u.2.2.2.2.2.2.1)) ∧ (at0 ≤ u.1) ∧ (u.1 ≤ T) ∧ (u.2.1 ≤ 100) ∧ (nd ≤ u.2.2.2.1) ∧ (u.2.2.2.1 + 2 * at0 ≤ nd + 2 * u.1 + 100000 * u.2.1) ∧ (u.2.2.2.1 + 2 * at0 ≤ nd + 2 * u.1 + (60 * (21 - ne) + 40)) ∧ (wr ≤ u.2.2.2.2.2.1) ∧ (u.2.2.2.2.2.1 + at0 ≤ wr + u.1) ∧ (lk ≤ u.2.2.2.2.1) ∧ (u.2.2.2.2.1 ≤ 60 + 100 * u.2.1) ∧ (at0 + 1 ≤ u.1 + u.2.1) ∧ (u.2.2.2.2.2.2.1 ≤ u.2.2.2.1) ∧ (Kp B u.2.2.2.2.2.2.2 u.2.2.2.2.2.1 T) ∧ (If (u.2.1 = 0) (Low B u.2.2.2.2.2.2.2 nd wr ∧ Frs K T u.2.2.2.2.2.1 u.2.2.2.2.2.2.2 nd u.2.2.2.1 20000 [(u.2.2.2.2.2.2.1, (280 + 4 * (21 - ne)))] ∧ kcl 3 (u.2.2.2.2.2.2.2 9 u.2.2.2.2.2.2.1) = true))) (fun u => (mW G h0 a (upd (upd (upd (upd (upd (upd (upd F 15 (nI u.2.1)) 16 u.2.2.1) 27 (nI u.2.2.2.1)) 31 (nI u.2.2.2.2.2.1)) 64 (nI u.1)) 65 (nI ne)) 66 (nI u.2.2.2.2.1)) (updA u.2.2.2.2.2.2.2 2 K)))) ([.ref h0] : List Value).toArray s ({ frames := (26 * n + 43), cells := 0, slots := 0, locals := (2000 * n + 4300) } : Room).cells ({ frames := (26 * n + 43), cells := 0, slots := 0, locals := (2000 * n + 4300) } : Room).slots A) (F0 m 167 ls []) := by
        intro at2 nd2 wr2 lk2 pl2 X2 xa3 xb3 H locs ls hl1 hl3 hl4 hl5 hl6 hl7 hl8 ha2 hnd2 hkp2 hlo2 hf2 hn2 hP hD hS hl
        refine lv_aload_n hx hb dX12_attempt_167 rfl (lv_at hl 1 rfl) ?_
        refine lv_sipush (v := 319) hx hb dX12_attempt_168 (by decide) ?_
        have hP : va_P G.1 pCl (mW G h0 a (upd (upd (upd (upd (upd (upd (upd (upd (upd F 15 0) 16 pl2) 27 (nI nd2)) 31 (nI wr2)) 64 (nI at2)) 65 (nI ne)) 66 (nI lk2)) 15 (nI 0)) 64 (nI at2)) (updA (updA X2 2 K) 2 K)) _ := mW_to (F := F) (l1 := [(15, 0), (16, pl2), (27, (nI nd2)), (31, (nI wr2)), (64, (nI at2)), (65, (nI ne)), (66, (nI lk2))]) (l2 := [(15, 0), (16, pl2), (27, (nI nd2)), (31, (nI wr2)), (64, (nI at2)), (65, (nI ne)), (66, (nI lk2)), (15, (nI 0)), (64, (nI at2))]) (V := [(nI 0), pl2, (nI nd2), (nI wr2), (nI at2), (nI ne), (nI lk2), (nI 0), pl2, (nI nd2), (nI wr2), (nI at2), (nI ne), (nI lk2), (nI 0), (nI at2)]) rfl rfl (show (updA X2 2 K) = (updA (updA X2 2 K) 2 K) from updsA_eq2 (F := X2) (l1 := [(2, K)]) (l2 := [(2, K), (2, K)]) (V := [K, K, K]) rfl rfl) hP
        have hD : va_D A (mW G h0 a (upd (upd (upd (upd (upd (upd (upd (upd (upd F 15 0) 16 pl2) 27 (nI nd2)) 31 (nI wr2)) 64 (nI at2)) 65 (nI ne)) 66 (nI lk2)) 15 (nI 0)) 64 (nI at2)) (updA (updA X2 2 K) 2 K)) := mW_D hD
        refine pc_V0 (G := G) (As := [.int 319]) (rest := []) hx hb hml hown hq hE hX pX0_al hP hD hS hA hl.1 (R_may l G h0 a (upd (upd (upd (upd (upd (upd (upd F 15 0) 16 pl2) 27 (nI nd2)) 31 (nI wr2)) 64 (nI at2)) 65 (nI ne)) 66 (nI lk2)) (updA X2 2 K) at2 T 0 K 319 (by omega) (by omega) hK (by omega) (by decide) (by decide)) (gV pw_1621 pw_1622 pw_1623 pw_1523 pw_1605) hV_X12_may 0 9 rfl rfl rfl rfl (Nat.le_of_ble_eq_true rfl) dX12_attempt_171 ⟨Nat.le_of_ble_eq_true rfl, Nat.le_of_ble_eq_true rfl⟩ ⟨(by show 3 + 1 ≤ (26 * n + 43); omega), (by show 8 + (3 + 11) + 81 ≤ (2000 * n + 4300); omega)⟩ (fun v62 u60 H locs hw61 hP hD hS => ?_)
        obtain ⟨at63, r64⟩ := u60
        obtain ⟨hw61, h65, h66, h67, h68, h69, h70⟩ := hw61
        have h65 : r64 ≤ 1 := h65
        have h66 : 0 + 100 * r64 ≤ 100 := h66
        have h67 : at63 = at2 + r64 := h67
        have h68 : at63 ≤ T := h68
        have h69 : If (r64 = 1) (K at2 = 319) := h69
        have h70 : If (r64 = 0) (0 = 0 → ¬ K at2 = 319) := h70
        obtain rfl : v62 = some (.int (nI r64)) := hw61
        have hP : va_P G.1 pCl (mW G h0 a (upd (upd (upd (upd (upd (upd (upd F 15 0) 16 pl2) 27 (nI nd2)) 31 (nI wr2)) 64 (nI at63)) 65 (nI ne)) 66 (nI lk2)) (updA X2 2 K)) _ := mW_to (F := F) (l1 := [(15, 0), (16, pl2), (27, (nI nd2)), (31, (nI wr2)), (64, (nI at2)), (65, (nI ne)), (66, (nI lk2)), (15, (nI 0)), (64, (nI at63))]) (l2 := [(15, 0), (16, pl2), (27, (nI nd2)), (31, (nI wr2)), (64, (nI at63)), (65, (nI ne)), (66, (nI lk2))]) (V := [0, pl2, (nI nd2), (nI wr2), (nI at63), (nI ne), (nI lk2), 0, (nI at63), 0, pl2, (nI nd2), (nI wr2), (nI at63), (nI ne), (nI lk2)]) rfl rfl (show (updA (updA X2 2 K) 2 K) = (updA X2 2 K) from updsA_eq2 (F := X2) (l1 := [(2, K), (2, K)]) (l2 := [(2, K)]) (V := [K, K, K]) rfl rfl) hP
        have hD : va_D A (mW G h0 a (upd (upd (upd (upd (upd (upd (upd F 15 0) 16 pl2) 27 (nI nd2)) 31 (nI wr2)) 64 (nI at63)) 65 (nI ne)) 66 (nI lk2)) (updA X2 2 K)) := mW_D hD
        refine W.widen (k := 0) (n := 0) (Nat.le_of_ble_eq_true rfl) (Nat.le_of_ble_eq_true rfl) ?_
        refine W.eq (g2 := F0 m 174 ls [.int (nI r64)]) rfl ?_
        refine lv_if_eq (tgt := 187) hx hb dX12_attempt_174 (by decide) (fun c71 => ?_) (fun c71 => ?_)
        · have n72 : r64 = 0 := (nI_eq (a := r64) (b := 0) (by omega) (by omega)).mp c71
          refine lv_iload_n hx hb dX12_attempt_187 rfl (lv_at hl 0 rfl) ?_
          have hz73 : at0 ≤ at63 := (by omega)
          have hz74 : at63 ≤ T := (by omega)
          have hz75 : 0 ≤ 100 := (by omega)
          have hz76 : nd ≤ nd2 := (by omega)
          have hz77 : nd2 + 2 * at0 ≤ nd + 2 * at63 + 100000 * 0 := (by omega)
          have hz78 : nd2 + 2 * at0 ≤ nd + 2 * at63 + (60 * (21 - ne) + 40) := (by omega)
          have hz79 : wr ≤ wr2 := (by omega)
          have hz80 : wr2 + at0 ≤ wr + at63 := (by omega)
          have hz81 : lk ≤ lk2 := (by omega)
          have hz82 : lk2 ≤ 60 + 100 * 0 := (by omega)
          have hz83 : at0 + 1 ≤ at63 + 0 := (by omega)
          have hz84 : nd ≤ nd2 := (by omega)
          have hz85 : Kp B X2 wr2 T := hkp2
          have hz86 : If (0 = 0) (Low B X2 nd wr ∧ Frs K T wr2 X2 nd nd2 20000 [(nd, (280 + 4 * (21 - ne)))] ∧ kcl 3 (X2 9 nd) = true) := (fun _ => ⟨hlo2, Frs.up hf2 (by omega), (by rw [hn2.1]; decide)⟩)
          have hP : va_P G.1 pCl (mW G h0 a (upd (upd (upd (upd (upd (upd (upd F 15 (nI 0)) 16 pl2) 27 (nI nd2)) 31 (nI wr2)) 64 (nI at63)) 65 (nI ne)) 66 (nI lk2)) (updA X2 2 K)) _ := mW_to (F := F) (l1 := [(15, 0), (16, pl2), (27, (nI nd2)), (31, (nI wr2)), (64, (nI at63)), (65, (nI ne)), (66, (nI lk2))]) (l2 := [(15, (nI 0)), (16, pl2), (27, (nI nd2)), (31, (nI wr2)), (64, (nI at63)), (65, (nI ne)), (66, (nI lk2))]) (V := [(nI 0), pl2, (nI nd2), (nI wr2), (nI at63), (nI ne), (nI lk2), (nI 0), pl2, (nI nd2), (nI wr2), (nI at63), (nI ne), (nI lk2)]) rfl rfl rfl hP
          have hD : va_D A (mW G h0 a (upd (upd (upd (upd (upd (upd (upd F 15 (nI 0)) 16 pl2) 27 (nI nd2)) 31 (nI wr2)) 64 (nI at63)) 65 (nI ne)) 66 (nI lk2)) (updA X2 2 K)) := mW_D hD
          exact W.iret (v := (nI nd)) hx hb hr (fun t9 ht9 hW9 => ⟨⟨_, (at63, 0, pl2, nd2, lk2, wr2, nd, X2), rfl, ⟨rfl, hz73, hz74, hz75, hz76, hz77, hz78, hz79, hz80, hz81, hz82, hz83, hz84, hz85, hz86⟩, by rw [ht9]; exact hP, hD⟩, hS.F ht9⟩) hS.2.2 dX12_attempt_188
        · have n87 : ¬ (r64 = 0) := fun h9 => c71 ((nI_eq (a := r64) (b := 0) (by omega) (by omega)).mpr h9)
          refine lv_aload_n hx hb dX12_attempt_177 rfl (lv_at hl 1 rfl) ?_
          refine r_get (v := .ref (a 14)) hx hb hown hq hE hP 22 53 tFX12_22 (by decide) pw_1444 rfl dX12_attempt_178 ?_
          refine lv_iload_n hx hb dX12_attempt_181 rfl (lv_at hl 0 rfl) ?_
          refine lv_aload_n hx hb dX12_attempt_182 rfl (lv_at hl 1 rfl) ?_
          have hP : va_P G.1 pCl (mW G h0 a (upd (upd (upd (upd (upd (upd (upd (upd (upd (upd (upd (upd (upd F 15 0) 16 pl2) 27 (nI nd2)) 31 (nI wr2)) 64 (nI at63)) 65 (nI ne)) 66 (nI lk2)) 15 0) 27 (nI nd2)) 31 (nI wr2)) 64 (nI at63)) 65 (nI ne)) 66 (nI lk2)) (updA X2 2 K)) _ := mW_to (F := F) (l1 := [(15, 0), (16, pl2), (27, (nI nd2)), (31, (nI wr2)), (64, (nI at63)), (65, (nI ne)), (66, (nI lk2))]) (l2 := [(15, 0), (16, pl2), (27, (nI nd2)), (31, (nI wr2)), (64, (nI at63)), (65, (nI ne)), (66, (nI lk2)), (15, 0), (27, (nI nd2)), (31, (nI wr2)), (64, (nI at63)), (65, (nI ne)), (66, (nI lk2))]) (V := [0, pl2, (nI nd2), (nI wr2), (nI at63), (nI ne), (nI lk2), 0, pl2, (nI nd2), (nI wr2), (nI at63), (nI ne), (nI lk2), 0, (nI nd2), (nI wr2), (nI at63), (nI ne), (nI lk2)]) rfl rfl rfl hP
          have hD : va_D A (mW G h0 a (upd (upd (upd (upd (upd (upd (upd (upd (upd (upd (upd (upd (upd F 15 0) 16 pl2) 27 (nI nd2)) 31 (nI wr2)) 64 (nI at63)) 65 (nI ne)) 66 (nI lk2)) 15 0) 27 (nI nd2)) 31 (nI wr2)) 64 (nI at63)) 65 (nI ne)) 66 (nI lk2)) (updA X2 2 K)) := mW_D hD
          refine pc_V0 (G := G) (As := []) (rest := [.int (nI nd), .ref (a 14)]) hx hb hml hown hq hE hX pX0_al hP hD hS hA hl.1 (hBk h0 a (upd (upd (upd (upd (upd (upd (upd F 15 0) 16 pl2) 27 (nI nd2)) 31 (nI wr2)) 64 (nI at63)) 65 (nI ne)) 66 (nI lk2)) X2 at63 T ne nd2 wr2 lk2 K (by omega) (by omega) hK (by omega) (by omega) (by omega) (by omega) (hkp2).2 (by omega)) (gV pw_1685 pw_1686 pw_1687 pw_1523 pw_1688) hV_X12_block 0 9 rfl rfl rfl rfl (Nat.le_of_ble_eq_true rfl) dX12_attempt_183 ⟨Nat.le_of_ble_eq_true rfl, Nat.le_of_ble_eq_true rfl⟩ ⟨(by show (26 * n + 42) + 1 ≤ (26 * n + 43); omega), (by show 8 + (4 + 11) + (2000 * n + 4200) ≤ (2000 * n + 4300); omega)⟩ (fun v90 u88 H locs hw89 hP hD hS => ?_)
          obtain ⟨at91, fa92, pl93, nd94, lk95, wr96, r97, X98⟩ := u88
          obtain ⟨hw89, h99, h100, h101, h102, h103, h104, h105, h106, h107, h108, h109, h110, h111, h112⟩ := hw89
          have h99 : at63 ≤ at91 := h99
          have h100 : at91 ≤ T := h100
          have h101 : fa92 ≤ 100 := h101
          have h102 : nd2 ≤ nd94 := h102
          have h103 : nd94 + 2 * at63 ≤ nd2 + 2 * at91 + 100000 * fa92 := h103
          have h104 : nd94 + 2 * at63 ≤ nd2 + 2 * at91 + (60 * (20 - ne) + 50) := h104
          have h105 : wr2 ≤ wr96 := h105
          have h106 : wr96 + at63 ≤ wr2 + at91 := h106
          have h107 : lk2 ≤ lk95 := h107
          have h108 : lk95 ≤ lk2 := h108
          have h109 : at63 + 1 ≤ at91 + fa92 := h109
          have h110 : r97 ≤ nd94 := h110
          have h111 : Kp X2 X98 wr96 T := h111
          have h112 : If (fa92 = 0) (Low X2 X98 nd2 wr2 ∧ Frs K T wr96 X98 nd2 nd94 20000 [(r97, (281 + 4 * (20 - ne)))] ∧ kcl 10 (X98 9 r97) = true) := h112
          obtain rfl : v90 = some (.int (nI r97)) := hw89
          have hP : va_P G.1 pCl (mW G h0 a (upd (upd (upd (upd (upd (upd (upd F 15 (nI fa92)) 16 pl93) 27 (nI nd94)) 31 (nI wr96)) 64 (nI at91)) 65 (nI ne)) 66 (nI lk95)) (updA X98 2 K)) _ := mW_to (F := F) (l1 := [(15, 0), (16, pl2), (27, (nI nd2)), (31, (nI wr2)), (64, (nI at63)), (65, (nI ne)), (66, (nI lk2)), (15, (nI fa92)), (16, pl93), (27, (nI nd94)), (31, (nI wr96)), (64, (nI at91)), (65, (nI ne)), (66, (nI lk95))]) (l2 := [(15, (nI fa92)), (16, pl93), (27, (nI nd94)), (31, (nI wr96)), (64, (nI at91)), (65, (nI ne)), (66, (nI lk95))]) (V := [(nI fa92), pl93, (nI nd94), (nI wr96), (nI at91), (nI ne), (nI lk95), (nI fa92), pl93, (nI nd94), (nI wr96), (nI at91), (nI ne), (nI lk95), (nI fa92), pl93, (nI nd94), (nI wr96), (nI at91), (nI ne), (nI lk95)]) rfl rfl rfl hP
          have hD : va_D A (mW G h0 a (upd (upd (upd (upd (upd (upd (upd F 15 (nI fa92)) 16 pl93) 27 (nI nd94)) 31 (nI wr96)) 64 (nI at91)) 65 (nI ne)) 66 (nI lk95)) (updA X98 2 K)) := mW_D hD
          refine W.widen (k := 0) (n := 0) (Nat.le_of_ble_eq_true rfl) (Nat.le_of_ble_eq_true rfl) ?_
          refine W.eq (g2 := F0 m 186 ls [.int (nI r97), .int (nI nd), .ref (a 14)]) rfl ?_
          have hkp113 : Kp B X98 wr96 T := (Kp.trans hkp2 h111)
          rcases Nat.eq_zero_or_pos fa92 with e114 | e114
          · subst e114
            have hP : va_P G.1 pCl (mW G h0 a (upd (upd (upd (upd (upd (upd (upd F 15 0) 16 pl93) 27 (nI nd94)) 31 (nI wr96)) 64 (nI at91)) 65 (nI ne)) 66 (nI lk95)) (updA X98 2 K)) _ := hP
            have hD : va_D A (mW G h0 a (upd (upd (upd (upd (upd (upd (upd F 15 0) 16 pl93) 27 (nI nd94)) 31 (nI wr96)) 64 (nI at91)) 65 (nI ne)) 66 (nI lk95)) (updA X98 2 K)) := mW_D hD
            obtain ⟨hlw115, hf116, hc117⟩ := h112 rfl
            have hlo118 : Low B X98 nd wr := (Low.trans hlo2 hlw115 (by omega) (by omega))
            have hf119 : Frs K T wr96 X98 nd nd2 20000 [(nd, (280 + 4 * (21 - ne)))] := (Frs.same hf2 (by omega) (fun j i q1 q2 q3 q4 => (hlw115.1 j i q1 (by omega) (by omega))))
            have hn120 : Nd X98 nd 41 xa3 xb3 (-1) (-1) := (Nd.low hn2 hlw115 (by omega))
            have hm121 := Frs.mem hf116
            refine r_sti (f := (X98 14)) (j := nd) hx hb hE hP hD hS 14 (ma_14 G a _) rfl (mas_14 G a _) (by omega) (by decide) dX12_attempt_186 (fun H locs hP hD hS => ?_)
            have hP : va_P G.1 pCl (mW G h0 a (upd (upd (upd (upd (upd (upd (upd F 15 0) 16 pl93) 27 (nI nd94)) 31 (nI wr96)) 64 (nI at91)) 65 (nI ne)) 66 (nI lk95)) (updA (stR X98 14 nd (nI r97)) 2 K)) _ := mW_to (F := F) (l1 := [(15, 0), (16, pl93), (27, (nI nd94)), (31, (nI wr96)), (64, (nI at91)), (65, (nI ne)), (66, (nI lk95))]) (l2 := [(15, 0), (16, pl93), (27, (nI nd94)), (31, (nI wr96)), (64, (nI at91)), (65, (nI ne)), (66, (nI lk95))]) (V := [0, pl93, (nI nd94), (nI wr96), (nI at91), (nI ne), (nI lk95), 0, pl93, (nI nd94), (nI wr96), (nI at91), (nI ne), (nI lk95)]) rfl rfl (show (updA (updA X98 2 K) 14 (upd (X98 14) nd (nI r97))) = (updA (stR X98 14 nd (nI r97)) 2 K) from updsA_eq2 (F := X98) (l1 := [(2, K), (14, (upd (X98 14) nd (nI r97)))]) (l2 := [(14, (upd (X98 14) nd (nI r97))), (2, K)]) (V := [K, (upd (X98 14) nd (nI r97)), (upd (X98 14) nd (nI r97)), K]) rfl rfl) hP
            have hD : va_D A (mW G h0 a (upd (upd (upd (upd (upd (upd (upd F 15 0) 16 pl93) 27 (nI nd94)) 31 (nI wr96)) 64 (nI at91)) 65 (nI ne)) 66 (nI lk95)) (updA (stR X98 14 nd (nI r97)) 2 K)) := mW_D hD
            have hkp122 : Kp B (stR X98 14 nd (nI r97)) wr96 T := (Kp.row hkp113 (by omega))
            have hlo123 : Low B (stR X98 14 nd (nI r97)) nd wr := (Low.st hlo118 (by omega) (by omega))
            have hf124 : Frs K T wr96 X98 nd nd94 20000 [(nd, (280 + 4 * (21 - ne))), (r97, (281 + 4 * (20 - ne)))] := (Frs.join hf119 hf116 (by omega) (by omega) (by omega))
            have hn125 : Nd (stR X98 14 nd (nI r97)) nd 41 xa3 xb3 (nI r97) (-1) := (Nd.st hn120 (by omega))
            have hc126 : kcl 10 ((stR X98 14 nd (nI r97)) 9 r97) = true := by rw [st_ne (by omega)]; exact hc117
            have hf127 : Frs K T wr96 (stR X98 14 nd (nI r97)) nd nd94 20000 [(nd, (280 + 4 * (21 - ne)))] := (Frs.set (s := 3) (k := 41) hf124 (by omega) (by omega) (by simp) (by omega) (by omega) hn120.2.2.2.1 hn120.1 (by decide) ⟨by decide, by decide, by decide, hc117, fun h => absurd h (by decide)⟩ (by omega) (by omega) (by decide) (fun h1 h2 => by omega))
            refine lv_iload_n hx hb dX12_attempt_187 rfl (lv_at hl 0 rfl) ?_
            have hz128 : at0 ≤ at91 := (by omega)
            have hz129 : at91 ≤ T := (by omega)
            have hz130 : 0 ≤ 100 := (by omega)
            have hz131 : nd ≤ nd94 := (by omega)
            have hz132 : nd94 + 2 * at0 ≤ nd + 2 * at91 + 100000 * 0 := (by omega)
            have hz133 : nd94 + 2 * at0 ≤ nd + 2 * at91 + (60 * (21 - ne) + 40) := (by omega)
            have hz134 : wr ≤ wr96 := (by omega)
            have hz135 : wr96 + at0 ≤ wr + at91 := (by omega)
            have hz136 : lk ≤ lk95 := (by omega)
            have hz137 : lk95 ≤ 60 + 100 * 0 := (by omega)
            have hz138 : at0 + 1 ≤ at91 + 0 := (by omega)
            have hz139 : nd ≤ nd94 := (by omega)
            have hz140 : Kp B (stR X98 14 nd (nI r97)) wr96 T := hkp122
            have hz141 : If (0 = 0) (Low B (stR X98 14 nd (nI r97)) nd wr ∧ Frs K T wr96 (stR X98 14 nd (nI r97)) nd nd94 20000 [(nd, (280 + 4 * (21 - ne)))] ∧ kcl 3 ((stR X98 14 nd (nI r97)) 9 nd) = true) := (fun _ => ⟨hlo123, Frs.up hf127 (by omega), (by rw [hn125.1]; decide)⟩)
            have hP : va_P G.1 pCl (mW G h0 a (upd (upd (upd (upd (upd (upd (upd F 15 (nI 0)) 16 pl93) 27 (nI nd94)) 31 (nI wr96)) 64 (nI at91)) 65 (nI ne)) 66 (nI lk95)) (updA (stR X98 14 nd (nI r97)) 2 K)) _ := mW_to (F := F) (l1 := [(15, 0), (16, pl93), (27, (nI nd94)), (31, (nI wr96)), (64, (nI at91)), (65, (nI ne)), (66, (nI lk95))]) (l2 := [(15, (nI 0)), (16, pl93), (27, (nI nd94)), (31, (nI wr96)), (64, (nI at91)), (65, (nI ne)), (66, (nI lk95))]) (V := [(nI 0), pl93, (nI nd94), (nI wr96), (nI at91), (nI ne), (nI lk95), (nI 0), pl93, (nI nd94), (nI wr96), (nI at91), (nI ne), (nI lk95)]) rfl rfl rfl hP
            have hD : va_D A (mW G h0 a (upd (upd (upd (upd (upd (upd (upd F 15 (nI 0)) 16 pl93) 27 (nI nd94)) 31 (nI wr96)) 64 (nI at91)) 65 (nI ne)) 66 (nI lk95)) (updA (stR X98 14 nd (nI r97)) 2 K)) := mW_D hD
            exact W.iret (v := (nI nd)) hx hb hr (fun t9 ht9 hW9 => ⟨⟨_, (at91, 0, pl93, nd94, lk95, wr96, nd, (stR X98 14 nd (nI r97))), rfl, ⟨rfl, hz128, hz129, hz130, hz131, hz132, hz133, hz134, hz135, hz136, hz137, hz138, hz139, hz140, hz141⟩, by rw [ht9]; exact hP, hD⟩, hS.F ht9⟩) hS.2.2 dX12_attempt_188
          · have e114 := e114
            refine r_sti (f := (X98 14)) (j := nd) hx hb hE hP hD hS 14 (ma_14 G a _) rfl (mas_14 G a _) (by omega) (by decide) dX12_attempt_186 (fun H locs hP hD hS => ?_)
            have hP : va_P G.1 pCl (mW G h0 a (upd (upd (upd (upd (upd (upd (upd F 15 (nI fa92)) 16 pl93) 27 (nI nd94)) 31 (nI wr96)) 64 (nI at91)) 65 (nI ne)) 66 (nI lk95)) (updA (stR X98 14 nd (nI r97)) 2 K)) _ := mW_to (F := F) (l1 := [(15, (nI fa92)), (16, pl93), (27, (nI nd94)), (31, (nI wr96)), (64, (nI at91)), (65, (nI ne)), (66, (nI lk95))]) (l2 := [(15, (nI fa92)), (16, pl93), (27, (nI nd94)), (31, (nI wr96)), (64, (nI at91)), (65, (nI ne)), (66, (nI lk95))]) (V := [(nI fa92), pl93, (nI nd94), (nI wr96), (nI at91), (nI ne), (nI lk95), (nI fa92), pl93, (nI nd94), (nI wr96), (nI at91), (nI ne), (nI lk95)]) rfl rfl (show (updA (updA X98 2 K) 14 (upd (X98 14) nd (nI r97))) = (updA (stR X98 14 nd (nI r97)) 2 K) from updsA_eq2 (F := X98) (l1 := [(2, K), (14, (upd (X98 14) nd (nI r97)))]) (l2 := [(14, (upd (X98 14) nd (nI r97))), (2, K)]) (V := [K, (upd (X98 14) nd (nI r97)), (upd (X98 14) nd (nI r97)), K]) rfl rfl) hP
            have hD : va_D A (mW G h0 a (upd (upd (upd (upd (upd (upd (upd F 15 (nI fa92)) 16 pl93) 27 (nI nd94)) 31 (nI wr96)) 64 (nI at91)) 65 (nI ne)) 66 (nI lk95)) (updA (stR X98 14 nd (nI r97)) 2 K)) := mW_D hD
            have hkp142 : Kp B (stR X98 14 nd (nI r97)) wr96 T := (Kp.row hkp113 (by omega))
            refine lv_iload_n hx hb dX12_attempt_187 rfl (lv_at hl 0 rfl) ?_
            have hz143 : at0 ≤ at91 := (by omega)
            have hz144 : at91 ≤ T := (by omega)
            have hz145 : fa92 ≤ 100 := (by omega)
            have hz146 : nd ≤ nd94 := (by omega)
            have hz147 : nd94 + 2 * at0 ≤ nd + 2 * at91 + 100000 * fa92 := (by omega)
            have hz148 : nd94 + 2 * at0 ≤ nd + 2 * at91 + (60 * (21 - ne) + 40) := (by omega)
            have hz149 : wr ≤ wr96 := (by omega)
            have hz150 : wr96 + at0 ≤ wr + at91 := (by omega)
            have hz151 : lk ≤ lk95 := (by omega)
            have hz152 : lk95 ≤ 60 + 100 * fa92 := (by omega)
            have hz153 : at0 + 1 ≤ at91 + fa92 := (by omega)
            have hz154 : nd ≤ nd94 := (by omega)
            have hz155 : Kp B (stR X98 14 nd (nI r97)) wr96 T := hkp142
            have hz156 : If (fa92 = 0) (Low B (stR X98 14 nd (nI r97)) nd wr ∧ Frs K T wr96 (stR X98 14 nd (nI r97)) nd nd94 20000 [(nd, (280 + 4 * (21 - ne)))] ∧ kcl 3 ((stR X98 14 nd (nI r97)) 9 nd) = true) := (fun e => absurd e (by omega))
            have hP : va_P G.1 pCl (mW G h0 a (upd (upd (upd (upd (upd (upd (upd F 15 (nI fa92)) 16 pl93) 27 (nI nd94)) 31 (nI wr96)) 64 (nI at91)) 65 (nI ne)) 66 (nI lk95)) (updA (stR X98 14 nd (nI r97)) 2 K)) _ := hP
            have hD : va_D A (mW G h0 a (upd (upd (upd (upd (upd (upd (upd F 15 (nI fa92)) 16 pl93) 27 (nI nd94)) 31 (nI wr96)) 64 (nI at91)) 65 (nI ne)) 66 (nI lk95)) (updA (stR X98 14 nd (nI r97)) 2 K)) := mW_D hD
            exact W.iret (v := (nI nd)) hx hb hr (fun t9 ht9 hW9 => ⟨⟨_, (at91, fa92, pl93, nd94, lk95, wr96, nd, (stR X98 14 nd (nI r97))), rfl, ⟨rfl, hz143, hz144, hz145, hz146, hz147, hz148, hz149, hz150, hz151, hz152, hz153, hz154, hz155, hz156⟩, by rw [ht9]; exact hP, hD⟩, hS.F ht9⟩) hS.2.2 dX12_attempt_188
      refine lv_iconst (v := (-1)) hx hb dX12_attempt_69 (by decide) ?_
      refine lv_istore_n (lv' := [(2, .int (-1)), (1, .int (nI nd)), (0, .ref h0)]) hx hb dX12_attempt_70 rfl hl (by decide) rfl (fun ls hl => ?_)
      refine lv_aload_n hx hb dX12_attempt_71 rfl (lv_at hl 2 rfl) ?_
      refine lv_sipush (v := 313) hx hb dX12_attempt_72 (by decide) ?_
      have hP : va_P G.1 pCl (mW G h0 a (upd (upd (upd (upd (upd (upd (upd (upd (upd F 15 0) 16 pl19) 27 (nI nd20)) 31 (nI wr22)) 64 (nI at17)) 65 (nI ne)) 66 (nI lk21)) 15 (nI 0)) 64 (nI at17)) (updA (updA (stR X24 12 nd (nI r23)) 2 K) 2 K)) _ := mW_to (F := F) (l1 := [(15, 0), (16, pl19), (27, (nI nd20)), (31, (nI wr22)), (64, (nI at17)), (65, (nI ne)), (66, (nI lk21))]) (l2 := [(15, 0), (16, pl19), (27, (nI nd20)), (31, (nI wr22)), (64, (nI at17)), (65, (nI ne)), (66, (nI lk21)), (15, (nI 0)), (64, (nI at17))]) (V := [(nI 0), pl19, (nI nd20), (nI wr22), (nI at17), (nI ne), (nI lk21), (nI 0), pl19, (nI nd20), (nI wr22), (nI at17), (nI ne), (nI lk21), (nI 0), (nI at17)]) rfl rfl (show (updA (stR X24 12 nd (nI r23)) 2 K) = (updA (updA (stR X24 12 nd (nI r23)) 2 K) 2 K) from updsA_eq2 (F := X24) (l1 := [(12, (upd (X24 12) nd (nI r23))), (2, K)]) (l2 := [(12, (upd (X24 12) nd (nI r23))), (2, K), (2, K)]) (V := [(upd (X24 12) nd (nI r23)), K, (upd (X24 12) nd (nI r23)), K, K]) rfl rfl) hP
      have hD : va_D A (mW G h0 a (upd (upd (upd (upd (upd (upd (upd (upd (upd F 15 0) 16 pl19) 27 (nI nd20)) 31 (nI wr22)) 64 (nI at17)) 65 (nI ne)) 66 (nI lk21)) 15 (nI 0)) 64 (nI at17)) (updA (updA (stR X24 12 nd (nI r23)) 2 K) 2 K)) := mW_D hD
      refine pc_V0 (G := G) (As := [.int 313]) (rest := []) hx hb hml hown hq hE hX pX0_al hP hD hS hA hl.1 (R_may l G h0 a (upd (upd (upd (upd (upd (upd (upd F 15 0) 16 pl19) 27 (nI nd20)) 31 (nI wr22)) 64 (nI at17)) 65 (nI ne)) 66 (nI lk21)) (updA (stR X24 12 nd (nI r23)) 2 K) at17 T 0 K 313 (by omega) (by omega) hK (by omega) (by decide) (by decide)) (gV pw_1621 pw_1622 pw_1623 pw_1523 pw_1605) hV_X12_may 0 9 rfl rfl rfl rfl (Nat.le_of_ble_eq_true rfl) dX12_attempt_75 ⟨Nat.le_of_ble_eq_true rfl, Nat.le_of_ble_eq_true rfl⟩ ⟨(by show 3 + 1 ≤ (26 * n + 43); omega), (by show 8 + (3 + 11) + 81 ≤ (2000 * n + 4300); omega)⟩ (fun v159 u157 H locs hw158 hP hD hS => ?_)
      obtain ⟨at160, r161⟩ := u157
      obtain ⟨hw158, h162, h163, h164, h165, h166, h167⟩ := hw158
      have h162 : r161 ≤ 1 := h162
      have h163 : 0 + 100 * r161 ≤ 100 := h163
      have h164 : at160 = at17 + r161 := h164
      have h165 : at160 ≤ T := h165
      have h166 : If (r161 = 1) (K at17 = 313) := h166
      have h167 : If (r161 = 0) (0 = 0 → ¬ K at17 = 313) := h167
      obtain rfl : v159 = some (.int (nI r161)) := hw158
      have hP : va_P G.1 pCl (mW G h0 a (upd (upd (upd (upd (upd (upd (upd F 15 0) 16 pl19) 27 (nI nd20)) 31 (nI wr22)) 64 (nI at160)) 65 (nI ne)) 66 (nI lk21)) (updA (stR X24 12 nd (nI r23)) 2 K)) _ := mW_to (F := F) (l1 := [(15, 0), (16, pl19), (27, (nI nd20)), (31, (nI wr22)), (64, (nI at17)), (65, (nI ne)), (66, (nI lk21)), (15, (nI 0)), (64, (nI at160))]) (l2 := [(15, 0), (16, pl19), (27, (nI nd20)), (31, (nI wr22)), (64, (nI at160)), (65, (nI ne)), (66, (nI lk21))]) (V := [0, pl19, (nI nd20), (nI wr22), (nI at160), (nI ne), (nI lk21), 0, (nI at160), 0, pl19, (nI nd20), (nI wr22), (nI at160), (nI ne), (nI lk21)]) rfl rfl (show (updA (updA (stR X24 12 nd (nI r23)) 2 K) 2 K) = (updA (stR X24 12 nd (nI r23)) 2 K) from updsA_eq2 (F := X24) (l1 := [(12, (upd (X24 12) nd (nI r23))), (2, K), (2, K)]) (l2 := [(12, (upd (X24 12) nd (nI r23))), (2, K)]) (V := [(upd (X24 12) nd (nI r23)), K, K, (upd (X24 12) nd (nI r23)), K]) rfl rfl) hP
      have hD : va_D A (mW G h0 a (upd (upd (upd (upd (upd (upd (upd F 15 0) 16 pl19) 27 (nI nd20)) 31 (nI wr22)) 64 (nI at160)) 65 (nI ne)) 66 (nI lk21)) (updA (stR X24 12 nd (nI r23)) 2 K)) := mW_D hD
      refine W.widen (k := 0) (n := 0) (Nat.le_of_ble_eq_true rfl) (Nat.le_of_ble_eq_true rfl) ?_
      refine W.eq (g2 := F0 m 78 ls [.int (nI r161)]) rfl ?_
      refine lv_if_eq (tgt := 167) hx hb dX12_attempt_78 (by decide) (fun c168 => ?_) (fun c168 => ?_)
      · have n169 : r161 = 0 := (nI_eq (a := r161) (b := 0) (by omega) (by omega)).mp c168
        have hP : va_P G.1 pCl (mW G h0 a (upd (upd (upd (upd (upd (upd (upd F 15 0) 16 pl19) 27 (nI nd20)) 31 (nI wr22)) 64 (nI at160)) 65 (nI ne)) 66 (nI lk21)) (updA (stR X24 12 nd (nI r23)) 2 K)) _ := hP
        have hD : va_D A (mW G h0 a (upd (upd (upd (upd (upd (upd (upd F 15 0) 16 pl19) 27 (nI nd20)) 31 (nI wr22)) 64 (nI at160)) 65 (nI ne)) 66 (nI lk21)) (updA (stR X24 12 nd (nI r23)) 2 K)) := mW_D hD
        exact cut_a at160 nd20 wr22 lk21 pl19 (stR X24 12 nd (nI r23)) (nI r23) (-1) _ _ _ (by omega) (by omega) (by omega) (by omega) (by omega) (by omega) (by omega) (by omega) (by omega) hkp48 hlo49 (Frs.up hf54 (by omega)) hn51 hP hD hS (lv_sub hl [1, 2] rfl)
      · have n170 : ¬ (r161 = 0) := fun h9 => c168 ((nI_eq (a := r161) (b := 0) (by omega) (by omega)).mpr h9)
        refine lv_aload_n hx hb dX12_attempt_81 rfl (lv_at hl 2 rfl) ?_
        refine r_get (v := .int (nI at160)) hx hb hown hq hE hP 64 343 tFX12_64 (by decide) pw_1592 rfl dX12_attempt_82 ?_
        refine lv_iconst (v := 1) hx hb dX12_attempt_85 (by decide) ?_
        refine lv_isub hx hb dX12_attempt_86 ?_
        refine lv_topi (fun x171 e172 => ?_)
        obtain rfl : x171 = nI (at160 - 1) := e172.trans (nI_subN (a := 1) (b := at160) (by omega))
        refine lv_istore_n (lv' := [(3, .int (nI (at160 - 1))), (2, .int (-1)), (1, .int (nI nd)), (0, .ref h0)]) hx hb dX12_attempt_87 rfl hl (by decide) rfl (fun ls hl => ?_)
        refine lv_aload_n hx hb dX12_attempt_88 rfl (lv_at hl 3 rfl) ?_
        refine lv_bipush (v := 40) hx hb dX12_attempt_89 (by decide) ?_
        have hP : va_P G.1 pCl (mW G h0 a (upd (upd (upd (upd (upd (upd (upd (upd (upd F 15 0) 16 pl19) 27 (nI nd20)) 31 (nI wr22)) 64 (nI at160)) 65 (nI ne)) 66 (nI lk21)) 15 (nI 0)) 64 (nI at160)) (updA (updA (stR X24 12 nd (nI r23)) 2 K) 2 K)) _ := mW_to (F := F) (l1 := [(15, 0), (16, pl19), (27, (nI nd20)), (31, (nI wr22)), (64, (nI at160)), (65, (nI ne)), (66, (nI lk21))]) (l2 := [(15, 0), (16, pl19), (27, (nI nd20)), (31, (nI wr22)), (64, (nI at160)), (65, (nI ne)), (66, (nI lk21)), (15, (nI 0)), (64, (nI at160))]) (V := [(nI 0), pl19, (nI nd20), (nI wr22), (nI at160), (nI ne), (nI lk21), (nI 0), pl19, (nI nd20), (nI wr22), (nI at160), (nI ne), (nI lk21), (nI 0), (nI at160)]) rfl rfl (show (updA (stR X24 12 nd (nI r23)) 2 K) = (updA (updA (stR X24 12 nd (nI r23)) 2 K) 2 K) from updsA_eq2 (F := X24) (l1 := [(12, (upd (X24 12) nd (nI r23))), (2, K)]) (l2 := [(12, (upd (X24 12) nd (nI r23))), (2, K), (2, K)]) (V := [(upd (X24 12) nd (nI r23)), K, (upd (X24 12) nd (nI r23)), K, K]) rfl rfl) hP
        have hD : va_D A (mW G h0 a (upd (upd (upd (upd (upd (upd (upd (upd (upd F 15 0) 16 pl19) 27 (nI nd20)) 31 (nI wr22)) 64 (nI at160)) 65 (nI ne)) 66 (nI lk21)) 15 (nI 0)) 64 (nI at160)) (updA (updA (stR X24 12 nd (nI r23)) 2 K) 2 K)) := mW_D hD
        refine pc_V0 (G := G) (As := [.int 40]) (rest := []) hx hb hml hown hq hE hX pX0_al hP hD hS hA hl.1 (R_take l G h0 a (upd (upd (upd (upd (upd (upd (upd F 15 0) 16 pl19) 27 (nI nd20)) 31 (nI wr22)) 64 (nI at160)) 65 (nI ne)) 66 (nI lk21)) (updA (stR X24 12 nd (nI r23)) 2 K) at160 T 0 K 40 (by omega) (by omega) hK (by omega) (by decide) (by decide)) (gV pw_1614 pw_1615 pw_1616 pw_1523 pw_1601) hV_X12_take 0 9 rfl rfl rfl rfl (Nat.le_of_ble_eq_true rfl) dX12_attempt_91 ⟨Nat.le_of_ble_eq_true rfl, Nat.le_of_ble_eq_true rfl⟩ ⟨(by show 4 + 1 ≤ (26 * n + 43); omega), (by show 8 + (2 + 11) + 103 ≤ (2000 * n + 4300); omega)⟩ (fun v175 u173 H locs hw174 hP hD hS => ?_)
        obtain ⟨at176, fa177, pl178⟩ := u173
        obtain ⟨hw174, h179, h180, h181, h182, h183, h184, h185, h186⟩ := hw174
        have h179 : at160 ≤ at176 := h179
        have h180 : at176 ≤ T := h180
        have h181 : 0 ≤ fa177 := h181
        have h182 : fa177 ≤ 100 := h182
        have h183 : If (0 < 0) (at176 = at160 ∧ fa177 = 0) := h183
        have h184 : at176 ≤ at160 + 1 := h184
        have h185 : at160 + 1 ≤ at176 + fa177 := h185
        have h186 : If (fa177 = 0) (K at160 = 40) := h186
        obtain rfl : v175 = none := hw174
        have hP : va_P G.1 pCl (mW G h0 a (upd (upd (upd (upd (upd (upd (upd F 15 (nI fa177)) 16 pl178) 27 (nI nd20)) 31 (nI wr22)) 64 (nI at176)) 65 (nI ne)) 66 (nI lk21)) (updA (stR X24 12 nd (nI r23)) 2 K)) _ := mW_to (F := F) (l1 := [(15, 0), (16, pl19), (27, (nI nd20)), (31, (nI wr22)), (64, (nI at160)), (65, (nI ne)), (66, (nI lk21)), (15, (nI fa177)), (16, pl178), (64, (nI at176))]) (l2 := [(15, (nI fa177)), (16, pl178), (27, (nI nd20)), (31, (nI wr22)), (64, (nI at176)), (65, (nI ne)), (66, (nI lk21))]) (V := [(nI fa177), pl178, (nI nd20), (nI wr22), (nI at176), (nI ne), (nI lk21), (nI fa177), pl178, (nI at176), (nI fa177), pl178, (nI nd20), (nI wr22), (nI at176), (nI ne), (nI lk21)]) rfl rfl (show (updA (updA (stR X24 12 nd (nI r23)) 2 K) 2 K) = (updA (stR X24 12 nd (nI r23)) 2 K) from updsA_eq2 (F := X24) (l1 := [(12, (upd (X24 12) nd (nI r23))), (2, K), (2, K)]) (l2 := [(12, (upd (X24 12) nd (nI r23))), (2, K)]) (V := [(upd (X24 12) nd (nI r23)), K, K, (upd (X24 12) nd (nI r23)), K]) rfl rfl) hP
        have hD : va_D A (mW G h0 a (upd (upd (upd (upd (upd (upd (upd F 15 (nI fa177)) 16 pl178) 27 (nI nd20)) 31 (nI wr22)) 64 (nI at176)) 65 (nI ne)) 66 (nI lk21)) (updA (stR X24 12 nd (nI r23)) 2 K)) := mW_D hD
        refine W.widen (k := 0) (n := 0) (Nat.le_of_ble_eq_true rfl) (Nat.le_of_ble_eq_true rfl) ?_
        refine W.eq (g2 := F0 m 94 ls []) rfl ?_
        rcases Nat.eq_zero_or_pos fa177 with e187 | e187
        · subst e187
          have hP : va_P G.1 pCl (mW G h0 a (upd (upd (upd (upd (upd (upd (upd F 15 0) 16 pl178) 27 (nI nd20)) 31 (nI wr22)) 64 (nI at176)) 65 (nI ne)) 66 (nI lk21)) (updA (stR X24 12 nd (nI r23)) 2 K)) _ := hP
          have hD : va_D A (mW G h0 a (upd (upd (upd (upd (upd (upd (upd F 15 0) 16 pl178) 27 (nI nd20)) 31 (nI wr22)) 64 (nI at176)) 65 (nI ne)) 66 (nI lk21)) (updA (stR X24 12 nd (nI r23)) 2 K)) := mW_D hD
          refine lv_aload_n hx hb dX12_attempt_94 rfl (lv_at hl 3 rfl) ?_
          have hP : va_P G.1 pCl (mW G h0 a (upd (upd (upd (upd (upd (upd (upd (upd (upd F 15 0) 16 pl178) 27 (nI nd20)) 31 (nI wr22)) 64 (nI at176)) 65 (nI ne)) 66 (nI lk21)) 15 (nI 0)) 64 (nI at176)) (updA (updA (stR X24 12 nd (nI r23)) 2 K) 2 K)) _ := mW_to (F := F) (l1 := [(15, 0), (16, pl178), (27, (nI nd20)), (31, (nI wr22)), (64, (nI at176)), (65, (nI ne)), (66, (nI lk21))]) (l2 := [(15, 0), (16, pl178), (27, (nI nd20)), (31, (nI wr22)), (64, (nI at176)), (65, (nI ne)), (66, (nI lk21)), (15, (nI 0)), (64, (nI at176))]) (V := [(nI 0), pl178, (nI nd20), (nI wr22), (nI at176), (nI ne), (nI lk21), (nI 0), pl178, (nI nd20), (nI wr22), (nI at176), (nI ne), (nI lk21), (nI 0), (nI at176)]) rfl rfl (show (updA (stR X24 12 nd (nI r23)) 2 K) = (updA (updA (stR X24 12 nd (nI r23)) 2 K) 2 K) from updsA_eq2 (F := X24) (l1 := [(12, (upd (X24 12) nd (nI r23))), (2, K)]) (l2 := [(12, (upd (X24 12) nd (nI r23))), (2, K), (2, K)]) (V := [(upd (X24 12) nd (nI r23)), K, (upd (X24 12) nd (nI r23)), K, K]) rfl rfl) hP
          have hD : va_D A (mW G h0 a (upd (upd (upd (upd (upd (upd (upd (upd (upd F 15 0) 16 pl178) 27 (nI nd20)) 31 (nI wr22)) 64 (nI at176)) 65 (nI ne)) 66 (nI lk21)) 15 (nI 0)) 64 (nI at176)) (updA (updA (stR X24 12 nd (nI r23)) 2 K) 2 K)) := mW_D hD
          refine pc_V0 (G := G) (As := []) (rest := []) hx hb hml hown hq hE hX pX0_al hP hD hS hA hl.1 (R_name l G h0 a (upd (upd (upd (upd (upd (upd (upd F 15 0) 16 pl178) 27 (nI nd20)) 31 (nI wr22)) 64 (nI at176)) 65 (nI ne)) 66 (nI lk21)) (updA (stR X24 12 nd (nI r23)) 2 K) at176 T 0 K (by omega) (by omega) hK (by omega)) (gV pw_1618 pw_1619 pw_1620 pw_1523 pw_1613) hV_X12_name 0 9 rfl rfl rfl rfl (Nat.le_of_ble_eq_true rfl) dX12_attempt_95 ⟨Nat.le_of_ble_eq_true rfl, Nat.le_of_ble_eq_true rfl⟩ ⟨(by show 5 + 1 ≤ (26 * n + 43); omega), (by show 8 + (2 + 11) + 124 ≤ (2000 * n + 4300); omega)⟩ (fun v190 u188 H locs hw189 hP hD hS => ?_)
          obtain ⟨at191, fa192, pl193⟩ := u188
          obtain ⟨hw189, h194, h195, h196, h197, h198, h199, h200, h201⟩ := hw189
          have h194 : at176 ≤ at191 := h194
          have h195 : at191 ≤ T := h195
          have h196 : 0 ≤ fa192 := h196
          have h197 : fa192 ≤ 100 := h197
          have h198 : If (0 < 0) (at191 = at176 ∧ fa192 = 0) := h198
          have h199 : at191 ≤ at176 + 1 := h199
          have h200 : at176 + 1 ≤ at191 + fa192 := h200
          have h201 : If (fa192 = 0) (K at176 = 1) := h201
          obtain rfl : v190 = some (.int (nI at176)) := hw189
          have hP : va_P G.1 pCl (mW G h0 a (upd (upd (upd (upd (upd (upd (upd F 15 (nI fa192)) 16 pl193) 27 (nI nd20)) 31 (nI wr22)) 64 (nI at191)) 65 (nI ne)) 66 (nI lk21)) (updA (stR X24 12 nd (nI r23)) 2 K)) _ := mW_to (F := F) (l1 := [(15, 0), (16, pl178), (27, (nI nd20)), (31, (nI wr22)), (64, (nI at176)), (65, (nI ne)), (66, (nI lk21)), (15, (nI fa192)), (16, pl193), (64, (nI at191))]) (l2 := [(15, (nI fa192)), (16, pl193), (27, (nI nd20)), (31, (nI wr22)), (64, (nI at191)), (65, (nI ne)), (66, (nI lk21))]) (V := [(nI fa192), pl193, (nI nd20), (nI wr22), (nI at191), (nI ne), (nI lk21), (nI fa192), pl193, (nI at191), (nI fa192), pl193, (nI nd20), (nI wr22), (nI at191), (nI ne), (nI lk21)]) rfl rfl (show (updA (updA (stR X24 12 nd (nI r23)) 2 K) 2 K) = (updA (stR X24 12 nd (nI r23)) 2 K) from updsA_eq2 (F := X24) (l1 := [(12, (upd (X24 12) nd (nI r23))), (2, K), (2, K)]) (l2 := [(12, (upd (X24 12) nd (nI r23))), (2, K)]) (V := [(upd (X24 12) nd (nI r23)), K, K, (upd (X24 12) nd (nI r23)), K]) rfl rfl) hP
          have hD : va_D A (mW G h0 a (upd (upd (upd (upd (upd (upd (upd F 15 (nI fa192)) 16 pl193) 27 (nI nd20)) 31 (nI wr22)) 64 (nI at191)) 65 (nI ne)) 66 (nI lk21)) (updA (stR X24 12 nd (nI r23)) 2 K)) := mW_D hD
          refine W.widen (k := 0) (n := 0) (Nat.le_of_ble_eq_true rfl) (Nat.le_of_ble_eq_true rfl) ?_
          refine W.eq (g2 := F0 m 98 ls [.int (nI at176)]) rfl ?_
          rcases Nat.eq_zero_or_pos fa192 with e202 | e202
          · subst e202
            have hP : va_P G.1 pCl (mW G h0 a (upd (upd (upd (upd (upd (upd (upd F 15 0) 16 pl193) 27 (nI nd20)) 31 (nI wr22)) 64 (nI at191)) 65 (nI ne)) 66 (nI lk21)) (updA (stR X24 12 nd (nI r23)) 2 K)) _ := hP
            have hD : va_D A (mW G h0 a (upd (upd (upd (upd (upd (upd (upd F 15 0) 16 pl193) 27 (nI nd20)) 31 (nI wr22)) 64 (nI at191)) 65 (nI ne)) 66 (nI lk21)) (updA (stR X24 12 nd (nI r23)) 2 K)) := mW_D hD
            refine lv_istore (lv' := [(4, .int (nI at176)), (3, .int (nI (at160 - 1))), (2, .int (-1)), (1, .int (nI nd)), (0, .ref h0)]) hx hb dX12_attempt_98 hl (by decide) rfl (fun ls hl => ?_)
            refine lv_aload_n hx hb dX12_attempt_100 rfl (lv_at hl 4 rfl) ?_
            have hP : va_P G.1 pCl (mW G h0 a (upd (upd (upd (upd (upd (upd (upd (upd (upd F 15 0) 16 pl193) 27 (nI nd20)) 31 (nI wr22)) 64 (nI at191)) 65 (nI ne)) 66 (nI lk21)) 15 (nI 0)) 64 (nI at191)) (updA (updA (stR X24 12 nd (nI r23)) 2 K) 2 K)) _ := mW_to (F := F) (l1 := [(15, 0), (16, pl193), (27, (nI nd20)), (31, (nI wr22)), (64, (nI at191)), (65, (nI ne)), (66, (nI lk21))]) (l2 := [(15, 0), (16, pl193), (27, (nI nd20)), (31, (nI wr22)), (64, (nI at191)), (65, (nI ne)), (66, (nI lk21)), (15, (nI 0)), (64, (nI at191))]) (V := [(nI 0), pl193, (nI nd20), (nI wr22), (nI at191), (nI ne), (nI lk21), (nI 0), pl193, (nI nd20), (nI wr22), (nI at191), (nI ne), (nI lk21), (nI 0), (nI at191)]) rfl rfl (show (updA (stR X24 12 nd (nI r23)) 2 K) = (updA (updA (stR X24 12 nd (nI r23)) 2 K) 2 K) from updsA_eq2 (F := X24) (l1 := [(12, (upd (X24 12) nd (nI r23))), (2, K)]) (l2 := [(12, (upd (X24 12) nd (nI r23))), (2, K), (2, K)]) (V := [(upd (X24 12) nd (nI r23)), K, (upd (X24 12) nd (nI r23)), K, K]) rfl rfl) hP
            have hD : va_D A (mW G h0 a (upd (upd (upd (upd (upd (upd (upd (upd (upd F 15 0) 16 pl193) 27 (nI nd20)) 31 (nI wr22)) 64 (nI at191)) 65 (nI ne)) 66 (nI lk21)) 15 (nI 0)) 64 (nI at191)) (updA (updA (stR X24 12 nd (nI r23)) 2 K) 2 K)) := mW_D hD
            refine pc_V0 (G := G) (As := []) (rest := []) hx hb hml hown hq hE hX pX0_al hP hD hS hA hl.1 (R_name l G h0 a (upd (upd (upd (upd (upd (upd (upd F 15 0) 16 pl193) 27 (nI nd20)) 31 (nI wr22)) 64 (nI at191)) 65 (nI ne)) 66 (nI lk21)) (updA (stR X24 12 nd (nI r23)) 2 K) at191 T 0 K (by omega) (by omega) hK (by omega)) (gV pw_1618 pw_1619 pw_1620 pw_1523 pw_1613) hV_X12_name 0 9 rfl rfl rfl rfl (Nat.le_of_ble_eq_true rfl) dX12_attempt_101 ⟨Nat.le_of_ble_eq_true rfl, Nat.le_of_ble_eq_true rfl⟩ ⟨(by show 5 + 1 ≤ (26 * n + 43); omega), (by show 8 + (2 + 11) + 124 ≤ (2000 * n + 4300); omega)⟩ (fun v205 u203 H locs hw204 hP hD hS => ?_)
            obtain ⟨at206, fa207, pl208⟩ := u203
            obtain ⟨hw204, h209, h210, h211, h212, h213, h214, h215, h216⟩ := hw204
            have h209 : at191 ≤ at206 := h209
            have h210 : at206 ≤ T := h210
            have h211 : 0 ≤ fa207 := h211
            have h212 : fa207 ≤ 100 := h212
            have h213 : If (0 < 0) (at206 = at191 ∧ fa207 = 0) := h213
            have h214 : at206 ≤ at191 + 1 := h214
            have h215 : at191 + 1 ≤ at206 + fa207 := h215
            have h216 : If (fa207 = 0) (K at191 = 1) := h216
            obtain rfl : v205 = some (.int (nI at191)) := hw204
            have hP : va_P G.1 pCl (mW G h0 a (upd (upd (upd (upd (upd (upd (upd F 15 (nI fa207)) 16 pl208) 27 (nI nd20)) 31 (nI wr22)) 64 (nI at206)) 65 (nI ne)) 66 (nI lk21)) (updA (stR X24 12 nd (nI r23)) 2 K)) _ := mW_to (F := F) (l1 := [(15, 0), (16, pl193), (27, (nI nd20)), (31, (nI wr22)), (64, (nI at191)), (65, (nI ne)), (66, (nI lk21)), (15, (nI fa207)), (16, pl208), (64, (nI at206))]) (l2 := [(15, (nI fa207)), (16, pl208), (27, (nI nd20)), (31, (nI wr22)), (64, (nI at206)), (65, (nI ne)), (66, (nI lk21))]) (V := [(nI fa207), pl208, (nI nd20), (nI wr22), (nI at206), (nI ne), (nI lk21), (nI fa207), pl208, (nI at206), (nI fa207), pl208, (nI nd20), (nI wr22), (nI at206), (nI ne), (nI lk21)]) rfl rfl (show (updA (updA (stR X24 12 nd (nI r23)) 2 K) 2 K) = (updA (stR X24 12 nd (nI r23)) 2 K) from updsA_eq2 (F := X24) (l1 := [(12, (upd (X24 12) nd (nI r23))), (2, K), (2, K)]) (l2 := [(12, (upd (X24 12) nd (nI r23))), (2, K)]) (V := [(upd (X24 12) nd (nI r23)), K, K, (upd (X24 12) nd (nI r23)), K]) rfl rfl) hP
            have hD : va_D A (mW G h0 a (upd (upd (upd (upd (upd (upd (upd F 15 (nI fa207)) 16 pl208) 27 (nI nd20)) 31 (nI wr22)) 64 (nI at206)) 65 (nI ne)) 66 (nI lk21)) (updA (stR X24 12 nd (nI r23)) 2 K)) := mW_D hD
            refine W.widen (k := 0) (n := 0) (Nat.le_of_ble_eq_true rfl) (Nat.le_of_ble_eq_true rfl) ?_
            refine W.eq (g2 := F0 m 104 ls [.int (nI at191)]) rfl ?_
            rcases Nat.eq_zero_or_pos fa207 with e217 | e217
            · subst e217
              have hP : va_P G.1 pCl (mW G h0 a (upd (upd (upd (upd (upd (upd (upd F 15 0) 16 pl208) 27 (nI nd20)) 31 (nI wr22)) 64 (nI at206)) 65 (nI ne)) 66 (nI lk21)) (updA (stR X24 12 nd (nI r23)) 2 K)) _ := hP
              have hD : va_D A (mW G h0 a (upd (upd (upd (upd (upd (upd (upd F 15 0) 16 pl208) 27 (nI nd20)) 31 (nI wr22)) 64 (nI at206)) 65 (nI ne)) 66 (nI lk21)) (updA (stR X24 12 nd (nI r23)) 2 K)) := mW_D hD
              refine lv_istore (lv' := [(5, .int (nI at191)), (4, .int (nI at176)), (3, .int (nI (at160 - 1))), (2, .int (-1)), (1, .int (nI nd)), (0, .ref h0)]) hx hb dX12_attempt_104 hl (by decide) rfl (fun ls hl => ?_)
              refine lv_aload_n hx hb dX12_attempt_106 rfl (lv_at hl 5 rfl) ?_
              refine lv_bipush (v := 41) hx hb dX12_attempt_107 (by decide) ?_
              have hP : va_P G.1 pCl (mW G h0 a (upd (upd (upd (upd (upd (upd (upd (upd (upd F 15 0) 16 pl208) 27 (nI nd20)) 31 (nI wr22)) 64 (nI at206)) 65 (nI ne)) 66 (nI lk21)) 15 (nI 0)) 64 (nI at206)) (updA (updA (stR X24 12 nd (nI r23)) 2 K) 2 K)) _ := mW_to (F := F) (l1 := [(15, 0), (16, pl208), (27, (nI nd20)), (31, (nI wr22)), (64, (nI at206)), (65, (nI ne)), (66, (nI lk21))]) (l2 := [(15, 0), (16, pl208), (27, (nI nd20)), (31, (nI wr22)), (64, (nI at206)), (65, (nI ne)), (66, (nI lk21)), (15, (nI 0)), (64, (nI at206))]) (V := [(nI 0), pl208, (nI nd20), (nI wr22), (nI at206), (nI ne), (nI lk21), (nI 0), pl208, (nI nd20), (nI wr22), (nI at206), (nI ne), (nI lk21), (nI 0), (nI at206)]) rfl rfl (show (updA (stR X24 12 nd (nI r23)) 2 K) = (updA (updA (stR X24 12 nd (nI r23)) 2 K) 2 K) from updsA_eq2 (F := X24) (l1 := [(12, (upd (X24 12) nd (nI r23))), (2, K)]) (l2 := [(12, (upd (X24 12) nd (nI r23))), (2, K), (2, K)]) (V := [(upd (X24 12) nd (nI r23)), K, (upd (X24 12) nd (nI r23)), K, K]) rfl rfl) hP
              have hD : va_D A (mW G h0 a (upd (upd (upd (upd (upd (upd (upd (upd (upd F 15 0) 16 pl208) 27 (nI nd20)) 31 (nI wr22)) 64 (nI at206)) 65 (nI ne)) 66 (nI lk21)) 15 (nI 0)) 64 (nI at206)) (updA (updA (stR X24 12 nd (nI r23)) 2 K) 2 K)) := mW_D hD
              refine pc_V0 (G := G) (As := [.int 41]) (rest := []) hx hb hml hown hq hE hX pX0_al hP hD hS hA hl.1 (R_take l G h0 a (upd (upd (upd (upd (upd (upd (upd F 15 0) 16 pl208) 27 (nI nd20)) 31 (nI wr22)) 64 (nI at206)) 65 (nI ne)) 66 (nI lk21)) (updA (stR X24 12 nd (nI r23)) 2 K) at206 T 0 K 41 (by omega) (by omega) hK (by omega) (by decide) (by decide)) (gV pw_1614 pw_1615 pw_1616 pw_1523 pw_1601) hV_X12_take 0 9 rfl rfl rfl rfl (Nat.le_of_ble_eq_true rfl) dX12_attempt_109 ⟨Nat.le_of_ble_eq_true rfl, Nat.le_of_ble_eq_true rfl⟩ ⟨(by show 4 + 1 ≤ (26 * n + 43); omega), (by show 8 + (2 + 11) + 103 ≤ (2000 * n + 4300); omega)⟩ (fun v220 u218 H locs hw219 hP hD hS => ?_)
              obtain ⟨at221, fa222, pl223⟩ := u218
              obtain ⟨hw219, h224, h225, h226, h227, h228, h229, h230, h231⟩ := hw219
              have h224 : at206 ≤ at221 := h224
              have h225 : at221 ≤ T := h225
              have h226 : 0 ≤ fa222 := h226
              have h227 : fa222 ≤ 100 := h227
              have h228 : If (0 < 0) (at221 = at206 ∧ fa222 = 0) := h228
              have h229 : at221 ≤ at206 + 1 := h229
              have h230 : at206 + 1 ≤ at221 + fa222 := h230
              have h231 : If (fa222 = 0) (K at206 = 41) := h231
              obtain rfl : v220 = none := hw219
              have hP : va_P G.1 pCl (mW G h0 a (upd (upd (upd (upd (upd (upd (upd F 15 (nI fa222)) 16 pl223) 27 (nI nd20)) 31 (nI wr22)) 64 (nI at221)) 65 (nI ne)) 66 (nI lk21)) (updA (stR X24 12 nd (nI r23)) 2 K)) _ := mW_to (F := F) (l1 := [(15, 0), (16, pl208), (27, (nI nd20)), (31, (nI wr22)), (64, (nI at206)), (65, (nI ne)), (66, (nI lk21)), (15, (nI fa222)), (16, pl223), (64, (nI at221))]) (l2 := [(15, (nI fa222)), (16, pl223), (27, (nI nd20)), (31, (nI wr22)), (64, (nI at221)), (65, (nI ne)), (66, (nI lk21))]) (V := [(nI fa222), pl223, (nI nd20), (nI wr22), (nI at221), (nI ne), (nI lk21), (nI fa222), pl223, (nI at221), (nI fa222), pl223, (nI nd20), (nI wr22), (nI at221), (nI ne), (nI lk21)]) rfl rfl (show (updA (updA (stR X24 12 nd (nI r23)) 2 K) 2 K) = (updA (stR X24 12 nd (nI r23)) 2 K) from updsA_eq2 (F := X24) (l1 := [(12, (upd (X24 12) nd (nI r23))), (2, K), (2, K)]) (l2 := [(12, (upd (X24 12) nd (nI r23))), (2, K)]) (V := [(upd (X24 12) nd (nI r23)), K, K, (upd (X24 12) nd (nI r23)), K]) rfl rfl) hP
              have hD : va_D A (mW G h0 a (upd (upd (upd (upd (upd (upd (upd F 15 (nI fa222)) 16 pl223) 27 (nI nd20)) 31 (nI wr22)) 64 (nI at221)) 65 (nI ne)) 66 (nI lk21)) (updA (stR X24 12 nd (nI r23)) 2 K)) := mW_D hD
              refine W.widen (k := 0) (n := 0) (Nat.le_of_ble_eq_true rfl) (Nat.le_of_ble_eq_true rfl) ?_
              refine W.eq (g2 := F0 m 112 ls []) rfl ?_
              rcases Nat.eq_zero_or_pos fa222 with e232 | e232
              · subst e232
                have hP : va_P G.1 pCl (mW G h0 a (upd (upd (upd (upd (upd (upd (upd F 15 0) 16 pl223) 27 (nI nd20)) 31 (nI wr22)) 64 (nI at221)) 65 (nI ne)) 66 (nI lk21)) (updA (stR X24 12 nd (nI r23)) 2 K)) _ := hP
                have hD : va_D A (mW G h0 a (upd (upd (upd (upd (upd (upd (upd F 15 0) 16 pl223) 27 (nI nd20)) 31 (nI wr22)) 64 (nI at221)) 65 (nI ne)) 66 (nI lk21)) (updA (stR X24 12 nd (nI r23)) 2 K)) := mW_D hD
                refine lv_aload_n hx hb dX12_attempt_112 rfl (lv_at hl 5 rfl) ?_
                refine lv_bipush (v := 44) hx hb dX12_attempt_113 (by decide) ?_
                refine lv_iload_n hx hb dX12_attempt_115 rfl (lv_at hl 2 rfl) ?_
                refine lv_iload hx hb dX12_attempt_116 (lv_at hl 0 rfl) ?_
                refine lv_iload hx hb dX12_attempt_118 (lv_at hl 1 rfl) ?_
                refine lv_iconst (v := (-1)) hx hb dX12_attempt_120 (by decide) ?_
                have hP : va_P G.1 pCl (mW G h0 a (upd (upd (upd (upd (upd (upd (upd (upd F 15 0) 16 pl223) 27 (nI nd20)) 31 (nI wr22)) 64 (nI at221)) 65 (nI ne)) 66 (nI lk21)) 27 (nI nd20)) (updA (stR X24 12 nd (nI r23)) 2 K)) _ := mW_to (F := F) (l1 := [(15, 0), (16, pl223), (27, (nI nd20)), (31, (nI wr22)), (64, (nI at221)), (65, (nI ne)), (66, (nI lk21))]) (l2 := [(15, 0), (16, pl223), (27, (nI nd20)), (31, (nI wr22)), (64, (nI at221)), (65, (nI ne)), (66, (nI lk21)), (27, (nI nd20))]) (V := [0, pl223, (nI nd20), (nI wr22), (nI at221), (nI ne), (nI lk21), 0, pl223, (nI nd20), (nI wr22), (nI at221), (nI ne), (nI lk21), (nI nd20)]) rfl rfl rfl hP
                have hD : va_D A (mW G h0 a (upd (upd (upd (upd (upd (upd (upd (upd F 15 0) 16 pl223) 27 (nI nd20)) 31 (nI wr22)) 64 (nI at221)) 65 (nI ne)) 66 (nI lk21)) 27 (nI nd20)) (updA (stR X24 12 nd (nI r23)) 2 K)) := mW_D hD
                refine pc_V0 (G := G) (As := [.int 44, .int (nI (at160 - 1)), .int (nI at191), .int (nI at176), .int (-1)]) (rest := []) hx hb hml hown hq hE hX pX0_al hP hD hS hA hl.1 (R_nodeB l G h0 a (upd (upd (upd (upd (upd (upd (upd F 15 0) 16 pl223) 27 (nI nd20)) 31 (nI wr22)) 64 (nI at221)) 65 (nI ne)) 66 (nI lk21)) (stR X24 12 nd (nI r23)) 44 (nI (at160 - 1)) (nI at191) (nI at176) (-1) nd20 K (by omega)) (gV pw_1650 pw_1651 pw_1652 pw_1523 pw_1589) hV_X12_node 0 9 rfl rfl rfl rfl (Nat.le_of_ble_eq_true rfl) dX12_attempt_121 ⟨Nat.le_of_ble_eq_true rfl, Nat.le_of_ble_eq_true rfl⟩ ⟨(by show 2 + 1 ≤ (26 * n + 43); omega), (by show 8 + (7 + 11) + 60 ≤ (2000 * n + 4300); omega)⟩ (fun v235 u233 H locs hw234 hP hD hS => ?_)
                obtain ⟨X236, rfl⟩ : ∃ z, z = u233 := ⟨_, rfl⟩
                obtain ⟨hw234, h237⟩ := hw234
                have h237 : NewN (stR X24 12 nd (nI r23)) X236 nd20 44 (nI (at160 - 1)) (nI at191) (nI at176) (-1) := h237
                obtain rfl : v235 = some (.int (nI nd20)) := hw234
                have hP : va_P G.1 pCl (mW G h0 a (upd (upd (upd (upd (upd (upd (upd F 15 0) 16 pl223) 27 (nI (nd20 + 1))) 31 (nI wr22)) 64 (nI at221)) 65 (nI ne)) 66 (nI lk21)) (updA X236 2 K)) _ := mW_to (F := F) (l1 := [(15, 0), (16, pl223), (27, (nI nd20)), (31, (nI wr22)), (64, (nI at221)), (65, (nI ne)), (66, (nI lk21)), (27, (nI (nd20 + 1)))]) (l2 := [(15, 0), (16, pl223), (27, (nI (nd20 + 1))), (31, (nI wr22)), (64, (nI at221)), (65, (nI ne)), (66, (nI lk21))]) (V := [0, pl223, (nI (nd20 + 1)), (nI wr22), (nI at221), (nI ne), (nI lk21), (nI (nd20 + 1)), 0, pl223, (nI (nd20 + 1)), (nI wr22), (nI at221), (nI ne), (nI lk21)]) rfl rfl rfl hP
                have hD : va_D A (mW G h0 a (upd (upd (upd (upd (upd (upd (upd F 15 0) 16 pl223) 27 (nI (nd20 + 1))) 31 (nI wr22)) 64 (nI at221)) 65 (nI ne)) 66 (nI lk21)) (updA X236 2 K)) := mW_D hD
                refine W.widen (k := 0) (n := 0) (Nat.le_of_ble_eq_true rfl) (Nat.le_of_ble_eq_true rfl) ?_
                refine W.eq (g2 := F0 m 124 ls [.int (nI nd20)]) rfl ?_
                have hkp238 : Kp B X236 wr22 T := (Kp.new hkp48 h237)
                have hlo239 : Low B X236 nd wr := (Low.new hlo49 h237 (by omega))
                have hf240 : Frs K T wr22 X236 nd nd20 20000 [(nd, (280 + 4 * (21 - ne)))] := (Frs.same hf54 (by omega) (fun j i q1 q2 q3 q4 => (h237.2.1 j i (by omega))))
                have hn241 : Nd X236 nd 41 (nI r23) (-1) (-1) (-1) := (Nd.new hn51 h237 (by omega))
                have hf242 : Frs K T wr22 X236 nd20 (nd20 + 1) nd20 [(nd20, 0)] := (Frs.new0 (k := 44) Frs.nil (Nat.le_refl _) (Nat.le_refl _) h237 rfl (by decide) (by decide) (by omega) (by omega) (fun e => absurd e (by decide)) ⟨fun e => absurd e (by decide), fun _ => Or.inr ⟨at176, rfl, by omega⟩, fun _ e => absurd (by decide) e⟩ (newOK.m1 (by decide)) (newOK.m1 (by decide)) (newOK.m1 (by decide)))
                have hn243 : Nd X236 nd20 44 (nI at176) (-1) (-1) (-1) := (NewN.toNd h237)
                refine lv_istore (lv' := [(6, .int (nI nd20)), (5, .int (nI at191)), (4, .int (nI at176)), (3, .int (nI (at160 - 1))), (2, .int (-1)), (1, .int (nI nd)), (0, .ref h0)]) hx hb dX12_attempt_124 hl (by decide) rfl (fun ls hl => ?_)
                refine lv_aload_n hx hb dX12_attempt_126 rfl (lv_at hl 6 rfl) ?_
                refine r_get (v := .ref (a 13)) hx hb hown hq hE hP 21 50 tFX12_21 (by decide) pw_1443 rfl dX12_attempt_127 ?_
                refine lv_iload hx hb dX12_attempt_130 (lv_at hl 0 rfl) ?_
                refine lv_aload_n hx hb dX12_attempt_132 rfl (lv_at hl 6 rfl) ?_
                have hP : va_P G.1 pCl (mW G h0 a (upd (upd (upd (upd (upd (upd (upd (upd (upd (upd (upd (upd (upd F 15 0) 16 pl223) 27 (nI (nd20 + 1))) 31 (nI wr22)) 64 (nI at221)) 65 (nI ne)) 66 (nI lk21)) 15 0) 27 (nI (nd20 + 1))) 31 (nI wr22)) 64 (nI at221)) 65 (nI ne)) 66 (nI lk21)) (updA X236 2 K)) _ := mW_to (F := F) (l1 := [(15, 0), (16, pl223), (27, (nI (nd20 + 1))), (31, (nI wr22)), (64, (nI at221)), (65, (nI ne)), (66, (nI lk21))]) (l2 := [(15, 0), (16, pl223), (27, (nI (nd20 + 1))), (31, (nI wr22)), (64, (nI at221)), (65, (nI ne)), (66, (nI lk21)), (15, 0), (27, (nI (nd20 + 1))), (31, (nI wr22)), (64, (nI at221)), (65, (nI ne)), (66, (nI lk21))]) (V := [0, pl223, (nI (nd20 + 1)), (nI wr22), (nI at221), (nI ne), (nI lk21), 0, pl223, (nI (nd20 + 1)), (nI wr22), (nI at221), (nI ne), (nI lk21), 0, (nI (nd20 + 1)), (nI wr22), (nI at221), (nI ne), (nI lk21)]) rfl rfl rfl hP
                have hD : va_D A (mW G h0 a (upd (upd (upd (upd (upd (upd (upd (upd (upd (upd (upd (upd (upd F 15 0) 16 pl223) 27 (nI (nd20 + 1))) 31 (nI wr22)) 64 (nI at221)) 65 (nI ne)) 66 (nI lk21)) 15 0) 27 (nI (nd20 + 1))) 31 (nI wr22)) 64 (nI at221)) 65 (nI ne)) 66 (nI lk21)) (updA X236 2 K)) := mW_D hD
                refine pc_V0 (G := G) (As := []) (rest := [.int (nI nd20), .ref (a 13)]) hx hb hml hown hq hE hX pX0_al hP hD hS hA hl.1 (hBk h0 a (upd (upd (upd (upd (upd (upd (upd F 15 0) 16 pl223) 27 (nI (nd20 + 1))) 31 (nI wr22)) 64 (nI at221)) 65 (nI ne)) 66 (nI lk21)) X236 at221 T ne (nd20 + 1) wr22 lk21 K (by omega) (by omega) hK (by omega) (by omega) (by omega) (by omega) (hkp238).2 (by omega)) (gV pw_1685 pw_1686 pw_1687 pw_1523 pw_1688) hV_X12_block 0 9 rfl rfl rfl rfl (Nat.le_of_ble_eq_true rfl) dX12_attempt_133 ⟨Nat.le_of_ble_eq_true rfl, Nat.le_of_ble_eq_true rfl⟩ ⟨(by show (26 * n + 42) + 1 ≤ (26 * n + 43); omega), (by show 8 + (4 + 11) + (2000 * n + 4200) ≤ (2000 * n + 4300); omega)⟩ (fun v246 u244 H locs hw245 hP hD hS => ?_)
                obtain ⟨at247, fa248, pl249, nd250, lk251, wr252, r253, X254⟩ := u244
                obtain ⟨hw245, h255, h256, h257, h258, h259, h260, h261, h262, h263, h264, h265, h266, h267, h268⟩ := hw245
                have h255 : at221 ≤ at247 := h255
                have h256 : at247 ≤ T := h256
                have h257 : fa248 ≤ 100 := h257
                have h258 : (nd20 + 1) ≤ nd250 := h258
                have h259 : nd250 + 2 * at221 ≤ (nd20 + 1) + 2 * at247 + 100000 * fa248 := h259
                have h260 : nd250 + 2 * at221 ≤ (nd20 + 1) + 2 * at247 + (60 * (20 - ne) + 50) := h260
                have h261 : wr22 ≤ wr252 := h261
                have h262 : wr252 + at221 ≤ wr22 + at247 := h262
                have h263 : lk21 ≤ lk251 := h263
                have h264 : lk251 ≤ lk21 := h264
                have h265 : at221 + 1 ≤ at247 + fa248 := h265
                have h266 : r253 ≤ nd250 := h266
                have h267 : Kp X236 X254 wr252 T := h267
                have h268 : If (fa248 = 0) (Low X236 X254 (nd20 + 1) wr22 ∧ Frs K T wr252 X254 (nd20 + 1) nd250 20000 [(r253, (281 + 4 * (20 - ne)))] ∧ kcl 10 (X254 9 r253) = true) := h268
                obtain rfl : v246 = some (.int (nI r253)) := hw245
                have hP : va_P G.1 pCl (mW G h0 a (upd (upd (upd (upd (upd (upd (upd F 15 (nI fa248)) 16 pl249) 27 (nI nd250)) 31 (nI wr252)) 64 (nI at247)) 65 (nI ne)) 66 (nI lk251)) (updA X254 2 K)) _ := mW_to (F := F) (l1 := [(15, 0), (16, pl223), (27, (nI (nd20 + 1))), (31, (nI wr22)), (64, (nI at221)), (65, (nI ne)), (66, (nI lk21)), (15, (nI fa248)), (16, pl249), (27, (nI nd250)), (31, (nI wr252)), (64, (nI at247)), (65, (nI ne)), (66, (nI lk251))]) (l2 := [(15, (nI fa248)), (16, pl249), (27, (nI nd250)), (31, (nI wr252)), (64, (nI at247)), (65, (nI ne)), (66, (nI lk251))]) (V := [(nI fa248), pl249, (nI nd250), (nI wr252), (nI at247), (nI ne), (nI lk251), (nI fa248), pl249, (nI nd250), (nI wr252), (nI at247), (nI ne), (nI lk251), (nI fa248), pl249, (nI nd250), (nI wr252), (nI at247), (nI ne), (nI lk251)]) rfl rfl rfl hP
                have hD : va_D A (mW G h0 a (upd (upd (upd (upd (upd (upd (upd F 15 (nI fa248)) 16 pl249) 27 (nI nd250)) 31 (nI wr252)) 64 (nI at247)) 65 (nI ne)) 66 (nI lk251)) (updA X254 2 K)) := mW_D hD
                refine W.widen (k := 0) (n := 0) (Nat.le_of_ble_eq_true rfl) (Nat.le_of_ble_eq_true rfl) ?_
                refine W.eq (g2 := F0 m 136 ls [.int (nI r253), .int (nI nd20), .ref (a 13)]) rfl ?_
                have hkp269 : Kp B X254 wr252 T := (Kp.trans hkp238 h267)
                rcases Nat.eq_zero_or_pos fa248 with e270 | e270
                · subst e270
                  have hP : va_P G.1 pCl (mW G h0 a (upd (upd (upd (upd (upd (upd (upd F 15 0) 16 pl249) 27 (nI nd250)) 31 (nI wr252)) 64 (nI at247)) 65 (nI ne)) 66 (nI lk251)) (updA X254 2 K)) _ := hP
                  have hD : va_D A (mW G h0 a (upd (upd (upd (upd (upd (upd (upd F 15 0) 16 pl249) 27 (nI nd250)) 31 (nI wr252)) 64 (nI at247)) 65 (nI ne)) 66 (nI lk251)) (updA X254 2 K)) := mW_D hD
                  obtain ⟨hlw271, hf272, hc273⟩ := h268 rfl
                  have hlo274 : Low B X254 nd wr := (Low.trans hlo239 hlw271 (by omega) (by omega))
                  have hf275 : Frs K T wr252 X254 nd nd20 20000 [(nd, (280 + 4 * (21 - ne)))] := (Frs.same hf240 (by omega) (fun j i q1 q2 q3 q4 => (hlw271.1 j i q1 (by omega) (by omega))))
                  have hf276 : Frs K T wr252 X254 nd20 (nd20 + 1) nd20 [(nd20, 0)] := (Frs.same hf242 (by omega) (fun j i q1 q2 q3 q4 => (hlw271.1 j i q1 (by omega) (by omega))))
                  have hn277 : Nd X254 nd 41 (nI r23) (-1) (-1) (-1) := (Nd.low hn241 hlw271 (by omega))
                  have hn278 : Nd X254 nd20 44 (nI at176) (-1) (-1) (-1) := (Nd.low hn243 hlw271 (by omega))
                  have hm279 := Frs.mem hf272
                  refine r_sti (f := (X254 13)) (j := nd20) hx hb hE hP hD hS 13 (ma_13 G a _) rfl (mas_13 G a _) (by omega) (by decide) dX12_attempt_136 (fun H locs hP hD hS => ?_)
                  have hP : va_P G.1 pCl (mW G h0 a (upd (upd (upd (upd (upd (upd (upd F 15 0) 16 pl249) 27 (nI nd250)) 31 (nI wr252)) 64 (nI at247)) 65 (nI ne)) 66 (nI lk251)) (updA (stR X254 13 nd20 (nI r253)) 2 K)) _ := mW_to (F := F) (l1 := [(15, 0), (16, pl249), (27, (nI nd250)), (31, (nI wr252)), (64, (nI at247)), (65, (nI ne)), (66, (nI lk251))]) (l2 := [(15, 0), (16, pl249), (27, (nI nd250)), (31, (nI wr252)), (64, (nI at247)), (65, (nI ne)), (66, (nI lk251))]) (V := [0, pl249, (nI nd250), (nI wr252), (nI at247), (nI ne), (nI lk251), 0, pl249, (nI nd250), (nI wr252), (nI at247), (nI ne), (nI lk251)]) rfl rfl (show (updA (updA X254 2 K) 13 (upd (X254 13) nd20 (nI r253))) = (updA (stR X254 13 nd20 (nI r253)) 2 K) from updsA_eq2 (F := X254) (l1 := [(2, K), (13, (upd (X254 13) nd20 (nI r253)))]) (l2 := [(13, (upd (X254 13) nd20 (nI r253))), (2, K)]) (V := [K, (upd (X254 13) nd20 (nI r253)), (upd (X254 13) nd20 (nI r253)), K]) rfl rfl) hP
                  have hD : va_D A (mW G h0 a (upd (upd (upd (upd (upd (upd (upd F 15 0) 16 pl249) 27 (nI nd250)) 31 (nI wr252)) 64 (nI at247)) 65 (nI ne)) 66 (nI lk251)) (updA (stR X254 13 nd20 (nI r253)) 2 K)) := mW_D hD
                  have hkp280 : Kp B (stR X254 13 nd20 (nI r253)) wr252 T := (Kp.row hkp269 (by omega))
                  have hlo281 : Low B (stR X254 13 nd20 (nI r253)) nd wr := (Low.st hlo274 (by omega) (by omega))
                  have hf282 : Frs K T wr252 X254 nd20 nd250 nd20 [(nd20, 0), (r253, (281 + 4 * (20 - ne)))] := (Frs.join hf276 hf272 (by omega) (by omega) (by omega))
                  have hf283 : Frs K T wr252 (stR X254 13 nd20 (nI r253)) nd nd20 20000 [(nd, (280 + 4 * (21 - ne)))] := (Frs.same hf275 (by omega) (fun j i q1 q2 q3 q4 => (st_ne (by omega))))
                  have hn284 : Nd (stR X254 13 nd20 (nI r253)) nd 41 (nI r23) (-1) (-1) (-1) := (Nd.stn hn277 (by omega))
                  have hn285 : Nd (stR X254 13 nd20 (nI r253)) nd20 44 (nI at176) (nI r253) (-1) (-1) := (Nd.st hn278 (by omega))
                  have hc286 : kcl 10 ((stR X254 13 nd20 (nI r253)) 9 r253) = true := by rw [st_ne (by omega)]; exact hc273
                  have hf287 : Frs K T wr252 (stR X254 13 nd20 (nI r253)) nd20 nd250 nd20 [(nd20, (279 + 4 * (21 - ne)))] := (Frs.set (s := 2) (k := 44) hf282 (by omega) (by omega) (by simp) (by omega) (by omega) hn278.2.2.1 hn278.1 (by decide) ⟨by decide, by decide, by decide, hc273, fun h => absurd h (by decide)⟩ (by omega) (by omega) (by decide) (fun h1 h2 => by omega))
                  have hf288 : Frs K T wr252 (stR X254 13 nd20 (nI r253)) nd20 nd250 20000 [(nd20, (279 + 4 * (21 - ne)))] := (Frs.fin (k := 44) hf287 hn285 rfl (by decide) (fun _ => nI_m1 (by omega)) (fun _ => nI_m1 (by omega)) (fun h => absurd h (by decide)) (fun h => absurd h (by decide)))
                  refine lv_iload_n hx hb dX12_attempt_137 rfl (lv_at hl 4 rfl) ?_
                  refine lv_iconst (v := (-1)) hx hb dX12_attempt_138 (by decide) ?_
                  refine lv_icmp_ne (tgt := 153) hx hb dX12_attempt_139 (by decide) (fun c289 => absurd c289 (by decide)) (fun c289 => ?_)
                  refine lv_aload_n hx hb dX12_attempt_142 rfl (lv_at hl 6 rfl) ?_
                  refine r_get (v := .ref (a 13)) hx hb hown hq hE hP 21 50 tFX12_21 (by decide) pw_1443 rfl dX12_attempt_143 ?_
                  refine lv_iload_n hx hb dX12_attempt_146 rfl (lv_at hl 5 rfl) ?_
                  refine lv_iload hx hb dX12_attempt_147 (lv_at hl 0 rfl) ?_
                  refine r_sti (f := ((stR X254 13 nd20 (nI r253)) 13)) (j := nd) hx hb hE hP hD hS 13 (ma_13 G a _) rfl (mas_13 G a _) (by omega) (by decide) dX12_attempt_149 (fun H locs hP hD hS => ?_)
                  have hP : va_P G.1 pCl (mW G h0 a (upd (upd (upd (upd (upd (upd (upd F 15 0) 16 pl249) 27 (nI nd250)) 31 (nI wr252)) 64 (nI at247)) 65 (nI ne)) 66 (nI lk251)) (updA (stR (stR X254 13 nd20 (nI r253)) 13 nd (nI nd20)) 2 K)) _ := mW_to (F := F) (l1 := [(15, 0), (16, pl249), (27, (nI nd250)), (31, (nI wr252)), (64, (nI at247)), (65, (nI ne)), (66, (nI lk251))]) (l2 := [(15, 0), (16, pl249), (27, (nI nd250)), (31, (nI wr252)), (64, (nI at247)), (65, (nI ne)), (66, (nI lk251))]) (V := [0, pl249, (nI nd250), (nI wr252), (nI at247), (nI ne), (nI lk251), 0, pl249, (nI nd250), (nI wr252), (nI at247), (nI ne), (nI lk251)]) rfl rfl (show (updA (updA (stR X254 13 nd20 (nI r253)) 2 K) 13 (upd ((stR X254 13 nd20 (nI r253)) 13) nd (nI nd20))) = (updA (stR (stR X254 13 nd20 (nI r253)) 13 nd (nI nd20)) 2 K) from updsA_eq2 (F := X254) (l1 := [(13, (upd (X254 13) nd20 (nI r253))), (2, K), (13, (upd ((stR X254 13 nd20 (nI r253)) 13) nd (nI nd20)))]) (l2 := [(13, (upd (X254 13) nd20 (nI r253))), (13, (upd ((stR X254 13 nd20 (nI r253)) 13) nd (nI nd20))), (2, K)]) (V := [(upd ((stR X254 13 nd20 (nI r253)) 13) nd (nI nd20)), K, (upd ((stR X254 13 nd20 (nI r253)) 13) nd (nI nd20)), (upd ((stR X254 13 nd20 (nI r253)) 13) nd (nI nd20)), (upd ((stR X254 13 nd20 (nI r253)) 13) nd (nI nd20)), K]) rfl rfl) hP
                  have hD : va_D A (mW G h0 a (upd (upd (upd (upd (upd (upd (upd F 15 0) 16 pl249) 27 (nI nd250)) 31 (nI wr252)) 64 (nI at247)) 65 (nI ne)) 66 (nI lk251)) (updA (stR (stR X254 13 nd20 (nI r253)) 13 nd (nI nd20)) 2 K)) := mW_D hD
                  have hkp290 : Kp B (stR (stR X254 13 nd20 (nI r253)) 13 nd (nI nd20)) wr252 T := (Kp.row hkp280 (by omega))
                  have hlo291 : Low B (stR (stR X254 13 nd20 (nI r253)) 13 nd (nI nd20)) nd wr := (Low.st hlo281 (by omega) (by omega))
                  have hf292 : Frs K T wr252 (stR X254 13 nd20 (nI r253)) nd nd250 20000 [(nd, (280 + 4 * (21 - ne))), (nd20, (279 + 4 * (21 - ne)))] := (Frs.join hf283 hf288 (by omega) (by omega) (by omega))
                  have hn293 : Nd (stR (stR X254 13 nd20 (nI r253)) 13 nd (nI nd20)) nd 41 (nI r23) (nI nd20) (-1) (-1) := (Nd.st hn284 (by omega))
                  have hn294 : Nd (stR (stR X254 13 nd20 (nI r253)) 13 nd (nI nd20)) nd20 44 (nI at176) (nI r253) (-1) (-1) := (Nd.stn hn285 (by omega))
                  have hf295 : FrL K T wr252 (stR (stR X254 13 nd20 (nI r253)) 13 nd (nI nd20)) nd nd250 20000 nd (280 + 4 * (21 - ne)) nd20 3 := (FrL.head (s := 2) (k := 41) hf292 (by omega) (by omega) (by omega) (by omega) hn284.2.2.1 hn284.1 (by decide) ⟨by decide, (by rw [hn285.1]; decide), by decide⟩ (by rw [hn285.1]; decide) (by omega) (by omega) (fun h => by omega))
                  refine lv_goto (tgt := 161) hx hb dX12_attempt_150 (by decide) ?_
                  refine lv_iload hx hb dX12_attempt_161 (lv_at hl 0 rfl) ?_
                  refine lv_istore_n (lv' := [(2, .int (nI nd20)), (6, .int (nI nd20)), (5, .int (nI at191)), (4, .int (nI at176)), (3, .int (nI (at160 - 1))), (1, .int (nI nd)), (0, .ref h0)]) hx hb dX12_attempt_163 rfl hl (by decide) rfl (fun ls hl => ?_)
                  refine lv_goto (tgt := 71) hx hb dX12_attempt_164 (by decide) ?_
                  have loop_o : ∀ (n_o : Nat) (at2 : Nat) (nd2 : Nat) (wr2 : Nat) (lk2 : Nat) (pl2 : Int32) (X2 : Nat → Nat → Int32) (la : Nat) (xa2 : Int32) (xb2 : Int32) (H : Heap) (locs : List Loc) (ls : Array Slot), at2 ≤ T → T + 1 ≤ at2 + n_o → (at0 + 1 ≤ at2) → (nd ≤ nd2) → (nd2 + 2 * at0 ≤ nd + 2 * at2) → (wr ≤ wr2) → (wr2 + at0 ≤ wr + at2) → (lk ≤ lk2) → (lk2 ≤ 60) → (nd ≤ la ∧ la < nd2) → (nd + 1 ≤ nd2) → (Kp B X2 wr2 T) → (Low B X2 nd wr) → (FrL K T wr2 X2 nd nd2 20000 nd (280 + 4 * (21 - ne)) la 3) → (Nd X2 nd 41 xa2 xb2 (-1) (-1)) → va_P G.1 pCl (mW G h0 a (upd (upd (upd (upd (upd (upd (upd F 15 0) 16 pl2) 27 (nI nd2)) 31 (nI wr2)) 64 (nI at2)) 65 (nI ne)) 66 (nI lk2)) (updA X2 2 K)) H → va_D A (mW G h0 a (upd (upd (upd (upd (upd (upd (upd F 15 0) 16 pl2) 27 (nI nd2)) 31 (nI wr2)) 64 (nI at2)) 65 (nI ne)) 66 (nI lk2)) (updA X2 2 K)) → va_S A s.heap H locs → lv_has ls 7 [(2, .int (nI la)), (1, .int (nI nd)), (0, .ref h0)] → W p l e (headSpec (Cond.code yX12_attempt cX12_attempt 7 (some .int) :: pw) ({ frames := (26 * n + 43), cells := 0, slots := 0, locals := (2000 * n + 4300) } : Room)).room s m ([.ref h0] : List Value).toArray below meth c H locs 0 0 (MQ below (pQ G A (fun (v : Option Value) (u : Nat × Nat × Int32 × Nat × Nat × Nat × Nat × (Nat → Nat → Int32)) => v = some (.int (nI u.2.2.2.2.2.2.1)) ∧ (at0 ≤ u.1) ∧ (u.1 ≤ T) ∧ (u.2.1 ≤ 100) ∧ (nd ≤ u.2.2.2.1) ∧ (u.2.2.2.1 + 2 * at0 ≤ nd + 2 * u.1 + 100000 * u.2.1) ∧ (u.2.2.2.1 + 2 * at0 ≤ nd + 2 * u.1 + (60 * (21 - ne) + 40)) ∧ (wr ≤ u.2.2.2.2.2.1) ∧ (u.2.2.2.2.2.1 + at0 ≤ wr + u.1) ∧ (lk ≤ u.2.2.2.2.1) ∧ (u.2.2.2.2.1 ≤ 60 + 100 * u.2.1) ∧ (at0 + 1 ≤ u.1 + u.2.1) ∧ (u.2.2.2.2.2.2.1 ≤ u.2.2.2.1) ∧ (Kp B u.2.2.2.2.2.2.2 u.2.2.2.2.2.1 T) ∧ (If (u.2.1 = 0) (Low B u.2.2.2.2.2.2.2 nd wr ∧ Frs K T u.2.2.2.2.2.1 u.2.2.2.2.2.2.2 nd u.2.2.2.1 20000 [(u.2.2.2.2.2.2.1, (280 + 4 * (21 - ne)))] ∧ kcl 3 (u.2.2.2.2.2.2.2 9 u.2.2.2.2.2.2.1) = true))) (fun u => (mW G h0 a (upd (upd (upd (upd (upd (upd (upd F 15 (nI u.2.1)) 16 u.2.2.1) 27 (nI u.2.2.2.1)) 31 (nI u.2.2.2.2.2.1)) 64 (nI u.1)) 65 (nI ne)) 66 (nI u.2.2.2.2.1)) (updA u.2.2.2.2.2.2.2 2 K)))) ([.ref h0] : List Value).toArray s ({ frames := (26 * n + 43), cells := 0, slots := 0, locals := (2000 * n + 4300) } : Room).cells ({ frames := (26 * n + 43), cells := 0, slots := 0, locals := (2000 * n + 4300) } : Room).slots A) (F0 m 71 ls []) := by
                    intro n_o
                    induction n_o with
                    | zero => intro at2 nd2 wr2 lk2 pl2 X2 la xa2 xb2 H locs ls hk_o hn_o; omega
                    | succ n_o ih_o =>
                      intro at2 nd2 wr2 lk2 pl2 X2 la xa2 xb2 H locs ls hk_o hn_o hl1 hl3 hl4 hl5 hl6 hl7 hl8 hla hnd2 hkp2 hlo2 hf2 hn2 hP hD hS hl
                      refine lv_aload_n hx hb dX12_attempt_71 rfl (lv_at hl 2 rfl) ?_
                      refine lv_sipush (v := 313) hx hb dX12_attempt_72 (by decide) ?_
                      have hP : va_P G.1 pCl (mW G h0 a (upd (upd (upd (upd (upd (upd (upd (upd (upd F 15 0) 16 pl2) 27 (nI nd2)) 31 (nI wr2)) 64 (nI at2)) 65 (nI ne)) 66 (nI lk2)) 15 (nI 0)) 64 (nI at2)) (updA (updA X2 2 K) 2 K)) _ := mW_to (F := F) (l1 := [(15, 0), (16, pl2), (27, (nI nd2)), (31, (nI wr2)), (64, (nI at2)), (65, (nI ne)), (66, (nI lk2))]) (l2 := [(15, 0), (16, pl2), (27, (nI nd2)), (31, (nI wr2)), (64, (nI at2)), (65, (nI ne)), (66, (nI lk2)), (15, (nI 0)), (64, (nI at2))]) (V := [(nI 0), pl2, (nI nd2), (nI wr2), (nI at2), (nI ne), (nI lk2), (nI 0), pl2, (nI nd2), (nI wr2), (nI at2), (nI ne), (nI lk2), (nI 0), (nI at2)]) rfl rfl (show (updA X2 2 K) = (updA (updA X2 2 K) 2 K) from updsA_eq2 (F := X2) (l1 := [(2, K)]) (l2 := [(2, K), (2, K)]) (V := [K, K, K]) rfl rfl) hP
                      have hD : va_D A (mW G h0 a (upd (upd (upd (upd (upd (upd (upd (upd (upd F 15 0) 16 pl2) 27 (nI nd2)) 31 (nI wr2)) 64 (nI at2)) 65 (nI ne)) 66 (nI lk2)) 15 (nI 0)) 64 (nI at2)) (updA (updA X2 2 K) 2 K)) := mW_D hD
                      refine pc_V0 (G := G) (As := [.int 313]) (rest := []) hx hb hml hown hq hE hX pX0_al hP hD hS hA hl.1 (R_may l G h0 a (upd (upd (upd (upd (upd (upd (upd F 15 0) 16 pl2) 27 (nI nd2)) 31 (nI wr2)) 64 (nI at2)) 65 (nI ne)) 66 (nI lk2)) (updA X2 2 K) at2 T 0 K 313 (by omega) (by omega) hK (by omega) (by decide) (by decide)) (gV pw_1621 pw_1622 pw_1623 pw_1523 pw_1605) hV_X12_may 0 9 rfl rfl rfl rfl (Nat.le_of_ble_eq_true rfl) dX12_attempt_75 ⟨Nat.le_of_ble_eq_true rfl, Nat.le_of_ble_eq_true rfl⟩ ⟨(by show 3 + 1 ≤ (26 * n + 43); omega), (by show 8 + (3 + 11) + 81 ≤ (2000 * n + 4300); omega)⟩ (fun v298 u296 H locs hw297 hP hD hS => ?_)
                      obtain ⟨at299, r300⟩ := u296
                      obtain ⟨hw297, h301, h302, h303, h304, h305, h306⟩ := hw297
                      have h301 : r300 ≤ 1 := h301
                      have h302 : 0 + 100 * r300 ≤ 100 := h302
                      have h303 : at299 = at2 + r300 := h303
                      have h304 : at299 ≤ T := h304
                      have h305 : If (r300 = 1) (K at2 = 313) := h305
                      have h306 : If (r300 = 0) (0 = 0 → ¬ K at2 = 313) := h306
                      obtain rfl : v298 = some (.int (nI r300)) := hw297
                      have hP : va_P G.1 pCl (mW G h0 a (upd (upd (upd (upd (upd (upd (upd F 15 0) 16 pl2) 27 (nI nd2)) 31 (nI wr2)) 64 (nI at299)) 65 (nI ne)) 66 (nI lk2)) (updA X2 2 K)) _ := mW_to (F := F) (l1 := [(15, 0), (16, pl2), (27, (nI nd2)), (31, (nI wr2)), (64, (nI at2)), (65, (nI ne)), (66, (nI lk2)), (15, (nI 0)), (64, (nI at299))]) (l2 := [(15, 0), (16, pl2), (27, (nI nd2)), (31, (nI wr2)), (64, (nI at299)), (65, (nI ne)), (66, (nI lk2))]) (V := [0, pl2, (nI nd2), (nI wr2), (nI at299), (nI ne), (nI lk2), 0, (nI at299), 0, pl2, (nI nd2), (nI wr2), (nI at299), (nI ne), (nI lk2)]) rfl rfl (show (updA (updA X2 2 K) 2 K) = (updA X2 2 K) from updsA_eq2 (F := X2) (l1 := [(2, K), (2, K)]) (l2 := [(2, K)]) (V := [K, K, K]) rfl rfl) hP
                      have hD : va_D A (mW G h0 a (upd (upd (upd (upd (upd (upd (upd F 15 0) 16 pl2) 27 (nI nd2)) 31 (nI wr2)) 64 (nI at299)) 65 (nI ne)) 66 (nI lk2)) (updA X2 2 K)) := mW_D hD
                      refine W.widen (k := 0) (n := 0) (Nat.le_of_ble_eq_true rfl) (Nat.le_of_ble_eq_true rfl) ?_
                      refine W.eq (g2 := F0 m 78 ls [.int (nI r300)]) rfl ?_
                      refine lv_if_eq (tgt := 167) hx hb dX12_attempt_78 (by decide) (fun c307 => ?_) (fun c307 => ?_)
                      · have n308 : r300 = 0 := (nI_eq (a := r300) (b := 0) (by omega) (by omega)).mp c307
                        have hf309 : Frs K T wr2 X2 nd nd2 20000 [(nd, (280 + 4 * (21 - ne)))] := (FrL.toFrs hf2)
                        have hP : va_P G.1 pCl (mW G h0 a (upd (upd (upd (upd (upd (upd (upd F 15 0) 16 pl2) 27 (nI nd2)) 31 (nI wr2)) 64 (nI at299)) 65 (nI ne)) 66 (nI lk2)) (updA X2 2 K)) _ := hP
                        have hD : va_D A (mW G h0 a (upd (upd (upd (upd (upd (upd (upd F 15 0) 16 pl2) 27 (nI nd2)) 31 (nI wr2)) 64 (nI at299)) 65 (nI ne)) 66 (nI lk2)) (updA X2 2 K)) := mW_D hD
                        exact cut_a at299 nd2 wr2 lk2 pl2 X2 xa2 xb2 _ _ _ (by omega) (by omega) (by omega) (by omega) (by omega) (by omega) (by omega) (by omega) (by omega) hkp2 hlo2 (Frs.up hf309 (by omega)) hn2 hP hD hS (lv_sub hl [1, 2] rfl)
                      · have n310 : ¬ (r300 = 0) := fun h9 => c307 ((nI_eq (a := r300) (b := 0) (by omega) (by omega)).mpr h9)
                        refine lv_aload_n hx hb dX12_attempt_81 rfl (lv_at hl 2 rfl) ?_
                        refine r_get (v := .int (nI at299)) hx hb hown hq hE hP 64 343 tFX12_64 (by decide) pw_1592 rfl dX12_attempt_82 ?_
                        refine lv_iconst (v := 1) hx hb dX12_attempt_85 (by decide) ?_
                        refine lv_isub hx hb dX12_attempt_86 ?_
                        refine lv_topi (fun x311 e312 => ?_)
                        obtain rfl : x311 = nI (at299 - 1) := e312.trans (nI_subN (a := 1) (b := at299) (by omega))
                        refine lv_istore_n (lv' := [(3, .int (nI (at299 - 1))), (2, .int (nI la)), (1, .int (nI nd)), (0, .ref h0)]) hx hb dX12_attempt_87 rfl hl (by decide) rfl (fun ls hl => ?_)
                        refine lv_aload_n hx hb dX12_attempt_88 rfl (lv_at hl 3 rfl) ?_
                        refine lv_bipush (v := 40) hx hb dX12_attempt_89 (by decide) ?_
                        have hP : va_P G.1 pCl (mW G h0 a (upd (upd (upd (upd (upd (upd (upd (upd (upd F 15 0) 16 pl2) 27 (nI nd2)) 31 (nI wr2)) 64 (nI at299)) 65 (nI ne)) 66 (nI lk2)) 15 (nI 0)) 64 (nI at299)) (updA (updA X2 2 K) 2 K)) _ := mW_to (F := F) (l1 := [(15, 0), (16, pl2), (27, (nI nd2)), (31, (nI wr2)), (64, (nI at299)), (65, (nI ne)), (66, (nI lk2))]) (l2 := [(15, 0), (16, pl2), (27, (nI nd2)), (31, (nI wr2)), (64, (nI at299)), (65, (nI ne)), (66, (nI lk2)), (15, (nI 0)), (64, (nI at299))]) (V := [(nI 0), pl2, (nI nd2), (nI wr2), (nI at299), (nI ne), (nI lk2), (nI 0), pl2, (nI nd2), (nI wr2), (nI at299), (nI ne), (nI lk2), (nI 0), (nI at299)]) rfl rfl (show (updA X2 2 K) = (updA (updA X2 2 K) 2 K) from updsA_eq2 (F := X2) (l1 := [(2, K)]) (l2 := [(2, K), (2, K)]) (V := [K, K, K]) rfl rfl) hP
                        have hD : va_D A (mW G h0 a (upd (upd (upd (upd (upd (upd (upd (upd (upd F 15 0) 16 pl2) 27 (nI nd2)) 31 (nI wr2)) 64 (nI at299)) 65 (nI ne)) 66 (nI lk2)) 15 (nI 0)) 64 (nI at299)) (updA (updA X2 2 K) 2 K)) := mW_D hD
                        refine pc_V0 (G := G) (As := [.int 40]) (rest := []) hx hb hml hown hq hE hX pX0_al hP hD hS hA hl.1 (R_take l G h0 a (upd (upd (upd (upd (upd (upd (upd F 15 0) 16 pl2) 27 (nI nd2)) 31 (nI wr2)) 64 (nI at299)) 65 (nI ne)) 66 (nI lk2)) (updA X2 2 K) at299 T 0 K 40 (by omega) (by omega) hK (by omega) (by decide) (by decide)) (gV pw_1614 pw_1615 pw_1616 pw_1523 pw_1601) hV_X12_take 0 9 rfl rfl rfl rfl (Nat.le_of_ble_eq_true rfl) dX12_attempt_91 ⟨Nat.le_of_ble_eq_true rfl, Nat.le_of_ble_eq_true rfl⟩ ⟨(by show 4 + 1 ≤ (26 * n + 43); omega), (by show 8 + (2 + 11) + 103 ≤ (2000 * n + 4300); omega)⟩ (fun v315 u313 H locs hw314 hP hD hS => ?_)
                        obtain ⟨at316, fa317, pl318⟩ := u313
                        obtain ⟨hw314, h319, h320, h321, h322, h323, h324, h325, h326⟩ := hw314
                        have h319 : at299 ≤ at316 := h319
                        have h320 : at316 ≤ T := h320
                        have h321 : 0 ≤ fa317 := h321
                        have h322 : fa317 ≤ 100 := h322
                        have h323 : If (0 < 0) (at316 = at299 ∧ fa317 = 0) := h323
                        have h324 : at316 ≤ at299 + 1 := h324
                        have h325 : at299 + 1 ≤ at316 + fa317 := h325
                        have h326 : If (fa317 = 0) (K at299 = 40) := h326
                        obtain rfl : v315 = none := hw314
                        have hP : va_P G.1 pCl (mW G h0 a (upd (upd (upd (upd (upd (upd (upd F 15 (nI fa317)) 16 pl318) 27 (nI nd2)) 31 (nI wr2)) 64 (nI at316)) 65 (nI ne)) 66 (nI lk2)) (updA X2 2 K)) _ := mW_to (F := F) (l1 := [(15, 0), (16, pl2), (27, (nI nd2)), (31, (nI wr2)), (64, (nI at299)), (65, (nI ne)), (66, (nI lk2)), (15, (nI fa317)), (16, pl318), (64, (nI at316))]) (l2 := [(15, (nI fa317)), (16, pl318), (27, (nI nd2)), (31, (nI wr2)), (64, (nI at316)), (65, (nI ne)), (66, (nI lk2))]) (V := [(nI fa317), pl318, (nI nd2), (nI wr2), (nI at316), (nI ne), (nI lk2), (nI fa317), pl318, (nI at316), (nI fa317), pl318, (nI nd2), (nI wr2), (nI at316), (nI ne), (nI lk2)]) rfl rfl (show (updA (updA X2 2 K) 2 K) = (updA X2 2 K) from updsA_eq2 (F := X2) (l1 := [(2, K), (2, K)]) (l2 := [(2, K)]) (V := [K, K, K]) rfl rfl) hP
                        have hD : va_D A (mW G h0 a (upd (upd (upd (upd (upd (upd (upd F 15 (nI fa317)) 16 pl318) 27 (nI nd2)) 31 (nI wr2)) 64 (nI at316)) 65 (nI ne)) 66 (nI lk2)) (updA X2 2 K)) := mW_D hD
                        refine W.widen (k := 0) (n := 0) (Nat.le_of_ble_eq_true rfl) (Nat.le_of_ble_eq_true rfl) ?_
                        refine W.eq (g2 := F0 m 94 ls []) rfl ?_
                        rcases Nat.eq_zero_or_pos fa317 with e327 | e327
                        · subst e327
                          have hP : va_P G.1 pCl (mW G h0 a (upd (upd (upd (upd (upd (upd (upd F 15 0) 16 pl318) 27 (nI nd2)) 31 (nI wr2)) 64 (nI at316)) 65 (nI ne)) 66 (nI lk2)) (updA X2 2 K)) _ := hP
                          have hD : va_D A (mW G h0 a (upd (upd (upd (upd (upd (upd (upd F 15 0) 16 pl318) 27 (nI nd2)) 31 (nI wr2)) 64 (nI at316)) 65 (nI ne)) 66 (nI lk2)) (updA X2 2 K)) := mW_D hD
                          refine lv_aload_n hx hb dX12_attempt_94 rfl (lv_at hl 3 rfl) ?_
                          have hP : va_P G.1 pCl (mW G h0 a (upd (upd (upd (upd (upd (upd (upd (upd (upd F 15 0) 16 pl318) 27 (nI nd2)) 31 (nI wr2)) 64 (nI at316)) 65 (nI ne)) 66 (nI lk2)) 15 (nI 0)) 64 (nI at316)) (updA (updA X2 2 K) 2 K)) _ := mW_to (F := F) (l1 := [(15, 0), (16, pl318), (27, (nI nd2)), (31, (nI wr2)), (64, (nI at316)), (65, (nI ne)), (66, (nI lk2))]) (l2 := [(15, 0), (16, pl318), (27, (nI nd2)), (31, (nI wr2)), (64, (nI at316)), (65, (nI ne)), (66, (nI lk2)), (15, (nI 0)), (64, (nI at316))]) (V := [(nI 0), pl318, (nI nd2), (nI wr2), (nI at316), (nI ne), (nI lk2), (nI 0), pl318, (nI nd2), (nI wr2), (nI at316), (nI ne), (nI lk2), (nI 0), (nI at316)]) rfl rfl (show (updA X2 2 K) = (updA (updA X2 2 K) 2 K) from updsA_eq2 (F := X2) (l1 := [(2, K)]) (l2 := [(2, K), (2, K)]) (V := [K, K, K]) rfl rfl) hP
                          have hD : va_D A (mW G h0 a (upd (upd (upd (upd (upd (upd (upd (upd (upd F 15 0) 16 pl318) 27 (nI nd2)) 31 (nI wr2)) 64 (nI at316)) 65 (nI ne)) 66 (nI lk2)) 15 (nI 0)) 64 (nI at316)) (updA (updA X2 2 K) 2 K)) := mW_D hD
                          refine pc_V0 (G := G) (As := []) (rest := []) hx hb hml hown hq hE hX pX0_al hP hD hS hA hl.1 (R_name l G h0 a (upd (upd (upd (upd (upd (upd (upd F 15 0) 16 pl318) 27 (nI nd2)) 31 (nI wr2)) 64 (nI at316)) 65 (nI ne)) 66 (nI lk2)) (updA X2 2 K) at316 T 0 K (by omega) (by omega) hK (by omega)) (gV pw_1618 pw_1619 pw_1620 pw_1523 pw_1613) hV_X12_name 0 9 rfl rfl rfl rfl (Nat.le_of_ble_eq_true rfl) dX12_attempt_95 ⟨Nat.le_of_ble_eq_true rfl, Nat.le_of_ble_eq_true rfl⟩ ⟨(by show 5 + 1 ≤ (26 * n + 43); omega), (by show 8 + (2 + 11) + 124 ≤ (2000 * n + 4300); omega)⟩ (fun v330 u328 H locs hw329 hP hD hS => ?_)
                          obtain ⟨at331, fa332, pl333⟩ := u328
                          obtain ⟨hw329, h334, h335, h336, h337, h338, h339, h340, h341⟩ := hw329
                          have h334 : at316 ≤ at331 := h334
                          have h335 : at331 ≤ T := h335
                          have h336 : 0 ≤ fa332 := h336
                          have h337 : fa332 ≤ 100 := h337
                          have h338 : If (0 < 0) (at331 = at316 ∧ fa332 = 0) := h338
                          have h339 : at331 ≤ at316 + 1 := h339
                          have h340 : at316 + 1 ≤ at331 + fa332 := h340
                          have h341 : If (fa332 = 0) (K at316 = 1) := h341
                          obtain rfl : v330 = some (.int (nI at316)) := hw329
                          have hP : va_P G.1 pCl (mW G h0 a (upd (upd (upd (upd (upd (upd (upd F 15 (nI fa332)) 16 pl333) 27 (nI nd2)) 31 (nI wr2)) 64 (nI at331)) 65 (nI ne)) 66 (nI lk2)) (updA X2 2 K)) _ := mW_to (F := F) (l1 := [(15, 0), (16, pl318), (27, (nI nd2)), (31, (nI wr2)), (64, (nI at316)), (65, (nI ne)), (66, (nI lk2)), (15, (nI fa332)), (16, pl333), (64, (nI at331))]) (l2 := [(15, (nI fa332)), (16, pl333), (27, (nI nd2)), (31, (nI wr2)), (64, (nI at331)), (65, (nI ne)), (66, (nI lk2))]) (V := [(nI fa332), pl333, (nI nd2), (nI wr2), (nI at331), (nI ne), (nI lk2), (nI fa332), pl333, (nI at331), (nI fa332), pl333, (nI nd2), (nI wr2), (nI at331), (nI ne), (nI lk2)]) rfl rfl (show (updA (updA X2 2 K) 2 K) = (updA X2 2 K) from updsA_eq2 (F := X2) (l1 := [(2, K), (2, K)]) (l2 := [(2, K)]) (V := [K, K, K]) rfl rfl) hP
                          have hD : va_D A (mW G h0 a (upd (upd (upd (upd (upd (upd (upd F 15 (nI fa332)) 16 pl333) 27 (nI nd2)) 31 (nI wr2)) 64 (nI at331)) 65 (nI ne)) 66 (nI lk2)) (updA X2 2 K)) := mW_D hD
                          refine W.widen (k := 0) (n := 0) (Nat.le_of_ble_eq_true rfl) (Nat.le_of_ble_eq_true rfl) ?_
                          refine W.eq (g2 := F0 m 98 ls [.int (nI at316)]) rfl ?_
                          rcases Nat.eq_zero_or_pos fa332 with e342 | e342
                          · subst e342
                            have hP : va_P G.1 pCl (mW G h0 a (upd (upd (upd (upd (upd (upd (upd F 15 0) 16 pl333) 27 (nI nd2)) 31 (nI wr2)) 64 (nI at331)) 65 (nI ne)) 66 (nI lk2)) (updA X2 2 K)) _ := hP
                            have hD : va_D A (mW G h0 a (upd (upd (upd (upd (upd (upd (upd F 15 0) 16 pl333) 27 (nI nd2)) 31 (nI wr2)) 64 (nI at331)) 65 (nI ne)) 66 (nI lk2)) (updA X2 2 K)) := mW_D hD
                            refine lv_istore (lv' := [(4, .int (nI at316)), (3, .int (nI (at299 - 1))), (2, .int (nI la)), (1, .int (nI nd)), (0, .ref h0)]) hx hb dX12_attempt_98 hl (by decide) rfl (fun ls hl => ?_)
                            refine lv_aload_n hx hb dX12_attempt_100 rfl (lv_at hl 4 rfl) ?_
                            have hP : va_P G.1 pCl (mW G h0 a (upd (upd (upd (upd (upd (upd (upd (upd (upd F 15 0) 16 pl333) 27 (nI nd2)) 31 (nI wr2)) 64 (nI at331)) 65 (nI ne)) 66 (nI lk2)) 15 (nI 0)) 64 (nI at331)) (updA (updA X2 2 K) 2 K)) _ := mW_to (F := F) (l1 := [(15, 0), (16, pl333), (27, (nI nd2)), (31, (nI wr2)), (64, (nI at331)), (65, (nI ne)), (66, (nI lk2))]) (l2 := [(15, 0), (16, pl333), (27, (nI nd2)), (31, (nI wr2)), (64, (nI at331)), (65, (nI ne)), (66, (nI lk2)), (15, (nI 0)), (64, (nI at331))]) (V := [(nI 0), pl333, (nI nd2), (nI wr2), (nI at331), (nI ne), (nI lk2), (nI 0), pl333, (nI nd2), (nI wr2), (nI at331), (nI ne), (nI lk2), (nI 0), (nI at331)]) rfl rfl (show (updA X2 2 K) = (updA (updA X2 2 K) 2 K) from updsA_eq2 (F := X2) (l1 := [(2, K)]) (l2 := [(2, K), (2, K)]) (V := [K, K, K]) rfl rfl) hP
                            have hD : va_D A (mW G h0 a (upd (upd (upd (upd (upd (upd (upd (upd (upd F 15 0) 16 pl333) 27 (nI nd2)) 31 (nI wr2)) 64 (nI at331)) 65 (nI ne)) 66 (nI lk2)) 15 (nI 0)) 64 (nI at331)) (updA (updA X2 2 K) 2 K)) := mW_D hD
                            refine pc_V0 (G := G) (As := []) (rest := []) hx hb hml hown hq hE hX pX0_al hP hD hS hA hl.1 (R_name l G h0 a (upd (upd (upd (upd (upd (upd (upd F 15 0) 16 pl333) 27 (nI nd2)) 31 (nI wr2)) 64 (nI at331)) 65 (nI ne)) 66 (nI lk2)) (updA X2 2 K) at331 T 0 K (by omega) (by omega) hK (by omega)) (gV pw_1618 pw_1619 pw_1620 pw_1523 pw_1613) hV_X12_name 0 9 rfl rfl rfl rfl (Nat.le_of_ble_eq_true rfl) dX12_attempt_101 ⟨Nat.le_of_ble_eq_true rfl, Nat.le_of_ble_eq_true rfl⟩ ⟨(by show 5 + 1 ≤ (26 * n + 43); omega), (by show 8 + (2 + 11) + 124 ≤ (2000 * n + 4300); omega)⟩ (fun v345 u343 H locs hw344 hP hD hS => ?_)
                            obtain ⟨at346, fa347, pl348⟩ := u343
                            obtain ⟨hw344, h349, h350, h351, h352, h353, h354, h355, h356⟩ := hw344
                            have h349 : at331 ≤ at346 := h349
                            have h350 : at346 ≤ T := h350
                            have h351 : 0 ≤ fa347 := h351
                            have h352 : fa347 ≤ 100 := h352
                            have h353 : If (0 < 0) (at346 = at331 ∧ fa347 = 0) := h353
                            have h354 : at346 ≤ at331 + 1 := h354
                            have h355 : at331 + 1 ≤ at346 + fa347 := h355
                            have h356 : If (fa347 = 0) (K at331 = 1) := h356
                            obtain rfl : v345 = some (.int (nI at331)) := hw344
                            have hP : va_P G.1 pCl (mW G h0 a (upd (upd (upd (upd (upd (upd (upd F 15 (nI fa347)) 16 pl348) 27 (nI nd2)) 31 (nI wr2)) 64 (nI at346)) 65 (nI ne)) 66 (nI lk2)) (updA X2 2 K)) _ := mW_to (F := F) (l1 := [(15, 0), (16, pl333), (27, (nI nd2)), (31, (nI wr2)), (64, (nI at331)), (65, (nI ne)), (66, (nI lk2)), (15, (nI fa347)), (16, pl348), (64, (nI at346))]) (l2 := [(15, (nI fa347)), (16, pl348), (27, (nI nd2)), (31, (nI wr2)), (64, (nI at346)), (65, (nI ne)), (66, (nI lk2))]) (V := [(nI fa347), pl348, (nI nd2), (nI wr2), (nI at346), (nI ne), (nI lk2), (nI fa347), pl348, (nI at346), (nI fa347), pl348, (nI nd2), (nI wr2), (nI at346), (nI ne), (nI lk2)]) rfl rfl (show (updA (updA X2 2 K) 2 K) = (updA X2 2 K) from updsA_eq2 (F := X2) (l1 := [(2, K), (2, K)]) (l2 := [(2, K)]) (V := [K, K, K]) rfl rfl) hP
                            have hD : va_D A (mW G h0 a (upd (upd (upd (upd (upd (upd (upd F 15 (nI fa347)) 16 pl348) 27 (nI nd2)) 31 (nI wr2)) 64 (nI at346)) 65 (nI ne)) 66 (nI lk2)) (updA X2 2 K)) := mW_D hD
                            refine W.widen (k := 0) (n := 0) (Nat.le_of_ble_eq_true rfl) (Nat.le_of_ble_eq_true rfl) ?_
                            refine W.eq (g2 := F0 m 104 ls [.int (nI at331)]) rfl ?_
                            rcases Nat.eq_zero_or_pos fa347 with e357 | e357
                            · subst e357
                              have hP : va_P G.1 pCl (mW G h0 a (upd (upd (upd (upd (upd (upd (upd F 15 0) 16 pl348) 27 (nI nd2)) 31 (nI wr2)) 64 (nI at346)) 65 (nI ne)) 66 (nI lk2)) (updA X2 2 K)) _ := hP
                              have hD : va_D A (mW G h0 a (upd (upd (upd (upd (upd (upd (upd F 15 0) 16 pl348) 27 (nI nd2)) 31 (nI wr2)) 64 (nI at346)) 65 (nI ne)) 66 (nI lk2)) (updA X2 2 K)) := mW_D hD
                              refine lv_istore (lv' := [(5, .int (nI at331)), (4, .int (nI at316)), (3, .int (nI (at299 - 1))), (2, .int (nI la)), (1, .int (nI nd)), (0, .ref h0)]) hx hb dX12_attempt_104 hl (by decide) rfl (fun ls hl => ?_)
                              refine lv_aload_n hx hb dX12_attempt_106 rfl (lv_at hl 5 rfl) ?_
                              refine lv_bipush (v := 41) hx hb dX12_attempt_107 (by decide) ?_
                              have hP : va_P G.1 pCl (mW G h0 a (upd (upd (upd (upd (upd (upd (upd (upd (upd F 15 0) 16 pl348) 27 (nI nd2)) 31 (nI wr2)) 64 (nI at346)) 65 (nI ne)) 66 (nI lk2)) 15 (nI 0)) 64 (nI at346)) (updA (updA X2 2 K) 2 K)) _ := mW_to (F := F) (l1 := [(15, 0), (16, pl348), (27, (nI nd2)), (31, (nI wr2)), (64, (nI at346)), (65, (nI ne)), (66, (nI lk2))]) (l2 := [(15, 0), (16, pl348), (27, (nI nd2)), (31, (nI wr2)), (64, (nI at346)), (65, (nI ne)), (66, (nI lk2)), (15, (nI 0)), (64, (nI at346))]) (V := [(nI 0), pl348, (nI nd2), (nI wr2), (nI at346), (nI ne), (nI lk2), (nI 0), pl348, (nI nd2), (nI wr2), (nI at346), (nI ne), (nI lk2), (nI 0), (nI at346)]) rfl rfl (show (updA X2 2 K) = (updA (updA X2 2 K) 2 K) from updsA_eq2 (F := X2) (l1 := [(2, K)]) (l2 := [(2, K), (2, K)]) (V := [K, K, K]) rfl rfl) hP
                              have hD : va_D A (mW G h0 a (upd (upd (upd (upd (upd (upd (upd (upd (upd F 15 0) 16 pl348) 27 (nI nd2)) 31 (nI wr2)) 64 (nI at346)) 65 (nI ne)) 66 (nI lk2)) 15 (nI 0)) 64 (nI at346)) (updA (updA X2 2 K) 2 K)) := mW_D hD
                              refine pc_V0 (G := G) (As := [.int 41]) (rest := []) hx hb hml hown hq hE hX pX0_al hP hD hS hA hl.1 (R_take l G h0 a (upd (upd (upd (upd (upd (upd (upd F 15 0) 16 pl348) 27 (nI nd2)) 31 (nI wr2)) 64 (nI at346)) 65 (nI ne)) 66 (nI lk2)) (updA X2 2 K) at346 T 0 K 41 (by omega) (by omega) hK (by omega) (by decide) (by decide)) (gV pw_1614 pw_1615 pw_1616 pw_1523 pw_1601) hV_X12_take 0 9 rfl rfl rfl rfl (Nat.le_of_ble_eq_true rfl) dX12_attempt_109 ⟨Nat.le_of_ble_eq_true rfl, Nat.le_of_ble_eq_true rfl⟩ ⟨(by show 4 + 1 ≤ (26 * n + 43); omega), (by show 8 + (2 + 11) + 103 ≤ (2000 * n + 4300); omega)⟩ (fun v360 u358 H locs hw359 hP hD hS => ?_)
                              obtain ⟨at361, fa362, pl363⟩ := u358
                              obtain ⟨hw359, h364, h365, h366, h367, h368, h369, h370, h371⟩ := hw359
                              have h364 : at346 ≤ at361 := h364
                              have h365 : at361 ≤ T := h365
                              have h366 : 0 ≤ fa362 := h366
                              have h367 : fa362 ≤ 100 := h367
                              have h368 : If (0 < 0) (at361 = at346 ∧ fa362 = 0) := h368
                              have h369 : at361 ≤ at346 + 1 := h369
                              have h370 : at346 + 1 ≤ at361 + fa362 := h370
                              have h371 : If (fa362 = 0) (K at346 = 41) := h371
                              obtain rfl : v360 = none := hw359
                              have hP : va_P G.1 pCl (mW G h0 a (upd (upd (upd (upd (upd (upd (upd F 15 (nI fa362)) 16 pl363) 27 (nI nd2)) 31 (nI wr2)) 64 (nI at361)) 65 (nI ne)) 66 (nI lk2)) (updA X2 2 K)) _ := mW_to (F := F) (l1 := [(15, 0), (16, pl348), (27, (nI nd2)), (31, (nI wr2)), (64, (nI at346)), (65, (nI ne)), (66, (nI lk2)), (15, (nI fa362)), (16, pl363), (64, (nI at361))]) (l2 := [(15, (nI fa362)), (16, pl363), (27, (nI nd2)), (31, (nI wr2)), (64, (nI at361)), (65, (nI ne)), (66, (nI lk2))]) (V := [(nI fa362), pl363, (nI nd2), (nI wr2), (nI at361), (nI ne), (nI lk2), (nI fa362), pl363, (nI at361), (nI fa362), pl363, (nI nd2), (nI wr2), (nI at361), (nI ne), (nI lk2)]) rfl rfl (show (updA (updA X2 2 K) 2 K) = (updA X2 2 K) from updsA_eq2 (F := X2) (l1 := [(2, K), (2, K)]) (l2 := [(2, K)]) (V := [K, K, K]) rfl rfl) hP
                              have hD : va_D A (mW G h0 a (upd (upd (upd (upd (upd (upd (upd F 15 (nI fa362)) 16 pl363) 27 (nI nd2)) 31 (nI wr2)) 64 (nI at361)) 65 (nI ne)) 66 (nI lk2)) (updA X2 2 K)) := mW_D hD
                              refine W.widen (k := 0) (n := 0) (Nat.le_of_ble_eq_true rfl) (Nat.le_of_ble_eq_true rfl) ?_
                              refine W.eq (g2 := F0 m 112 ls []) rfl ?_
                              rcases Nat.eq_zero_or_pos fa362 with e372 | e372
                              · subst e372
                                have hP : va_P G.1 pCl (mW G h0 a (upd (upd (upd (upd (upd (upd (upd F 15 0) 16 pl363) 27 (nI nd2)) 31 (nI wr2)) 64 (nI at361)) 65 (nI ne)) 66 (nI lk2)) (updA X2 2 K)) _ := hP
                                have hD : va_D A (mW G h0 a (upd (upd (upd (upd (upd (upd (upd F 15 0) 16 pl363) 27 (nI nd2)) 31 (nI wr2)) 64 (nI at361)) 65 (nI ne)) 66 (nI lk2)) (updA X2 2 K)) := mW_D hD
                                refine lv_aload_n hx hb dX12_attempt_112 rfl (lv_at hl 5 rfl) ?_
                                refine lv_bipush (v := 44) hx hb dX12_attempt_113 (by decide) ?_
                                refine lv_iload_n hx hb dX12_attempt_115 rfl (lv_at hl 2 rfl) ?_
                                refine lv_iload hx hb dX12_attempt_116 (lv_at hl 0 rfl) ?_
                                refine lv_iload hx hb dX12_attempt_118 (lv_at hl 1 rfl) ?_
                                refine lv_iconst (v := (-1)) hx hb dX12_attempt_120 (by decide) ?_
                                have hP : va_P G.1 pCl (mW G h0 a (upd (upd (upd (upd (upd (upd (upd (upd F 15 0) 16 pl363) 27 (nI nd2)) 31 (nI wr2)) 64 (nI at361)) 65 (nI ne)) 66 (nI lk2)) 27 (nI nd2)) (updA X2 2 K)) _ := mW_to (F := F) (l1 := [(15, 0), (16, pl363), (27, (nI nd2)), (31, (nI wr2)), (64, (nI at361)), (65, (nI ne)), (66, (nI lk2))]) (l2 := [(15, 0), (16, pl363), (27, (nI nd2)), (31, (nI wr2)), (64, (nI at361)), (65, (nI ne)), (66, (nI lk2)), (27, (nI nd2))]) (V := [0, pl363, (nI nd2), (nI wr2), (nI at361), (nI ne), (nI lk2), 0, pl363, (nI nd2), (nI wr2), (nI at361), (nI ne), (nI lk2), (nI nd2)]) rfl rfl rfl hP
                                have hD : va_D A (mW G h0 a (upd (upd (upd (upd (upd (upd (upd (upd F 15 0) 16 pl363) 27 (nI nd2)) 31 (nI wr2)) 64 (nI at361)) 65 (nI ne)) 66 (nI lk2)) 27 (nI nd2)) (updA X2 2 K)) := mW_D hD
                                refine pc_V0 (G := G) (As := [.int 44, .int (nI (at299 - 1)), .int (nI at331), .int (nI at316), .int (-1)]) (rest := []) hx hb hml hown hq hE hX pX0_al hP hD hS hA hl.1 (R_nodeB l G h0 a (upd (upd (upd (upd (upd (upd (upd F 15 0) 16 pl363) 27 (nI nd2)) 31 (nI wr2)) 64 (nI at361)) 65 (nI ne)) 66 (nI lk2)) X2 44 (nI (at299 - 1)) (nI at331) (nI at316) (-1) nd2 K (by omega)) (gV pw_1650 pw_1651 pw_1652 pw_1523 pw_1589) hV_X12_node 0 9 rfl rfl rfl rfl (Nat.le_of_ble_eq_true rfl) dX12_attempt_121 ⟨Nat.le_of_ble_eq_true rfl, Nat.le_of_ble_eq_true rfl⟩ ⟨(by show 2 + 1 ≤ (26 * n + 43); omega), (by show 8 + (7 + 11) + 60 ≤ (2000 * n + 4300); omega)⟩ (fun v375 u373 H locs hw374 hP hD hS => ?_)
                                obtain ⟨X376, rfl⟩ : ∃ z, z = u373 := ⟨_, rfl⟩
                                obtain ⟨hw374, h377⟩ := hw374
                                have h377 : NewN X2 X376 nd2 44 (nI (at299 - 1)) (nI at331) (nI at316) (-1) := h377
                                obtain rfl : v375 = some (.int (nI nd2)) := hw374
                                have hP : va_P G.1 pCl (mW G h0 a (upd (upd (upd (upd (upd (upd (upd F 15 0) 16 pl363) 27 (nI (nd2 + 1))) 31 (nI wr2)) 64 (nI at361)) 65 (nI ne)) 66 (nI lk2)) (updA X376 2 K)) _ := mW_to (F := F) (l1 := [(15, 0), (16, pl363), (27, (nI nd2)), (31, (nI wr2)), (64, (nI at361)), (65, (nI ne)), (66, (nI lk2)), (27, (nI (nd2 + 1)))]) (l2 := [(15, 0), (16, pl363), (27, (nI (nd2 + 1))), (31, (nI wr2)), (64, (nI at361)), (65, (nI ne)), (66, (nI lk2))]) (V := [0, pl363, (nI (nd2 + 1)), (nI wr2), (nI at361), (nI ne), (nI lk2), (nI (nd2 + 1)), 0, pl363, (nI (nd2 + 1)), (nI wr2), (nI at361), (nI ne), (nI lk2)]) rfl rfl rfl hP
                                have hD : va_D A (mW G h0 a (upd (upd (upd (upd (upd (upd (upd F 15 0) 16 pl363) 27 (nI (nd2 + 1))) 31 (nI wr2)) 64 (nI at361)) 65 (nI ne)) 66 (nI lk2)) (updA X376 2 K)) := mW_D hD
                                refine W.widen (k := 0) (n := 0) (Nat.le_of_ble_eq_true rfl) (Nat.le_of_ble_eq_true rfl) ?_
                                refine W.eq (g2 := F0 m 124 ls [.int (nI nd2)]) rfl ?_
                                have hkp378 : Kp B X376 wr2 T := (Kp.new hkp2 h377)
                                have hlo379 : Low B X376 nd wr := (Low.new hlo2 h377 (by omega))
                                have hf380 : FrL K T wr2 X376 nd nd2 20000 nd (280 + 4 * (21 - ne)) la 3 := (FrL.same hf2 (by omega) (fun j i q1 q2 q3 q4 => (h377.2.1 j i (by omega))))
                                have hn381 : Nd X376 nd 41 xa2 xb2 (-1) (-1) := (Nd.new hn2 h377 (by omega))
                                have hf382 : Frs K T wr2 X376 nd2 (nd2 + 1) nd2 [(nd2, 0)] := (Frs.new0 (k := 44) Frs.nil (Nat.le_refl _) (Nat.le_refl _) h377 rfl (by decide) (by decide) (by omega) (by omega) (fun e => absurd e (by decide)) ⟨fun e => absurd e (by decide), fun _ => Or.inr ⟨at316, rfl, by omega⟩, fun _ e => absurd (by decide) e⟩ (newOK.m1 (by decide)) (newOK.m1 (by decide)) (newOK.m1 (by decide)))
                                have hn383 : Nd X376 nd2 44 (nI at316) (-1) (-1) (-1) := (NewN.toNd h377)
                                refine lv_istore (lv' := [(6, .int (nI nd2)), (5, .int (nI at331)), (4, .int (nI at316)), (3, .int (nI (at299 - 1))), (2, .int (nI la)), (1, .int (nI nd)), (0, .ref h0)]) hx hb dX12_attempt_124 hl (by decide) rfl (fun ls hl => ?_)
                                refine lv_aload_n hx hb dX12_attempt_126 rfl (lv_at hl 6 rfl) ?_
                                refine r_get (v := .ref (a 13)) hx hb hown hq hE hP 21 50 tFX12_21 (by decide) pw_1443 rfl dX12_attempt_127 ?_
                                refine lv_iload hx hb dX12_attempt_130 (lv_at hl 0 rfl) ?_
                                refine lv_aload_n hx hb dX12_attempt_132 rfl (lv_at hl 6 rfl) ?_
                                have hP : va_P G.1 pCl (mW G h0 a (upd (upd (upd (upd (upd (upd (upd (upd (upd (upd (upd (upd (upd F 15 0) 16 pl363) 27 (nI (nd2 + 1))) 31 (nI wr2)) 64 (nI at361)) 65 (nI ne)) 66 (nI lk2)) 15 0) 27 (nI (nd2 + 1))) 31 (nI wr2)) 64 (nI at361)) 65 (nI ne)) 66 (nI lk2)) (updA X376 2 K)) _ := mW_to (F := F) (l1 := [(15, 0), (16, pl363), (27, (nI (nd2 + 1))), (31, (nI wr2)), (64, (nI at361)), (65, (nI ne)), (66, (nI lk2))]) (l2 := [(15, 0), (16, pl363), (27, (nI (nd2 + 1))), (31, (nI wr2)), (64, (nI at361)), (65, (nI ne)), (66, (nI lk2)), (15, 0), (27, (nI (nd2 + 1))), (31, (nI wr2)), (64, (nI at361)), (65, (nI ne)), (66, (nI lk2))]) (V := [0, pl363, (nI (nd2 + 1)), (nI wr2), (nI at361), (nI ne), (nI lk2), 0, pl363, (nI (nd2 + 1)), (nI wr2), (nI at361), (nI ne), (nI lk2), 0, (nI (nd2 + 1)), (nI wr2), (nI at361), (nI ne), (nI lk2)]) rfl rfl rfl hP
                                have hD : va_D A (mW G h0 a (upd (upd (upd (upd (upd (upd (upd (upd (upd (upd (upd (upd (upd F 15 0) 16 pl363) 27 (nI (nd2 + 1))) 31 (nI wr2)) 64 (nI at361)) 65 (nI ne)) 66 (nI lk2)) 15 0) 27 (nI (nd2 + 1))) 31 (nI wr2)) 64 (nI at361)) 65 (nI ne)) 66 (nI lk2)) (updA X376 2 K)) := mW_D hD
                                refine pc_V0 (G := G) (As := []) (rest := [.int (nI nd2), .ref (a 13)]) hx hb hml hown hq hE hX pX0_al hP hD hS hA hl.1 (hBk h0 a (upd (upd (upd (upd (upd (upd (upd F 15 0) 16 pl363) 27 (nI (nd2 + 1))) 31 (nI wr2)) 64 (nI at361)) 65 (nI ne)) 66 (nI lk2)) X376 at361 T ne (nd2 + 1) wr2 lk2 K (by omega) (by omega) hK (by omega) (by omega) (by omega) (by omega) (hkp378).2 (by omega)) (gV pw_1685 pw_1686 pw_1687 pw_1523 pw_1688) hV_X12_block 0 9 rfl rfl rfl rfl (Nat.le_of_ble_eq_true rfl) dX12_attempt_133 ⟨Nat.le_of_ble_eq_true rfl, Nat.le_of_ble_eq_true rfl⟩ ⟨(by show (26 * n + 42) + 1 ≤ (26 * n + 43); omega), (by show 8 + (4 + 11) + (2000 * n + 4200) ≤ (2000 * n + 4300); omega)⟩ (fun v386 u384 H locs hw385 hP hD hS => ?_)
                                obtain ⟨at387, fa388, pl389, nd390, lk391, wr392, r393, X394⟩ := u384
                                obtain ⟨hw385, h395, h396, h397, h398, h399, h400, h401, h402, h403, h404, h405, h406, h407, h408⟩ := hw385
                                have h395 : at361 ≤ at387 := h395
                                have h396 : at387 ≤ T := h396
                                have h397 : fa388 ≤ 100 := h397
                                have h398 : (nd2 + 1) ≤ nd390 := h398
                                have h399 : nd390 + 2 * at361 ≤ (nd2 + 1) + 2 * at387 + 100000 * fa388 := h399
                                have h400 : nd390 + 2 * at361 ≤ (nd2 + 1) + 2 * at387 + (60 * (20 - ne) + 50) := h400
                                have h401 : wr2 ≤ wr392 := h401
                                have h402 : wr392 + at361 ≤ wr2 + at387 := h402
                                have h403 : lk2 ≤ lk391 := h403
                                have h404 : lk391 ≤ lk2 := h404
                                have h405 : at361 + 1 ≤ at387 + fa388 := h405
                                have h406 : r393 ≤ nd390 := h406
                                have h407 : Kp X376 X394 wr392 T := h407
                                have h408 : If (fa388 = 0) (Low X376 X394 (nd2 + 1) wr2 ∧ Frs K T wr392 X394 (nd2 + 1) nd390 20000 [(r393, (281 + 4 * (20 - ne)))] ∧ kcl 10 (X394 9 r393) = true) := h408
                                obtain rfl : v386 = some (.int (nI r393)) := hw385
                                have hP : va_P G.1 pCl (mW G h0 a (upd (upd (upd (upd (upd (upd (upd F 15 (nI fa388)) 16 pl389) 27 (nI nd390)) 31 (nI wr392)) 64 (nI at387)) 65 (nI ne)) 66 (nI lk391)) (updA X394 2 K)) _ := mW_to (F := F) (l1 := [(15, 0), (16, pl363), (27, (nI (nd2 + 1))), (31, (nI wr2)), (64, (nI at361)), (65, (nI ne)), (66, (nI lk2)), (15, (nI fa388)), (16, pl389), (27, (nI nd390)), (31, (nI wr392)), (64, (nI at387)), (65, (nI ne)), (66, (nI lk391))]) (l2 := [(15, (nI fa388)), (16, pl389), (27, (nI nd390)), (31, (nI wr392)), (64, (nI at387)), (65, (nI ne)), (66, (nI lk391))]) (V := [(nI fa388), pl389, (nI nd390), (nI wr392), (nI at387), (nI ne), (nI lk391), (nI fa388), pl389, (nI nd390), (nI wr392), (nI at387), (nI ne), (nI lk391), (nI fa388), pl389, (nI nd390), (nI wr392), (nI at387), (nI ne), (nI lk391)]) rfl rfl rfl hP
                                have hD : va_D A (mW G h0 a (upd (upd (upd (upd (upd (upd (upd F 15 (nI fa388)) 16 pl389) 27 (nI nd390)) 31 (nI wr392)) 64 (nI at387)) 65 (nI ne)) 66 (nI lk391)) (updA X394 2 K)) := mW_D hD
                                refine W.widen (k := 0) (n := 0) (Nat.le_of_ble_eq_true rfl) (Nat.le_of_ble_eq_true rfl) ?_
                                refine W.eq (g2 := F0 m 136 ls [.int (nI r393), .int (nI nd2), .ref (a 13)]) rfl ?_
                                have hkp409 : Kp B X394 wr392 T := (Kp.trans hkp378 h407)
                                rcases Nat.eq_zero_or_pos fa388 with e410 | e410
                                · subst e410
                                  have hP : va_P G.1 pCl (mW G h0 a (upd (upd (upd (upd (upd (upd (upd F 15 0) 16 pl389) 27 (nI nd390)) 31 (nI wr392)) 64 (nI at387)) 65 (nI ne)) 66 (nI lk391)) (updA X394 2 K)) _ := hP
                                  have hD : va_D A (mW G h0 a (upd (upd (upd (upd (upd (upd (upd F 15 0) 16 pl389) 27 (nI nd390)) 31 (nI wr392)) 64 (nI at387)) 65 (nI ne)) 66 (nI lk391)) (updA X394 2 K)) := mW_D hD
                                  obtain ⟨hlw411, hf412, hc413⟩ := h408 rfl
                                  have hlo414 : Low B X394 nd wr := (Low.trans hlo379 hlw411 (by omega) (by omega))
                                  have hf415 : FrL K T wr392 X394 nd nd2 20000 nd (280 + 4 * (21 - ne)) la 3 := (FrL.same hf380 (by omega) (fun j i q1 q2 q3 q4 => (hlw411.1 j i q1 (by omega) (by omega))))
                                  have hf416 : Frs K T wr392 X394 nd2 (nd2 + 1) nd2 [(nd2, 0)] := (Frs.same hf382 (by omega) (fun j i q1 q2 q3 q4 => (hlw411.1 j i q1 (by omega) (by omega))))
                                  have hn417 : Nd X394 nd 41 xa2 xb2 (-1) (-1) := (Nd.low hn381 hlw411 (by omega))
                                  have hn418 : Nd X394 nd2 44 (nI at316) (-1) (-1) (-1) := (Nd.low hn383 hlw411 (by omega))
                                  have hm419 := Frs.mem hf412
                                  refine r_sti (f := (X394 13)) (j := nd2) hx hb hE hP hD hS 13 (ma_13 G a _) rfl (mas_13 G a _) (by omega) (by decide) dX12_attempt_136 (fun H locs hP hD hS => ?_)
                                  have hP : va_P G.1 pCl (mW G h0 a (upd (upd (upd (upd (upd (upd (upd F 15 0) 16 pl389) 27 (nI nd390)) 31 (nI wr392)) 64 (nI at387)) 65 (nI ne)) 66 (nI lk391)) (updA (stR X394 13 nd2 (nI r393)) 2 K)) _ := mW_to (F := F) (l1 := [(15, 0), (16, pl389), (27, (nI nd390)), (31, (nI wr392)), (64, (nI at387)), (65, (nI ne)), (66, (nI lk391))]) (l2 := [(15, 0), (16, pl389), (27, (nI nd390)), (31, (nI wr392)), (64, (nI at387)), (65, (nI ne)), (66, (nI lk391))]) (V := [0, pl389, (nI nd390), (nI wr392), (nI at387), (nI ne), (nI lk391), 0, pl389, (nI nd390), (nI wr392), (nI at387), (nI ne), (nI lk391)]) rfl rfl (show (updA (updA X394 2 K) 13 (upd (X394 13) nd2 (nI r393))) = (updA (stR X394 13 nd2 (nI r393)) 2 K) from updsA_eq2 (F := X394) (l1 := [(2, K), (13, (upd (X394 13) nd2 (nI r393)))]) (l2 := [(13, (upd (X394 13) nd2 (nI r393))), (2, K)]) (V := [K, (upd (X394 13) nd2 (nI r393)), (upd (X394 13) nd2 (nI r393)), K]) rfl rfl) hP
                                  have hD : va_D A (mW G h0 a (upd (upd (upd (upd (upd (upd (upd F 15 0) 16 pl389) 27 (nI nd390)) 31 (nI wr392)) 64 (nI at387)) 65 (nI ne)) 66 (nI lk391)) (updA (stR X394 13 nd2 (nI r393)) 2 K)) := mW_D hD
                                  have hkp420 : Kp B (stR X394 13 nd2 (nI r393)) wr392 T := (Kp.row hkp409 (by omega))
                                  have hlo421 : Low B (stR X394 13 nd2 (nI r393)) nd wr := (Low.st hlo414 (by omega) (by omega))
                                  have hf422 : Frs K T wr392 X394 nd2 nd390 nd2 [(nd2, 0), (r393, (281 + 4 * (20 - ne)))] := (Frs.join hf416 hf412 (by omega) (by omega) (by omega))
                                  have hf423 : FrL K T wr392 (stR X394 13 nd2 (nI r393)) nd nd2 20000 nd (280 + 4 * (21 - ne)) la 3 := (FrL.same hf415 (by omega) (fun j i q1 q2 q3 q4 => (st_ne (by omega))))
                                  have hn424 : Nd (stR X394 13 nd2 (nI r393)) nd 41 xa2 xb2 (-1) (-1) := (Nd.stn hn417 (by omega))
                                  have hn425 : Nd (stR X394 13 nd2 (nI r393)) nd2 44 (nI at316) (nI r393) (-1) (-1) := (Nd.st hn418 (by omega))
                                  have hc426 : kcl 10 ((stR X394 13 nd2 (nI r393)) 9 r393) = true := by rw [st_ne (by omega)]; exact hc413
                                  have hf427 : Frs K T wr392 (stR X394 13 nd2 (nI r393)) nd2 nd390 nd2 [(nd2, (279 + 4 * (21 - ne)))] := (Frs.set (s := 2) (k := 44) hf422 (by omega) (by omega) (by simp) (by omega) (by omega) hn418.2.2.1 hn418.1 (by decide) ⟨by decide, by decide, by decide, hc413, fun h => absurd h (by decide)⟩ (by omega) (by omega) (by decide) (fun h1 h2 => by omega))
                                  have hf428 : Frs K T wr392 (stR X394 13 nd2 (nI r393)) nd2 nd390 20000 [(nd2, (279 + 4 * (21 - ne)))] := (Frs.fin (k := 44) hf427 hn425 rfl (by decide) (fun _ => nI_m1 (by omega)) (fun _ => nI_m1 (by omega)) (fun h => absurd h (by decide)) (fun h => absurd h (by decide)))
                                  refine lv_iload_n hx hb dX12_attempt_137 rfl (lv_at hl 4 rfl) ?_
                                  refine lv_iconst (v := (-1)) hx hb dX12_attempt_138 (by decide) ?_
                                  refine lv_icmp_ne (tgt := 153) hx hb dX12_attempt_139 (by decide) (fun c429 => ?_) (fun c429 => absurd c429 (nI_m1 (by omega)))
                                  refine lv_aload_n hx hb dX12_attempt_153 rfl (lv_at hl 6 rfl) ?_
                                  refine r_get (v := .ref (a 16)) hx hb hown hq hE hP 24 59 tFX12_24 (by decide) pw_1446 rfl dX12_attempt_154 ?_
                                  refine lv_iload_n hx hb dX12_attempt_157 rfl (lv_at hl 4 rfl) ?_
                                  refine lv_iload hx hb dX12_attempt_158 (lv_at hl 0 rfl) ?_
                                  refine r_sti (f := ((stR X394 13 nd2 (nI r393)) 16)) (j := la) hx hb hE hP hD hS 16 (ma_16 G a _) rfl (mas_16 G a _) (by omega) (by decide) dX12_attempt_160 (fun H locs hP hD hS => ?_)
                                  have hP : va_P G.1 pCl (mW G h0 a (upd (upd (upd (upd (upd (upd (upd F 15 0) 16 pl389) 27 (nI nd390)) 31 (nI wr392)) 64 (nI at387)) 65 (nI ne)) 66 (nI lk391)) (updA (stR (stR X394 13 nd2 (nI r393)) 16 la (nI nd2)) 2 K)) _ := mW_to (F := F) (l1 := [(15, 0), (16, pl389), (27, (nI nd390)), (31, (nI wr392)), (64, (nI at387)), (65, (nI ne)), (66, (nI lk391))]) (l2 := [(15, 0), (16, pl389), (27, (nI nd390)), (31, (nI wr392)), (64, (nI at387)), (65, (nI ne)), (66, (nI lk391))]) (V := [0, pl389, (nI nd390), (nI wr392), (nI at387), (nI ne), (nI lk391), 0, pl389, (nI nd390), (nI wr392), (nI at387), (nI ne), (nI lk391)]) rfl rfl (show (updA (updA (stR X394 13 nd2 (nI r393)) 2 K) 16 (upd ((stR X394 13 nd2 (nI r393)) 16) la (nI nd2))) = (updA (stR (stR X394 13 nd2 (nI r393)) 16 la (nI nd2)) 2 K) from updsA_eq2 (F := X394) (l1 := [(13, (upd (X394 13) nd2 (nI r393))), (2, K), (16, (upd ((stR X394 13 nd2 (nI r393)) 16) la (nI nd2)))]) (l2 := [(13, (upd (X394 13) nd2 (nI r393))), (16, (upd ((stR X394 13 nd2 (nI r393)) 16) la (nI nd2))), (2, K)]) (V := [(upd (X394 13) nd2 (nI r393)), K, (upd ((stR X394 13 nd2 (nI r393)) 16) la (nI nd2)), (upd (X394 13) nd2 (nI r393)), (upd ((stR X394 13 nd2 (nI r393)) 16) la (nI nd2)), K]) rfl rfl) hP
                                  have hD : va_D A (mW G h0 a (upd (upd (upd (upd (upd (upd (upd F 15 0) 16 pl389) 27 (nI nd390)) 31 (nI wr392)) 64 (nI at387)) 65 (nI ne)) 66 (nI lk391)) (updA (stR (stR X394 13 nd2 (nI r393)) 16 la (nI nd2)) 2 K)) := mW_D hD
                                  have hkp430 : Kp B (stR (stR X394 13 nd2 (nI r393)) 16 la (nI nd2)) wr392 T := (Kp.row hkp420 (by omega))
                                  have hlo431 : Low B (stR (stR X394 13 nd2 (nI r393)) 16 la (nI nd2)) nd wr := (Low.st hlo421 (by omega) (by omega))
                                  have hn432 : Nd (stR (stR X394 13 nd2 (nI r393)) 16 la (nI nd2)) nd 41 xa2 xb2 (-1) (-1) := (Nd.stn hn424 (by omega))
                                  have hn433 : Nd (stR (stR X394 13 nd2 (nI r393)) 16 la (nI nd2)) nd2 44 (nI at316) (nI r393) (-1) (-1) := (Nd.stn hn425 (by omega))
                                  have hf434 : FrL K T wr392 (stR (stR X394 13 nd2 (nI r393)) 16 la (nI nd2)) nd nd390 20000 nd (280 + 4 * (21 - ne)) nd2 3 := (FrL.next hf423 hf428 (by omega) (by omega) (by omega) (by omega) (by rw [hn425.1]; decide) (by omega) (by omega) (fun h => by omega))
                                  refine lv_iload hx hb dX12_attempt_161 (lv_at hl 0 rfl) ?_
                                  refine lv_istore_n (lv' := [(2, .int (nI nd2)), (6, .int (nI nd2)), (5, .int (nI at331)), (4, .int (nI at316)), (3, .int (nI (at299 - 1))), (1, .int (nI nd)), (0, .ref h0)]) hx hb dX12_attempt_163 rfl hl (by decide) rfl (fun ls hl => ?_)
                                  refine lv_goto (tgt := 71) hx hb dX12_attempt_164 (by decide) ?_
                                  have hP : va_P G.1 pCl (mW G h0 a (upd (upd (upd (upd (upd (upd (upd F 15 0) 16 pl389) 27 (nI nd390)) 31 (nI wr392)) 64 (nI at387)) 65 (nI ne)) 66 (nI lk391)) (updA (stR (stR X394 13 nd2 (nI r393)) 16 la (nI nd2)) 2 K)) _ := hP
                                  have hD : va_D A (mW G h0 a (upd (upd (upd (upd (upd (upd (upd F 15 0) 16 pl389) 27 (nI nd390)) 31 (nI wr392)) 64 (nI at387)) 65 (nI ne)) 66 (nI lk391)) (updA (stR (stR X394 13 nd2 (nI r393)) 16 la (nI nd2)) 2 K)) := mW_D hD
                                  exact ih_o at387 nd390 wr392 lk391 pl389 (stR (stR X394 13 nd2 (nI r393)) 16 la (nI nd2)) nd2 xa2 xb2 _ _ _ (by omega) (by omega) (by omega) (by omega) (by omega) (by omega) (by omega) (by omega) (by omega) (by omega) (by omega) hkp430 hlo431 hf434 hn432 hP hD hS (lv_sub hl [0, 5, 6] rfl)
                                · have e410 := e410
                                  refine r_sti (f := (X394 13)) (j := nd2) hx hb hE hP hD hS 13 (ma_13 G a _) rfl (mas_13 G a _) (by omega) (by decide) dX12_attempt_136 (fun H locs hP hD hS => ?_)
                                  have hP : va_P G.1 pCl (mW G h0 a (upd (upd (upd (upd (upd (upd (upd F 15 (nI fa388)) 16 pl389) 27 (nI nd390)) 31 (nI wr392)) 64 (nI at387)) 65 (nI ne)) 66 (nI lk391)) (updA (stR X394 13 nd2 (nI r393)) 2 K)) _ := mW_to (F := F) (l1 := [(15, (nI fa388)), (16, pl389), (27, (nI nd390)), (31, (nI wr392)), (64, (nI at387)), (65, (nI ne)), (66, (nI lk391))]) (l2 := [(15, (nI fa388)), (16, pl389), (27, (nI nd390)), (31, (nI wr392)), (64, (nI at387)), (65, (nI ne)), (66, (nI lk391))]) (V := [(nI fa388), pl389, (nI nd390), (nI wr392), (nI at387), (nI ne), (nI lk391), (nI fa388), pl389, (nI nd390), (nI wr392), (nI at387), (nI ne), (nI lk391)]) rfl rfl (show (updA (updA X394 2 K) 13 (upd (X394 13) nd2 (nI r393))) = (updA (stR X394 13 nd2 (nI r393)) 2 K) from updsA_eq2 (F := X394) (l1 := [(2, K), (13, (upd (X394 13) nd2 (nI r393)))]) (l2 := [(13, (upd (X394 13) nd2 (nI r393))), (2, K)]) (V := [K, (upd (X394 13) nd2 (nI r393)), (upd (X394 13) nd2 (nI r393)), K]) rfl rfl) hP
                                  have hD : va_D A (mW G h0 a (upd (upd (upd (upd (upd (upd (upd F 15 (nI fa388)) 16 pl389) 27 (nI nd390)) 31 (nI wr392)) 64 (nI at387)) 65 (nI ne)) 66 (nI lk391)) (updA (stR X394 13 nd2 (nI r393)) 2 K)) := mW_D hD
                                  have hkp435 : Kp B (stR X394 13 nd2 (nI r393)) wr392 T := (Kp.row hkp409 (by omega))
                                  refine lv_iload_n hx hb dX12_attempt_137 rfl (lv_at hl 4 rfl) ?_
                                  refine lv_iconst (v := (-1)) hx hb dX12_attempt_138 (by decide) ?_
                                  refine lv_icmp_ne (tgt := 153) hx hb dX12_attempt_139 (by decide) (fun c436 => ?_) (fun c436 => absurd c436 (nI_m1 (by omega)))
                                  refine lv_aload_n hx hb dX12_attempt_153 rfl (lv_at hl 6 rfl) ?_
                                  refine r_get (v := .ref (a 16)) hx hb hown hq hE hP 24 59 tFX12_24 (by decide) pw_1446 rfl dX12_attempt_154 ?_
                                  refine lv_iload_n hx hb dX12_attempt_157 rfl (lv_at hl 4 rfl) ?_
                                  refine lv_iload hx hb dX12_attempt_158 (lv_at hl 0 rfl) ?_
                                  refine r_sti (f := ((stR X394 13 nd2 (nI r393)) 16)) (j := la) hx hb hE hP hD hS 16 (ma_16 G a _) rfl (mas_16 G a _) (by omega) (by decide) dX12_attempt_160 (fun H locs hP hD hS => ?_)
                                  have hP : va_P G.1 pCl (mW G h0 a (upd (upd (upd (upd (upd (upd (upd F 15 (nI fa388)) 16 pl389) 27 (nI nd390)) 31 (nI wr392)) 64 (nI at387)) 65 (nI ne)) 66 (nI lk391)) (updA (stR (stR X394 13 nd2 (nI r393)) 16 la (nI nd2)) 2 K)) _ := mW_to (F := F) (l1 := [(15, (nI fa388)), (16, pl389), (27, (nI nd390)), (31, (nI wr392)), (64, (nI at387)), (65, (nI ne)), (66, (nI lk391))]) (l2 := [(15, (nI fa388)), (16, pl389), (27, (nI nd390)), (31, (nI wr392)), (64, (nI at387)), (65, (nI ne)), (66, (nI lk391))]) (V := [(nI fa388), pl389, (nI nd390), (nI wr392), (nI at387), (nI ne), (nI lk391), (nI fa388), pl389, (nI nd390), (nI wr392), (nI at387), (nI ne), (nI lk391)]) rfl rfl (show (updA (updA (stR X394 13 nd2 (nI r393)) 2 K) 16 (upd ((stR X394 13 nd2 (nI r393)) 16) la (nI nd2))) = (updA (stR (stR X394 13 nd2 (nI r393)) 16 la (nI nd2)) 2 K) from updsA_eq2 (F := X394) (l1 := [(13, (upd (X394 13) nd2 (nI r393))), (2, K), (16, (upd ((stR X394 13 nd2 (nI r393)) 16) la (nI nd2)))]) (l2 := [(13, (upd (X394 13) nd2 (nI r393))), (16, (upd ((stR X394 13 nd2 (nI r393)) 16) la (nI nd2))), (2, K)]) (V := [(upd (X394 13) nd2 (nI r393)), K, (upd ((stR X394 13 nd2 (nI r393)) 16) la (nI nd2)), (upd (X394 13) nd2 (nI r393)), (upd ((stR X394 13 nd2 (nI r393)) 16) la (nI nd2)), K]) rfl rfl) hP
                                  have hD : va_D A (mW G h0 a (upd (upd (upd (upd (upd (upd (upd F 15 (nI fa388)) 16 pl389) 27 (nI nd390)) 31 (nI wr392)) 64 (nI at387)) 65 (nI ne)) 66 (nI lk391)) (updA (stR (stR X394 13 nd2 (nI r393)) 16 la (nI nd2)) 2 K)) := mW_D hD
                                  have hkp437 : Kp B (stR (stR X394 13 nd2 (nI r393)) 16 la (nI nd2)) wr392 T := (Kp.row hkp435 (by omega))
                                  refine lv_iload hx hb dX12_attempt_161 (lv_at hl 0 rfl) ?_
                                  refine lv_istore_n (lv' := [(2, .int (nI nd2)), (6, .int (nI nd2)), (5, .int (nI at331)), (4, .int (nI at316)), (3, .int (nI (at299 - 1))), (1, .int (nI nd)), (0, .ref h0)]) hx hb dX12_attempt_163 rfl hl (by decide) rfl (fun ls hl => ?_)
                                  refine lv_goto (tgt := 71) hx hb dX12_attempt_164 (by decide) ?_
                                  refine lv_aload_n hx hb dX12_attempt_71 rfl (lv_at hl 6 rfl) ?_
                                  refine lv_sipush (v := 313) hx hb dX12_attempt_72 (by decide) ?_
                                  have hP : va_P G.1 pCl (mW G h0 a (upd (upd (upd (upd (upd (upd (upd (upd (upd F 15 (nI fa388)) 16 pl389) 27 (nI nd390)) 31 (nI wr392)) 64 (nI at387)) 65 (nI ne)) 66 (nI lk391)) 15 (nI fa388)) 64 (nI at387)) (updA (updA (stR (stR X394 13 nd2 (nI r393)) 16 la (nI nd2)) 2 K) 2 K)) _ := mW_to (F := F) (l1 := [(15, (nI fa388)), (16, pl389), (27, (nI nd390)), (31, (nI wr392)), (64, (nI at387)), (65, (nI ne)), (66, (nI lk391))]) (l2 := [(15, (nI fa388)), (16, pl389), (27, (nI nd390)), (31, (nI wr392)), (64, (nI at387)), (65, (nI ne)), (66, (nI lk391)), (15, (nI fa388)), (64, (nI at387))]) (V := [(nI fa388), pl389, (nI nd390), (nI wr392), (nI at387), (nI ne), (nI lk391), (nI fa388), pl389, (nI nd390), (nI wr392), (nI at387), (nI ne), (nI lk391), (nI fa388), (nI at387)]) rfl rfl (show (updA (stR (stR X394 13 nd2 (nI r393)) 16 la (nI nd2)) 2 K) = (updA (updA (stR (stR X394 13 nd2 (nI r393)) 16 la (nI nd2)) 2 K) 2 K) from updsA_eq2 (F := X394) (l1 := [(13, (upd (X394 13) nd2 (nI r393))), (16, (upd ((stR X394 13 nd2 (nI r393)) 16) la (nI nd2))), (2, K)]) (l2 := [(13, (upd (X394 13) nd2 (nI r393))), (16, (upd ((stR X394 13 nd2 (nI r393)) 16) la (nI nd2))), (2, K), (2, K)]) (V := [(upd (X394 13) nd2 (nI r393)), (upd ((stR X394 13 nd2 (nI r393)) 16) la (nI nd2)), K, (upd (X394 13) nd2 (nI r393)), (upd ((stR X394 13 nd2 (nI r393)) 16) la (nI nd2)), K, K]) rfl rfl) hP
                                  have hD : va_D A (mW G h0 a (upd (upd (upd (upd (upd (upd (upd (upd (upd F 15 (nI fa388)) 16 pl389) 27 (nI nd390)) 31 (nI wr392)) 64 (nI at387)) 65 (nI ne)) 66 (nI lk391)) 15 (nI fa388)) 64 (nI at387)) (updA (updA (stR (stR X394 13 nd2 (nI r393)) 16 la (nI nd2)) 2 K) 2 K)) := mW_D hD
                                  refine pc_V0 (G := G) (As := [.int 313]) (rest := []) hx hb hml hown hq hE hX pX0_al hP hD hS hA hl.1 (R_may l G h0 a (upd (upd (upd (upd (upd (upd (upd F 15 (nI fa388)) 16 pl389) 27 (nI nd390)) 31 (nI wr392)) 64 (nI at387)) 65 (nI ne)) 66 (nI lk391)) (updA (stR (stR X394 13 nd2 (nI r393)) 16 la (nI nd2)) 2 K) at387 T fa388 K 313 (by omega) (by omega) hK (by omega) (by decide) (by decide)) (gV pw_1621 pw_1622 pw_1623 pw_1523 pw_1605) hV_X12_may 0 9 rfl rfl rfl rfl (Nat.le_of_ble_eq_true rfl) dX12_attempt_75 ⟨Nat.le_of_ble_eq_true rfl, Nat.le_of_ble_eq_true rfl⟩ ⟨(by show 3 + 1 ≤ (26 * n + 43); omega), (by show 8 + (3 + 11) + 81 ≤ (2000 * n + 4300); omega)⟩ (fun v440 u438 H locs hw439 hP hD hS => ?_)
                                  obtain ⟨at441, r442⟩ := u438
                                  obtain ⟨hw439, h443, h444, h445, h446, h447, h448⟩ := hw439
                                  have h443 : r442 ≤ 1 := h443
                                  have h444 : fa388 + 100 * r442 ≤ 100 := h444
                                  have h445 : at441 = at387 + r442 := h445
                                  have h446 : at441 ≤ T := h446
                                  have h447 : If (r442 = 1) (K at387 = 313) := h447
                                  have h448 : If (r442 = 0) (fa388 = 0 → ¬ K at387 = 313) := h448
                                  obtain rfl : v440 = some (.int (nI r442)) := hw439
                                  have hP : va_P G.1 pCl (mW G h0 a (upd (upd (upd (upd (upd (upd (upd F 15 (nI fa388)) 16 pl389) 27 (nI nd390)) 31 (nI wr392)) 64 (nI at441)) 65 (nI ne)) 66 (nI lk391)) (updA (stR (stR X394 13 nd2 (nI r393)) 16 la (nI nd2)) 2 K)) _ := mW_to (F := F) (l1 := [(15, (nI fa388)), (16, pl389), (27, (nI nd390)), (31, (nI wr392)), (64, (nI at387)), (65, (nI ne)), (66, (nI lk391)), (15, (nI fa388)), (64, (nI at441))]) (l2 := [(15, (nI fa388)), (16, pl389), (27, (nI nd390)), (31, (nI wr392)), (64, (nI at441)), (65, (nI ne)), (66, (nI lk391))]) (V := [(nI fa388), pl389, (nI nd390), (nI wr392), (nI at441), (nI ne), (nI lk391), (nI fa388), (nI at441), (nI fa388), pl389, (nI nd390), (nI wr392), (nI at441), (nI ne), (nI lk391)]) rfl rfl (show (updA (updA (stR (stR X394 13 nd2 (nI r393)) 16 la (nI nd2)) 2 K) 2 K) = (updA (stR (stR X394 13 nd2 (nI r393)) 16 la (nI nd2)) 2 K) from updsA_eq2 (F := X394) (l1 := [(13, (upd (X394 13) nd2 (nI r393))), (16, (upd ((stR X394 13 nd2 (nI r393)) 16) la (nI nd2))), (2, K), (2, K)]) (l2 := [(13, (upd (X394 13) nd2 (nI r393))), (16, (upd ((stR X394 13 nd2 (nI r393)) 16) la (nI nd2))), (2, K)]) (V := [(upd (X394 13) nd2 (nI r393)), (upd ((stR X394 13 nd2 (nI r393)) 16) la (nI nd2)), K, K, (upd (X394 13) nd2 (nI r393)), (upd ((stR X394 13 nd2 (nI r393)) 16) la (nI nd2)), K]) rfl rfl) hP
                                  have hD : va_D A (mW G h0 a (upd (upd (upd (upd (upd (upd (upd F 15 (nI fa388)) 16 pl389) 27 (nI nd390)) 31 (nI wr392)) 64 (nI at441)) 65 (nI ne)) 66 (nI lk391)) (updA (stR (stR X394 13 nd2 (nI r393)) 16 la (nI nd2)) 2 K)) := mW_D hD
                                  refine W.widen (k := 0) (n := 0) (Nat.le_of_ble_eq_true rfl) (Nat.le_of_ble_eq_true rfl) ?_
                                  refine W.eq (g2 := F0 m 78 ls [.int (nI r442)]) rfl ?_
                                  obtain rfl : at387 = at441 := (by omega)
                                  refine lv_if_eq (tgt := 167) hx hb dX12_attempt_78 (by decide) (fun c449 => ?_) (fun c449 => (by have n450 : ¬ (r442 = 0) := fun h9 => c449 ((nI_eq (a := r442) (b := 0) (by omega) (by omega)).mpr h9); omega))
                                  refine lv_aload_n hx hb dX12_attempt_167 rfl (lv_at hl 6 rfl) ?_
                                  refine lv_sipush (v := 319) hx hb dX12_attempt_168 (by decide) ?_
                                  have hP : va_P G.1 pCl (mW G h0 a (upd (upd (upd (upd (upd (upd (upd (upd (upd F 15 (nI fa388)) 16 pl389) 27 (nI nd390)) 31 (nI wr392)) 64 (nI at387)) 65 (nI ne)) 66 (nI lk391)) 15 (nI fa388)) 64 (nI at387)) (updA (updA (stR (stR X394 13 nd2 (nI r393)) 16 la (nI nd2)) 2 K) 2 K)) _ := hP
                                  have hD : va_D A (mW G h0 a (upd (upd (upd (upd (upd (upd (upd (upd (upd F 15 (nI fa388)) 16 pl389) 27 (nI nd390)) 31 (nI wr392)) 64 (nI at387)) 65 (nI ne)) 66 (nI lk391)) 15 (nI fa388)) 64 (nI at387)) (updA (updA (stR (stR X394 13 nd2 (nI r393)) 16 la (nI nd2)) 2 K) 2 K)) := mW_D hD
                                  refine pc_V0 (G := G) (As := [.int 319]) (rest := []) hx hb hml hown hq hE hX pX0_al hP hD hS hA hl.1 (R_may l G h0 a (upd (upd (upd (upd (upd (upd (upd F 15 (nI fa388)) 16 pl389) 27 (nI nd390)) 31 (nI wr392)) 64 (nI at387)) 65 (nI ne)) 66 (nI lk391)) (updA (stR (stR X394 13 nd2 (nI r393)) 16 la (nI nd2)) 2 K) at387 T fa388 K 319 (by omega) (by omega) hK (by omega) (by decide) (by decide)) (gV pw_1621 pw_1622 pw_1623 pw_1523 pw_1605) hV_X12_may 0 9 rfl rfl rfl rfl (Nat.le_of_ble_eq_true rfl) dX12_attempt_171 ⟨Nat.le_of_ble_eq_true rfl, Nat.le_of_ble_eq_true rfl⟩ ⟨(by show 3 + 1 ≤ (26 * n + 43); omega), (by show 8 + (3 + 11) + 81 ≤ (2000 * n + 4300); omega)⟩ (fun v453 u451 H locs hw452 hP hD hS => ?_)
                                  obtain ⟨at454, r455⟩ := u451
                                  obtain ⟨hw452, h456, h457, h458, h459, h460, h461⟩ := hw452
                                  have h456 : r455 ≤ 1 := h456
                                  have h457 : fa388 + 100 * r455 ≤ 100 := h457
                                  have h458 : at454 = at387 + r455 := h458
                                  have h459 : at454 ≤ T := h459
                                  have h460 : If (r455 = 1) (K at387 = 319) := h460
                                  have h461 : If (r455 = 0) (fa388 = 0 → ¬ K at387 = 319) := h461
                                  obtain rfl : v453 = some (.int (nI r455)) := hw452
                                  have hP : va_P G.1 pCl (mW G h0 a (upd (upd (upd (upd (upd (upd (upd F 15 (nI fa388)) 16 pl389) 27 (nI nd390)) 31 (nI wr392)) 64 (nI at454)) 65 (nI ne)) 66 (nI lk391)) (updA (stR (stR X394 13 nd2 (nI r393)) 16 la (nI nd2)) 2 K)) _ := mW_to (F := F) (l1 := [(15, (nI fa388)), (16, pl389), (27, (nI nd390)), (31, (nI wr392)), (64, (nI at387)), (65, (nI ne)), (66, (nI lk391)), (15, (nI fa388)), (64, (nI at454))]) (l2 := [(15, (nI fa388)), (16, pl389), (27, (nI nd390)), (31, (nI wr392)), (64, (nI at454)), (65, (nI ne)), (66, (nI lk391))]) (V := [(nI fa388), pl389, (nI nd390), (nI wr392), (nI at454), (nI ne), (nI lk391), (nI fa388), (nI at454), (nI fa388), pl389, (nI nd390), (nI wr392), (nI at454), (nI ne), (nI lk391)]) rfl rfl (show (updA (updA (stR (stR X394 13 nd2 (nI r393)) 16 la (nI nd2)) 2 K) 2 K) = (updA (stR (stR X394 13 nd2 (nI r393)) 16 la (nI nd2)) 2 K) from updsA_eq2 (F := X394) (l1 := [(13, (upd (X394 13) nd2 (nI r393))), (16, (upd ((stR X394 13 nd2 (nI r393)) 16) la (nI nd2))), (2, K), (2, K)]) (l2 := [(13, (upd (X394 13) nd2 (nI r393))), (16, (upd ((stR X394 13 nd2 (nI r393)) 16) la (nI nd2))), (2, K)]) (V := [(upd (X394 13) nd2 (nI r393)), (upd ((stR X394 13 nd2 (nI r393)) 16) la (nI nd2)), K, K, (upd (X394 13) nd2 (nI r393)), (upd ((stR X394 13 nd2 (nI r393)) 16) la (nI nd2)), K]) rfl rfl) hP
                                  have hD : va_D A (mW G h0 a (upd (upd (upd (upd (upd (upd (upd F 15 (nI fa388)) 16 pl389) 27 (nI nd390)) 31 (nI wr392)) 64 (nI at454)) 65 (nI ne)) 66 (nI lk391)) (updA (stR (stR X394 13 nd2 (nI r393)) 16 la (nI nd2)) 2 K)) := mW_D hD
                                  refine W.widen (k := 0) (n := 0) (Nat.le_of_ble_eq_true rfl) (Nat.le_of_ble_eq_true rfl) ?_
                                  refine W.eq (g2 := F0 m 174 ls [.int (nI r455)]) rfl ?_
                                  obtain rfl : at387 = at454 := (by omega)
                                  refine lv_if_eq (tgt := 187) hx hb dX12_attempt_174 (by decide) (fun c462 => ?_) (fun c462 => (by have n463 : ¬ (r455 = 0) := fun h9 => c462 ((nI_eq (a := r455) (b := 0) (by omega) (by omega)).mpr h9); omega))
                                  refine lv_iload_n hx hb dX12_attempt_187 rfl (lv_at hl 5 rfl) ?_
                                  have hz464 : at0 ≤ at387 := (by omega)
                                  have hz465 : at387 ≤ T := (by omega)
                                  have hz466 : fa388 ≤ 100 := (by omega)
                                  have hz467 : nd ≤ nd390 := (by omega)
                                  have hz468 : nd390 + 2 * at0 ≤ nd + 2 * at387 + 100000 * fa388 := (by omega)
                                  have hz469 : nd390 + 2 * at0 ≤ nd + 2 * at387 + (60 * (21 - ne) + 40) := (by omega)
                                  have hz470 : wr ≤ wr392 := (by omega)
                                  have hz471 : wr392 + at0 ≤ wr + at387 := (by omega)
                                  have hz472 : lk ≤ lk391 := (by omega)
                                  have hz473 : lk391 ≤ 60 + 100 * fa388 := (by omega)
                                  have hz474 : at0 + 1 ≤ at387 + fa388 := (by omega)
                                  have hz475 : nd ≤ nd390 := (by omega)
                                  have hz476 : Kp B (stR (stR X394 13 nd2 (nI r393)) 16 la (nI nd2)) wr392 T := hkp437
                                  have hz477 : If (fa388 = 0) (Low B (stR (stR X394 13 nd2 (nI r393)) 16 la (nI nd2)) nd wr ∧ Frs K T wr392 (stR (stR X394 13 nd2 (nI r393)) 16 la (nI nd2)) nd nd390 20000 [(nd, (280 + 4 * (21 - ne)))] ∧ kcl 3 ((stR (stR X394 13 nd2 (nI r393)) 16 la (nI nd2)) 9 nd) = true) := (fun e => absurd e (by omega))
                                  have hP : va_P G.1 pCl (mW G h0 a (upd (upd (upd (upd (upd (upd (upd F 15 (nI fa388)) 16 pl389) 27 (nI nd390)) 31 (nI wr392)) 64 (nI at387)) 65 (nI ne)) 66 (nI lk391)) (updA (stR (stR X394 13 nd2 (nI r393)) 16 la (nI nd2)) 2 K)) _ := hP
                                  have hD : va_D A (mW G h0 a (upd (upd (upd (upd (upd (upd (upd F 15 (nI fa388)) 16 pl389) 27 (nI nd390)) 31 (nI wr392)) 64 (nI at387)) 65 (nI ne)) 66 (nI lk391)) (updA (stR (stR X394 13 nd2 (nI r393)) 16 la (nI nd2)) 2 K)) := mW_D hD
                                  exact W.iret (v := (nI nd)) hx hb hr (fun t9 ht9 hW9 => ⟨⟨_, (at387, fa388, pl389, nd390, lk391, wr392, nd, (stR (stR X394 13 nd2 (nI r393)) 16 la (nI nd2))), rfl, ⟨rfl, hz464, hz465, hz466, hz467, hz468, hz469, hz470, hz471, hz472, hz473, hz474, hz475, hz476, hz477⟩, by rw [ht9]; exact hP, hD⟩, hS.F ht9⟩) hS.2.2 dX12_attempt_188
                              · have e372 := e372
                                refine lv_aload_n hx hb dX12_attempt_112 rfl (lv_at hl 5 rfl) ?_
                                refine lv_bipush (v := 44) hx hb dX12_attempt_113 (by decide) ?_
                                refine lv_iload_n hx hb dX12_attempt_115 rfl (lv_at hl 2 rfl) ?_
                                refine lv_iload hx hb dX12_attempt_116 (lv_at hl 0 rfl) ?_
                                refine lv_iload hx hb dX12_attempt_118 (lv_at hl 1 rfl) ?_
                                refine lv_iconst (v := (-1)) hx hb dX12_attempt_120 (by decide) ?_
                                have hP : va_P G.1 pCl (mW G h0 a (upd (upd (upd (upd (upd (upd (upd (upd F 15 (nI fa362)) 16 pl363) 27 (nI nd2)) 31 (nI wr2)) 64 (nI at361)) 65 (nI ne)) 66 (nI lk2)) 27 (nI nd2)) (updA X2 2 K)) _ := mW_to (F := F) (l1 := [(15, (nI fa362)), (16, pl363), (27, (nI nd2)), (31, (nI wr2)), (64, (nI at361)), (65, (nI ne)), (66, (nI lk2))]) (l2 := [(15, (nI fa362)), (16, pl363), (27, (nI nd2)), (31, (nI wr2)), (64, (nI at361)), (65, (nI ne)), (66, (nI lk2)), (27, (nI nd2))]) (V := [(nI fa362), pl363, (nI nd2), (nI wr2), (nI at361), (nI ne), (nI lk2), (nI fa362), pl363, (nI nd2), (nI wr2), (nI at361), (nI ne), (nI lk2), (nI nd2)]) rfl rfl rfl hP
                                have hD : va_D A (mW G h0 a (upd (upd (upd (upd (upd (upd (upd (upd F 15 (nI fa362)) 16 pl363) 27 (nI nd2)) 31 (nI wr2)) 64 (nI at361)) 65 (nI ne)) 66 (nI lk2)) 27 (nI nd2)) (updA X2 2 K)) := mW_D hD
                                refine pc_V0 (G := G) (As := [.int 44, .int (nI (at299 - 1)), .int (nI at331), .int (nI at316), .int (-1)]) (rest := []) hx hb hml hown hq hE hX pX0_al hP hD hS hA hl.1 (R_nodeB l G h0 a (upd (upd (upd (upd (upd (upd (upd F 15 (nI fa362)) 16 pl363) 27 (nI nd2)) 31 (nI wr2)) 64 (nI at361)) 65 (nI ne)) 66 (nI lk2)) X2 44 (nI (at299 - 1)) (nI at331) (nI at316) (-1) nd2 K (by omega)) (gV pw_1650 pw_1651 pw_1652 pw_1523 pw_1589) hV_X12_node 0 9 rfl rfl rfl rfl (Nat.le_of_ble_eq_true rfl) dX12_attempt_121 ⟨Nat.le_of_ble_eq_true rfl, Nat.le_of_ble_eq_true rfl⟩ ⟨(by show 2 + 1 ≤ (26 * n + 43); omega), (by show 8 + (7 + 11) + 60 ≤ (2000 * n + 4300); omega)⟩ (fun v480 u478 H locs hw479 hP hD hS => ?_)
                                obtain ⟨X481, rfl⟩ : ∃ z, z = u478 := ⟨_, rfl⟩
                                obtain ⟨hw479, h482⟩ := hw479
                                have h482 : NewN X2 X481 nd2 44 (nI (at299 - 1)) (nI at331) (nI at316) (-1) := h482
                                obtain rfl : v480 = some (.int (nI nd2)) := hw479
                                have hP : va_P G.1 pCl (mW G h0 a (upd (upd (upd (upd (upd (upd (upd F 15 (nI fa362)) 16 pl363) 27 (nI (nd2 + 1))) 31 (nI wr2)) 64 (nI at361)) 65 (nI ne)) 66 (nI lk2)) (updA X481 2 K)) _ := mW_to (F := F) (l1 := [(15, (nI fa362)), (16, pl363), (27, (nI nd2)), (31, (nI wr2)), (64, (nI at361)), (65, (nI ne)), (66, (nI lk2)), (27, (nI (nd2 + 1)))]) (l2 := [(15, (nI fa362)), (16, pl363), (27, (nI (nd2 + 1))), (31, (nI wr2)), (64, (nI at361)), (65, (nI ne)), (66, (nI lk2))]) (V := [(nI fa362), pl363, (nI (nd2 + 1)), (nI wr2), (nI at361), (nI ne), (nI lk2), (nI (nd2 + 1)), (nI fa362), pl363, (nI (nd2 + 1)), (nI wr2), (nI at361), (nI ne), (nI lk2)]) rfl rfl rfl hP
                                have hD : va_D A (mW G h0 a (upd (upd (upd (upd (upd (upd (upd F 15 (nI fa362)) 16 pl363) 27 (nI (nd2 + 1))) 31 (nI wr2)) 64 (nI at361)) 65 (nI ne)) 66 (nI lk2)) (updA X481 2 K)) := mW_D hD
                                refine W.widen (k := 0) (n := 0) (Nat.le_of_ble_eq_true rfl) (Nat.le_of_ble_eq_true rfl) ?_
                                refine W.eq (g2 := F0 m 124 ls [.int (nI nd2)]) rfl ?_
                                have hkp483 : Kp B X481 wr2 T := (Kp.new hkp2 h482)
                                refine lv_istore (lv' := [(6, .int (nI nd2)), (5, .int (nI at331)), (4, .int (nI at316)), (3, .int (nI (at299 - 1))), (2, .int (nI la)), (1, .int (nI nd)), (0, .ref h0)]) hx hb dX12_attempt_124 hl (by decide) rfl (fun ls hl => ?_)
                                refine lv_aload_n hx hb dX12_attempt_126 rfl (lv_at hl 6 rfl) ?_
                                refine r_get (v := .ref (a 13)) hx hb hown hq hE hP 21 50 tFX12_21 (by decide) pw_1443 rfl dX12_attempt_127 ?_
                                refine lv_iload hx hb dX12_attempt_130 (lv_at hl 0 rfl) ?_
                                refine lv_aload_n hx hb dX12_attempt_132 rfl (lv_at hl 6 rfl) ?_
                                have hP : va_P G.1 pCl (mW G h0 a (upd (upd (upd (upd (upd (upd (upd (upd (upd (upd (upd F 15 (nI fa362)) 16 pl363) 27 (nI (nd2 + 1))) 31 (nI wr2)) 64 (nI at361)) 65 (nI ne)) 66 (nI lk2)) 15 (nI fa362)) 27 (nI (nd2 + 1))) 31 (nI wr2)) 64 (nI at361)) (updA X481 2 K)) _ := mW_to (F := F) (l1 := [(15, (nI fa362)), (16, pl363), (27, (nI (nd2 + 1))), (31, (nI wr2)), (64, (nI at361)), (65, (nI ne)), (66, (nI lk2))]) (l2 := [(15, (nI fa362)), (16, pl363), (27, (nI (nd2 + 1))), (31, (nI wr2)), (64, (nI at361)), (65, (nI ne)), (66, (nI lk2)), (15, (nI fa362)), (27, (nI (nd2 + 1))), (31, (nI wr2)), (64, (nI at361))]) (V := [(nI fa362), pl363, (nI (nd2 + 1)), (nI wr2), (nI at361), (nI ne), (nI lk2), (nI fa362), pl363, (nI (nd2 + 1)), (nI wr2), (nI at361), (nI ne), (nI lk2), (nI fa362), (nI (nd2 + 1)), (nI wr2), (nI at361)]) rfl rfl rfl hP
                                have hD : va_D A (mW G h0 a (upd (upd (upd (upd (upd (upd (upd (upd (upd (upd (upd F 15 (nI fa362)) 16 pl363) 27 (nI (nd2 + 1))) 31 (nI wr2)) 64 (nI at361)) 65 (nI ne)) 66 (nI lk2)) 15 (nI fa362)) 27 (nI (nd2 + 1))) 31 (nI wr2)) 64 (nI at361)) (updA X481 2 K)) := mW_D hD
                                refine pc_V0 (G := G) (As := []) (rest := [.int (nI nd2), .ref (a 13)]) hx hb hml hown hq hE hX pX0_al hP hD hS hA hl.1 (RF_block l G h0 a (upd (upd (upd (upd (upd (upd (upd F 15 (nI fa362)) 16 pl363) 27 (nI (nd2 + 1))) 31 (nI wr2)) 64 (nI at361)) 65 (nI ne)) 66 (nI lk2)) X481 at361 T fa362 (nd2 + 1) wr2 K (by omega) (by omega) hK (by omega) e372 (by omega) (by omega) (hkp483).2) (gV pw_1685 pw_1686 pw_1687 pw_1523 pw_1688) hV_X12_block 0 9 rfl rfl rfl rfl (Nat.le_of_ble_eq_true rfl) dX12_attempt_133 ⟨Nat.le_of_ble_eq_true rfl, Nat.le_of_ble_eq_true rfl⟩ ⟨(by show 5 + 1 ≤ (26 * n + 43); omega), (by show 8 + (4 + 11) + 124 ≤ (2000 * n + 4300); omega)⟩ (fun v486 u484 H locs hw485 hP hD hS => ?_)
                                obtain ⟨pl487, wr488, X489⟩ := u484
                                obtain ⟨hw485, h490, h491, h492⟩ := hw485
                                have h490 : wr2 ≤ wr488 := h490
                                have h491 : wr488 ≤ wr2 := h491
                                have h492 : Kp X481 X489 wr488 T := h492
                                obtain rfl : v486 = some (.int (nI (nd2 + 1))) := hw485
                                have hP : va_P G.1 pCl (mW G h0 a (upd (upd (upd (upd (upd (upd (upd F 15 (nI fa362)) 16 pl487) 27 (nI ((nd2 + 1) + 1))) 31 (nI wr488)) 64 (nI at361)) 65 (nI ne)) 66 (nI lk2)) (updA X489 2 K)) _ := mW_to (F := F) (l1 := [(15, (nI fa362)), (16, pl363), (27, (nI (nd2 + 1))), (31, (nI wr2)), (64, (nI at361)), (65, (nI ne)), (66, (nI lk2)), (15, (nI fa362)), (16, pl487), (27, (nI ((nd2 + 1) + 1))), (31, (nI wr488)), (64, (nI at361))]) (l2 := [(15, (nI fa362)), (16, pl487), (27, (nI ((nd2 + 1) + 1))), (31, (nI wr488)), (64, (nI at361)), (65, (nI ne)), (66, (nI lk2))]) (V := [(nI fa362), pl487, (nI ((nd2 + 1) + 1)), (nI wr488), (nI at361), (nI ne), (nI lk2), (nI fa362), pl487, (nI ((nd2 + 1) + 1)), (nI wr488), (nI at361), (nI fa362), pl487, (nI ((nd2 + 1) + 1)), (nI wr488), (nI at361), (nI ne), (nI lk2)]) rfl rfl rfl hP
                                have hD : va_D A (mW G h0 a (upd (upd (upd (upd (upd (upd (upd F 15 (nI fa362)) 16 pl487) 27 (nI ((nd2 + 1) + 1))) 31 (nI wr488)) 64 (nI at361)) 65 (nI ne)) 66 (nI lk2)) (updA X489 2 K)) := mW_D hD
                                refine W.widen (k := 0) (n := 0) (Nat.le_of_ble_eq_true rfl) (Nat.le_of_ble_eq_true rfl) ?_
                                refine W.eq (g2 := F0 m 136 ls [.int (nI (nd2 + 1)), .int (nI nd2), .ref (a 13)]) rfl ?_
                                have hkp493 : Kp B X489 wr488 T := (Kp.trans hkp483 h492)
                                refine r_sti (f := (X489 13)) (j := nd2) hx hb hE hP hD hS 13 (ma_13 G a _) rfl (mas_13 G a _) (by omega) (by decide) dX12_attempt_136 (fun H locs hP hD hS => ?_)
                                have hP : va_P G.1 pCl (mW G h0 a (upd (upd (upd (upd (upd (upd (upd F 15 (nI fa362)) 16 pl487) 27 (nI ((nd2 + 1) + 1))) 31 (nI wr488)) 64 (nI at361)) 65 (nI ne)) 66 (nI lk2)) (updA (stR X489 13 nd2 (nI (nd2 + 1))) 2 K)) _ := mW_to (F := F) (l1 := [(15, (nI fa362)), (16, pl487), (27, (nI ((nd2 + 1) + 1))), (31, (nI wr488)), (64, (nI at361)), (65, (nI ne)), (66, (nI lk2))]) (l2 := [(15, (nI fa362)), (16, pl487), (27, (nI ((nd2 + 1) + 1))), (31, (nI wr488)), (64, (nI at361)), (65, (nI ne)), (66, (nI lk2))]) (V := [(nI fa362), pl487, (nI ((nd2 + 1) + 1)), (nI wr488), (nI at361), (nI ne), (nI lk2), (nI fa362), pl487, (nI ((nd2 + 1) + 1)), (nI wr488), (nI at361), (nI ne), (nI lk2)]) rfl rfl (show (updA (updA X489 2 K) 13 (upd (X489 13) nd2 (nI (nd2 + 1)))) = (updA (stR X489 13 nd2 (nI (nd2 + 1))) 2 K) from updsA_eq2 (F := X489) (l1 := [(2, K), (13, (upd (X489 13) nd2 (nI (nd2 + 1))))]) (l2 := [(13, (upd (X489 13) nd2 (nI (nd2 + 1)))), (2, K)]) (V := [K, (upd (X489 13) nd2 (nI (nd2 + 1))), (upd (X489 13) nd2 (nI (nd2 + 1))), K]) rfl rfl) hP
                                have hD : va_D A (mW G h0 a (upd (upd (upd (upd (upd (upd (upd F 15 (nI fa362)) 16 pl487) 27 (nI ((nd2 + 1) + 1))) 31 (nI wr488)) 64 (nI at361)) 65 (nI ne)) 66 (nI lk2)) (updA (stR X489 13 nd2 (nI (nd2 + 1))) 2 K)) := mW_D hD
                                have hkp494 : Kp B (stR X489 13 nd2 (nI (nd2 + 1))) wr488 T := (Kp.row hkp493 (by omega))
                                refine lv_iload_n hx hb dX12_attempt_137 rfl (lv_at hl 4 rfl) ?_
                                refine lv_iconst (v := (-1)) hx hb dX12_attempt_138 (by decide) ?_
                                refine lv_icmp_ne (tgt := 153) hx hb dX12_attempt_139 (by decide) (fun c495 => ?_) (fun c495 => absurd c495 (nI_m1 (by omega)))
                                refine lv_aload_n hx hb dX12_attempt_153 rfl (lv_at hl 6 rfl) ?_
                                refine r_get (v := .ref (a 16)) hx hb hown hq hE hP 24 59 tFX12_24 (by decide) pw_1446 rfl dX12_attempt_154 ?_
                                refine lv_iload_n hx hb dX12_attempt_157 rfl (lv_at hl 4 rfl) ?_
                                refine lv_iload hx hb dX12_attempt_158 (lv_at hl 0 rfl) ?_
                                refine r_sti (f := ((stR X489 13 nd2 (nI (nd2 + 1))) 16)) (j := la) hx hb hE hP hD hS 16 (ma_16 G a _) rfl (mas_16 G a _) (by omega) (by decide) dX12_attempt_160 (fun H locs hP hD hS => ?_)
                                have hP : va_P G.1 pCl (mW G h0 a (upd (upd (upd (upd (upd (upd (upd F 15 (nI fa362)) 16 pl487) 27 (nI ((nd2 + 1) + 1))) 31 (nI wr488)) 64 (nI at361)) 65 (nI ne)) 66 (nI lk2)) (updA (stR (stR X489 13 nd2 (nI (nd2 + 1))) 16 la (nI nd2)) 2 K)) _ := mW_to (F := F) (l1 := [(15, (nI fa362)), (16, pl487), (27, (nI ((nd2 + 1) + 1))), (31, (nI wr488)), (64, (nI at361)), (65, (nI ne)), (66, (nI lk2))]) (l2 := [(15, (nI fa362)), (16, pl487), (27, (nI ((nd2 + 1) + 1))), (31, (nI wr488)), (64, (nI at361)), (65, (nI ne)), (66, (nI lk2))]) (V := [(nI fa362), pl487, (nI ((nd2 + 1) + 1)), (nI wr488), (nI at361), (nI ne), (nI lk2), (nI fa362), pl487, (nI ((nd2 + 1) + 1)), (nI wr488), (nI at361), (nI ne), (nI lk2)]) rfl rfl (show (updA (updA (stR X489 13 nd2 (nI (nd2 + 1))) 2 K) 16 (upd ((stR X489 13 nd2 (nI (nd2 + 1))) 16) la (nI nd2))) = (updA (stR (stR X489 13 nd2 (nI (nd2 + 1))) 16 la (nI nd2)) 2 K) from updsA_eq2 (F := X489) (l1 := [(13, (upd (X489 13) nd2 (nI (nd2 + 1)))), (2, K), (16, (upd ((stR X489 13 nd2 (nI (nd2 + 1))) 16) la (nI nd2)))]) (l2 := [(13, (upd (X489 13) nd2 (nI (nd2 + 1)))), (16, (upd ((stR X489 13 nd2 (nI (nd2 + 1))) 16) la (nI nd2))), (2, K)]) (V := [(upd (X489 13) nd2 (nI (nd2 + 1))), K, (upd ((stR X489 13 nd2 (nI (nd2 + 1))) 16) la (nI nd2)), (upd (X489 13) nd2 (nI (nd2 + 1))), (upd ((stR X489 13 nd2 (nI (nd2 + 1))) 16) la (nI nd2)), K]) rfl rfl) hP
                                have hD : va_D A (mW G h0 a (upd (upd (upd (upd (upd (upd (upd F 15 (nI fa362)) 16 pl487) 27 (nI ((nd2 + 1) + 1))) 31 (nI wr488)) 64 (nI at361)) 65 (nI ne)) 66 (nI lk2)) (updA (stR (stR X489 13 nd2 (nI (nd2 + 1))) 16 la (nI nd2)) 2 K)) := mW_D hD
                                have hkp496 : Kp B (stR (stR X489 13 nd2 (nI (nd2 + 1))) 16 la (nI nd2)) wr488 T := (Kp.row hkp494 (by omega))
                                refine lv_iload hx hb dX12_attempt_161 (lv_at hl 0 rfl) ?_
                                refine lv_istore_n (lv' := [(2, .int (nI nd2)), (6, .int (nI nd2)), (5, .int (nI at331)), (4, .int (nI at316)), (3, .int (nI (at299 - 1))), (1, .int (nI nd)), (0, .ref h0)]) hx hb dX12_attempt_163 rfl hl (by decide) rfl (fun ls hl => ?_)
                                refine lv_goto (tgt := 71) hx hb dX12_attempt_164 (by decide) ?_
                                refine lv_aload_n hx hb dX12_attempt_71 rfl (lv_at hl 6 rfl) ?_
                                refine lv_sipush (v := 313) hx hb dX12_attempt_72 (by decide) ?_
                                have hP : va_P G.1 pCl (mW G h0 a (upd (upd (upd (upd (upd (upd (upd (upd (upd F 15 (nI fa362)) 16 pl487) 27 (nI ((nd2 + 1) + 1))) 31 (nI wr488)) 64 (nI at361)) 65 (nI ne)) 66 (nI lk2)) 15 (nI fa362)) 64 (nI at361)) (updA (updA (stR (stR X489 13 nd2 (nI (nd2 + 1))) 16 la (nI nd2)) 2 K) 2 K)) _ := mW_to (F := F) (l1 := [(15, (nI fa362)), (16, pl487), (27, (nI ((nd2 + 1) + 1))), (31, (nI wr488)), (64, (nI at361)), (65, (nI ne)), (66, (nI lk2))]) (l2 := [(15, (nI fa362)), (16, pl487), (27, (nI ((nd2 + 1) + 1))), (31, (nI wr488)), (64, (nI at361)), (65, (nI ne)), (66, (nI lk2)), (15, (nI fa362)), (64, (nI at361))]) (V := [(nI fa362), pl487, (nI ((nd2 + 1) + 1)), (nI wr488), (nI at361), (nI ne), (nI lk2), (nI fa362), pl487, (nI ((nd2 + 1) + 1)), (nI wr488), (nI at361), (nI ne), (nI lk2), (nI fa362), (nI at361)]) rfl rfl (show (updA (stR (stR X489 13 nd2 (nI (nd2 + 1))) 16 la (nI nd2)) 2 K) = (updA (updA (stR (stR X489 13 nd2 (nI (nd2 + 1))) 16 la (nI nd2)) 2 K) 2 K) from updsA_eq2 (F := X489) (l1 := [(13, (upd (X489 13) nd2 (nI (nd2 + 1)))), (16, (upd ((stR X489 13 nd2 (nI (nd2 + 1))) 16) la (nI nd2))), (2, K)]) (l2 := [(13, (upd (X489 13) nd2 (nI (nd2 + 1)))), (16, (upd ((stR X489 13 nd2 (nI (nd2 + 1))) 16) la (nI nd2))), (2, K), (2, K)]) (V := [(upd (X489 13) nd2 (nI (nd2 + 1))), (upd ((stR X489 13 nd2 (nI (nd2 + 1))) 16) la (nI nd2)), K, (upd (X489 13) nd2 (nI (nd2 + 1))), (upd ((stR X489 13 nd2 (nI (nd2 + 1))) 16) la (nI nd2)), K, K]) rfl rfl) hP
                                have hD : va_D A (mW G h0 a (upd (upd (upd (upd (upd (upd (upd (upd (upd F 15 (nI fa362)) 16 pl487) 27 (nI ((nd2 + 1) + 1))) 31 (nI wr488)) 64 (nI at361)) 65 (nI ne)) 66 (nI lk2)) 15 (nI fa362)) 64 (nI at361)) (updA (updA (stR (stR X489 13 nd2 (nI (nd2 + 1))) 16 la (nI nd2)) 2 K) 2 K)) := mW_D hD
                                refine pc_V0 (G := G) (As := [.int 313]) (rest := []) hx hb hml hown hq hE hX pX0_al hP hD hS hA hl.1 (R_may l G h0 a (upd (upd (upd (upd (upd (upd (upd F 15 (nI fa362)) 16 pl487) 27 (nI ((nd2 + 1) + 1))) 31 (nI wr488)) 64 (nI at361)) 65 (nI ne)) 66 (nI lk2)) (updA (stR (stR X489 13 nd2 (nI (nd2 + 1))) 16 la (nI nd2)) 2 K) at361 T fa362 K 313 (by omega) (by omega) hK (by omega) (by decide) (by decide)) (gV pw_1621 pw_1622 pw_1623 pw_1523 pw_1605) hV_X12_may 0 9 rfl rfl rfl rfl (Nat.le_of_ble_eq_true rfl) dX12_attempt_75 ⟨Nat.le_of_ble_eq_true rfl, Nat.le_of_ble_eq_true rfl⟩ ⟨(by show 3 + 1 ≤ (26 * n + 43); omega), (by show 8 + (3 + 11) + 81 ≤ (2000 * n + 4300); omega)⟩ (fun v499 u497 H locs hw498 hP hD hS => ?_)
                                obtain ⟨at500, r501⟩ := u497
                                obtain ⟨hw498, h502, h503, h504, h505, h506, h507⟩ := hw498
                                have h502 : r501 ≤ 1 := h502
                                have h503 : fa362 + 100 * r501 ≤ 100 := h503
                                have h504 : at500 = at361 + r501 := h504
                                have h505 : at500 ≤ T := h505
                                have h506 : If (r501 = 1) (K at361 = 313) := h506
                                have h507 : If (r501 = 0) (fa362 = 0 → ¬ K at361 = 313) := h507
                                obtain rfl : v499 = some (.int (nI r501)) := hw498
                                have hP : va_P G.1 pCl (mW G h0 a (upd (upd (upd (upd (upd (upd (upd F 15 (nI fa362)) 16 pl487) 27 (nI ((nd2 + 1) + 1))) 31 (nI wr488)) 64 (nI at500)) 65 (nI ne)) 66 (nI lk2)) (updA (stR (stR X489 13 nd2 (nI (nd2 + 1))) 16 la (nI nd2)) 2 K)) _ := mW_to (F := F) (l1 := [(15, (nI fa362)), (16, pl487), (27, (nI ((nd2 + 1) + 1))), (31, (nI wr488)), (64, (nI at361)), (65, (nI ne)), (66, (nI lk2)), (15, (nI fa362)), (64, (nI at500))]) (l2 := [(15, (nI fa362)), (16, pl487), (27, (nI ((nd2 + 1) + 1))), (31, (nI wr488)), (64, (nI at500)), (65, (nI ne)), (66, (nI lk2))]) (V := [(nI fa362), pl487, (nI ((nd2 + 1) + 1)), (nI wr488), (nI at500), (nI ne), (nI lk2), (nI fa362), (nI at500), (nI fa362), pl487, (nI ((nd2 + 1) + 1)), (nI wr488), (nI at500), (nI ne), (nI lk2)]) rfl rfl (show (updA (updA (stR (stR X489 13 nd2 (nI (nd2 + 1))) 16 la (nI nd2)) 2 K) 2 K) = (updA (stR (stR X489 13 nd2 (nI (nd2 + 1))) 16 la (nI nd2)) 2 K) from updsA_eq2 (F := X489) (l1 := [(13, (upd (X489 13) nd2 (nI (nd2 + 1)))), (16, (upd ((stR X489 13 nd2 (nI (nd2 + 1))) 16) la (nI nd2))), (2, K), (2, K)]) (l2 := [(13, (upd (X489 13) nd2 (nI (nd2 + 1)))), (16, (upd ((stR X489 13 nd2 (nI (nd2 + 1))) 16) la (nI nd2))), (2, K)]) (V := [(upd (X489 13) nd2 (nI (nd2 + 1))), (upd ((stR X489 13 nd2 (nI (nd2 + 1))) 16) la (nI nd2)), K, K, (upd (X489 13) nd2 (nI (nd2 + 1))), (upd ((stR X489 13 nd2 (nI (nd2 + 1))) 16) la (nI nd2)), K]) rfl rfl) hP
                                have hD : va_D A (mW G h0 a (upd (upd (upd (upd (upd (upd (upd F 15 (nI fa362)) 16 pl487) 27 (nI ((nd2 + 1) + 1))) 31 (nI wr488)) 64 (nI at500)) 65 (nI ne)) 66 (nI lk2)) (updA (stR (stR X489 13 nd2 (nI (nd2 + 1))) 16 la (nI nd2)) 2 K)) := mW_D hD
                                refine W.widen (k := 0) (n := 0) (Nat.le_of_ble_eq_true rfl) (Nat.le_of_ble_eq_true rfl) ?_
                                refine W.eq (g2 := F0 m 78 ls [.int (nI r501)]) rfl ?_
                                obtain rfl : at361 = at500 := (by omega)
                                refine lv_if_eq (tgt := 167) hx hb dX12_attempt_78 (by decide) (fun c508 => ?_) (fun c508 => (by have n509 : ¬ (r501 = 0) := fun h9 => c508 ((nI_eq (a := r501) (b := 0) (by omega) (by omega)).mpr h9); omega))
                                refine lv_aload_n hx hb dX12_attempt_167 rfl (lv_at hl 6 rfl) ?_
                                refine lv_sipush (v := 319) hx hb dX12_attempt_168 (by decide) ?_
                                have hP : va_P G.1 pCl (mW G h0 a (upd (upd (upd (upd (upd (upd (upd (upd (upd F 15 (nI fa362)) 16 pl487) 27 (nI ((nd2 + 1) + 1))) 31 (nI wr488)) 64 (nI at361)) 65 (nI ne)) 66 (nI lk2)) 15 (nI fa362)) 64 (nI at361)) (updA (updA (stR (stR X489 13 nd2 (nI (nd2 + 1))) 16 la (nI nd2)) 2 K) 2 K)) _ := hP
                                have hD : va_D A (mW G h0 a (upd (upd (upd (upd (upd (upd (upd (upd (upd F 15 (nI fa362)) 16 pl487) 27 (nI ((nd2 + 1) + 1))) 31 (nI wr488)) 64 (nI at361)) 65 (nI ne)) 66 (nI lk2)) 15 (nI fa362)) 64 (nI at361)) (updA (updA (stR (stR X489 13 nd2 (nI (nd2 + 1))) 16 la (nI nd2)) 2 K) 2 K)) := mW_D hD
                                refine pc_V0 (G := G) (As := [.int 319]) (rest := []) hx hb hml hown hq hE hX pX0_al hP hD hS hA hl.1 (R_may l G h0 a (upd (upd (upd (upd (upd (upd (upd F 15 (nI fa362)) 16 pl487) 27 (nI ((nd2 + 1) + 1))) 31 (nI wr488)) 64 (nI at361)) 65 (nI ne)) 66 (nI lk2)) (updA (stR (stR X489 13 nd2 (nI (nd2 + 1))) 16 la (nI nd2)) 2 K) at361 T fa362 K 319 (by omega) (by omega) hK (by omega) (by decide) (by decide)) (gV pw_1621 pw_1622 pw_1623 pw_1523 pw_1605) hV_X12_may 0 9 rfl rfl rfl rfl (Nat.le_of_ble_eq_true rfl) dX12_attempt_171 ⟨Nat.le_of_ble_eq_true rfl, Nat.le_of_ble_eq_true rfl⟩ ⟨(by show 3 + 1 ≤ (26 * n + 43); omega), (by show 8 + (3 + 11) + 81 ≤ (2000 * n + 4300); omega)⟩ (fun v512 u510 H locs hw511 hP hD hS => ?_)
                                obtain ⟨at513, r514⟩ := u510
                                obtain ⟨hw511, h515, h516, h517, h518, h519, h520⟩ := hw511
                                have h515 : r514 ≤ 1 := h515
                                have h516 : fa362 + 100 * r514 ≤ 100 := h516
                                have h517 : at513 = at361 + r514 := h517
                                have h518 : at513 ≤ T := h518
                                have h519 : If (r514 = 1) (K at361 = 319) := h519
                                have h520 : If (r514 = 0) (fa362 = 0 → ¬ K at361 = 319) := h520
                                obtain rfl : v512 = some (.int (nI r514)) := hw511
                                have hP : va_P G.1 pCl (mW G h0 a (upd (upd (upd (upd (upd (upd (upd F 15 (nI fa362)) 16 pl487) 27 (nI ((nd2 + 1) + 1))) 31 (nI wr488)) 64 (nI at513)) 65 (nI ne)) 66 (nI lk2)) (updA (stR (stR X489 13 nd2 (nI (nd2 + 1))) 16 la (nI nd2)) 2 K)) _ := mW_to (F := F) (l1 := [(15, (nI fa362)), (16, pl487), (27, (nI ((nd2 + 1) + 1))), (31, (nI wr488)), (64, (nI at361)), (65, (nI ne)), (66, (nI lk2)), (15, (nI fa362)), (64, (nI at513))]) (l2 := [(15, (nI fa362)), (16, pl487), (27, (nI ((nd2 + 1) + 1))), (31, (nI wr488)), (64, (nI at513)), (65, (nI ne)), (66, (nI lk2))]) (V := [(nI fa362), pl487, (nI ((nd2 + 1) + 1)), (nI wr488), (nI at513), (nI ne), (nI lk2), (nI fa362), (nI at513), (nI fa362), pl487, (nI ((nd2 + 1) + 1)), (nI wr488), (nI at513), (nI ne), (nI lk2)]) rfl rfl (show (updA (updA (stR (stR X489 13 nd2 (nI (nd2 + 1))) 16 la (nI nd2)) 2 K) 2 K) = (updA (stR (stR X489 13 nd2 (nI (nd2 + 1))) 16 la (nI nd2)) 2 K) from updsA_eq2 (F := X489) (l1 := [(13, (upd (X489 13) nd2 (nI (nd2 + 1)))), (16, (upd ((stR X489 13 nd2 (nI (nd2 + 1))) 16) la (nI nd2))), (2, K), (2, K)]) (l2 := [(13, (upd (X489 13) nd2 (nI (nd2 + 1)))), (16, (upd ((stR X489 13 nd2 (nI (nd2 + 1))) 16) la (nI nd2))), (2, K)]) (V := [(upd (X489 13) nd2 (nI (nd2 + 1))), (upd ((stR X489 13 nd2 (nI (nd2 + 1))) 16) la (nI nd2)), K, K, (upd (X489 13) nd2 (nI (nd2 + 1))), (upd ((stR X489 13 nd2 (nI (nd2 + 1))) 16) la (nI nd2)), K]) rfl rfl) hP
                                have hD : va_D A (mW G h0 a (upd (upd (upd (upd (upd (upd (upd F 15 (nI fa362)) 16 pl487) 27 (nI ((nd2 + 1) + 1))) 31 (nI wr488)) 64 (nI at513)) 65 (nI ne)) 66 (nI lk2)) (updA (stR (stR X489 13 nd2 (nI (nd2 + 1))) 16 la (nI nd2)) 2 K)) := mW_D hD
                                refine W.widen (k := 0) (n := 0) (Nat.le_of_ble_eq_true rfl) (Nat.le_of_ble_eq_true rfl) ?_
                                refine W.eq (g2 := F0 m 174 ls [.int (nI r514)]) rfl ?_
                                obtain rfl : at361 = at513 := (by omega)
                                refine lv_if_eq (tgt := 187) hx hb dX12_attempt_174 (by decide) (fun c521 => ?_) (fun c521 => (by have n522 : ¬ (r514 = 0) := fun h9 => c521 ((nI_eq (a := r514) (b := 0) (by omega) (by omega)).mpr h9); omega))
                                refine lv_iload_n hx hb dX12_attempt_187 rfl (lv_at hl 5 rfl) ?_
                                have hz523 : at0 ≤ at361 := (by omega)
                                have hz524 : at361 ≤ T := (by omega)
                                have hz525 : fa362 ≤ 100 := (by omega)
                                have hz526 : nd ≤ ((nd2 + 1) + 1) := (by omega)
                                have hz527 : ((nd2 + 1) + 1) + 2 * at0 ≤ nd + 2 * at361 + 100000 * fa362 := (by omega)
                                have hz528 : ((nd2 + 1) + 1) + 2 * at0 ≤ nd + 2 * at361 + (60 * (21 - ne) + 40) := (by omega)
                                have hz529 : wr ≤ wr488 := (by omega)
                                have hz530 : wr488 + at0 ≤ wr + at361 := (by omega)
                                have hz531 : lk ≤ lk2 := (by omega)
                                have hz532 : lk2 ≤ 60 + 100 * fa362 := (by omega)
                                have hz533 : at0 + 1 ≤ at361 + fa362 := (by omega)
                                have hz534 : nd ≤ ((nd2 + 1) + 1) := (by omega)
                                have hz535 : Kp B (stR (stR X489 13 nd2 (nI (nd2 + 1))) 16 la (nI nd2)) wr488 T := hkp496
                                have hz536 : If (fa362 = 0) (Low B (stR (stR X489 13 nd2 (nI (nd2 + 1))) 16 la (nI nd2)) nd wr ∧ Frs K T wr488 (stR (stR X489 13 nd2 (nI (nd2 + 1))) 16 la (nI nd2)) nd ((nd2 + 1) + 1) 20000 [(nd, (280 + 4 * (21 - ne)))] ∧ kcl 3 ((stR (stR X489 13 nd2 (nI (nd2 + 1))) 16 la (nI nd2)) 9 nd) = true) := (fun e => absurd e (by omega))
                                have hP : va_P G.1 pCl (mW G h0 a (upd (upd (upd (upd (upd (upd (upd F 15 (nI fa362)) 16 pl487) 27 (nI ((nd2 + 1) + 1))) 31 (nI wr488)) 64 (nI at361)) 65 (nI ne)) 66 (nI lk2)) (updA (stR (stR X489 13 nd2 (nI (nd2 + 1))) 16 la (nI nd2)) 2 K)) _ := hP
                                have hD : va_D A (mW G h0 a (upd (upd (upd (upd (upd (upd (upd F 15 (nI fa362)) 16 pl487) 27 (nI ((nd2 + 1) + 1))) 31 (nI wr488)) 64 (nI at361)) 65 (nI ne)) 66 (nI lk2)) (updA (stR (stR X489 13 nd2 (nI (nd2 + 1))) 16 la (nI nd2)) 2 K)) := mW_D hD
                                exact W.iret (v := (nI nd)) hx hb hr (fun t9 ht9 hW9 => ⟨⟨_, (at361, fa362, pl487, ((nd2 + 1) + 1), lk2, wr488, nd, (stR (stR X489 13 nd2 (nI (nd2 + 1))) 16 la (nI nd2))), rfl, ⟨rfl, hz523, hz524, hz525, hz526, hz527, hz528, hz529, hz530, hz531, hz532, hz533, hz534, hz535, hz536⟩, by rw [ht9]; exact hP, hD⟩, hS.F ht9⟩) hS.2.2 dX12_attempt_188
                            · have e357 := e357
                              refine lv_istore (lv' := [(5, .int (nI at331)), (4, .int (nI at316)), (3, .int (nI (at299 - 1))), (2, .int (nI la)), (1, .int (nI nd)), (0, .ref h0)]) hx hb dX12_attempt_104 hl (by decide) rfl (fun ls hl => ?_)
                              refine lv_aload_n hx hb dX12_attempt_106 rfl (lv_at hl 5 rfl) ?_
                              refine lv_bipush (v := 41) hx hb dX12_attempt_107 (by decide) ?_
                              have hP : va_P G.1 pCl (mW G h0 a (upd (upd (upd (upd (upd (upd (upd (upd (upd F 15 (nI fa347)) 16 pl348) 27 (nI nd2)) 31 (nI wr2)) 64 (nI at346)) 65 (nI ne)) 66 (nI lk2)) 15 (nI fa347)) 64 (nI at346)) (updA (updA X2 2 K) 2 K)) _ := mW_to (F := F) (l1 := [(15, (nI fa347)), (16, pl348), (27, (nI nd2)), (31, (nI wr2)), (64, (nI at346)), (65, (nI ne)), (66, (nI lk2))]) (l2 := [(15, (nI fa347)), (16, pl348), (27, (nI nd2)), (31, (nI wr2)), (64, (nI at346)), (65, (nI ne)), (66, (nI lk2)), (15, (nI fa347)), (64, (nI at346))]) (V := [(nI fa347), pl348, (nI nd2), (nI wr2), (nI at346), (nI ne), (nI lk2), (nI fa347), pl348, (nI nd2), (nI wr2), (nI at346), (nI ne), (nI lk2), (nI fa347), (nI at346)]) rfl rfl (show (updA X2 2 K) = (updA (updA X2 2 K) 2 K) from updsA_eq2 (F := X2) (l1 := [(2, K)]) (l2 := [(2, K), (2, K)]) (V := [K, K, K]) rfl rfl) hP
                              have hD : va_D A (mW G h0 a (upd (upd (upd (upd (upd (upd (upd (upd (upd F 15 (nI fa347)) 16 pl348) 27 (nI nd2)) 31 (nI wr2)) 64 (nI at346)) 65 (nI ne)) 66 (nI lk2)) 15 (nI fa347)) 64 (nI at346)) (updA (updA X2 2 K) 2 K)) := mW_D hD
                              refine pc_V0 (G := G) (As := [.int 41]) (rest := []) hx hb hml hown hq hE hX pX0_al hP hD hS hA hl.1 (R_take l G h0 a (upd (upd (upd (upd (upd (upd (upd F 15 (nI fa347)) 16 pl348) 27 (nI nd2)) 31 (nI wr2)) 64 (nI at346)) 65 (nI ne)) 66 (nI lk2)) (updA X2 2 K) at346 T fa347 K 41 (by omega) (by omega) hK (by omega) (by decide) (by decide)) (gV pw_1614 pw_1615 pw_1616 pw_1523 pw_1601) hV_X12_take 0 9 rfl rfl rfl rfl (Nat.le_of_ble_eq_true rfl) dX12_attempt_109 ⟨Nat.le_of_ble_eq_true rfl, Nat.le_of_ble_eq_true rfl⟩ ⟨(by show 4 + 1 ≤ (26 * n + 43); omega), (by show 8 + (2 + 11) + 103 ≤ (2000 * n + 4300); omega)⟩ (fun v539 u537 H locs hw538 hP hD hS => ?_)
                              obtain ⟨at540, fa541, pl542⟩ := u537
                              obtain ⟨hw538, h543, h544, h545, h546, h547, h548, h549, h550⟩ := hw538
                              have h543 : at346 ≤ at540 := h543
                              have h544 : at540 ≤ T := h544
                              have h545 : fa347 ≤ fa541 := h545
                              have h546 : fa541 ≤ 100 := h546
                              have h547 : If (0 < fa347) (at540 = at346 ∧ fa541 = fa347) := h547
                              have h548 : at540 ≤ at346 + 1 := h548
                              have h549 : at346 + 1 ≤ at540 + fa541 := h549
                              have h550 : If (fa541 = 0) (K at346 = 41) := h550
                              obtain rfl : v539 = none := hw538
                              have hP : va_P G.1 pCl (mW G h0 a (upd (upd (upd (upd (upd (upd (upd F 15 (nI fa541)) 16 pl542) 27 (nI nd2)) 31 (nI wr2)) 64 (nI at540)) 65 (nI ne)) 66 (nI lk2)) (updA X2 2 K)) _ := mW_to (F := F) (l1 := [(15, (nI fa347)), (16, pl348), (27, (nI nd2)), (31, (nI wr2)), (64, (nI at346)), (65, (nI ne)), (66, (nI lk2)), (15, (nI fa541)), (16, pl542), (64, (nI at540))]) (l2 := [(15, (nI fa541)), (16, pl542), (27, (nI nd2)), (31, (nI wr2)), (64, (nI at540)), (65, (nI ne)), (66, (nI lk2))]) (V := [(nI fa541), pl542, (nI nd2), (nI wr2), (nI at540), (nI ne), (nI lk2), (nI fa541), pl542, (nI at540), (nI fa541), pl542, (nI nd2), (nI wr2), (nI at540), (nI ne), (nI lk2)]) rfl rfl (show (updA (updA X2 2 K) 2 K) = (updA X2 2 K) from updsA_eq2 (F := X2) (l1 := [(2, K), (2, K)]) (l2 := [(2, K)]) (V := [K, K, K]) rfl rfl) hP
                              have hD : va_D A (mW G h0 a (upd (upd (upd (upd (upd (upd (upd F 15 (nI fa541)) 16 pl542) 27 (nI nd2)) 31 (nI wr2)) 64 (nI at540)) 65 (nI ne)) 66 (nI lk2)) (updA X2 2 K)) := mW_D hD
                              refine W.widen (k := 0) (n := 0) (Nat.le_of_ble_eq_true rfl) (Nat.le_of_ble_eq_true rfl) ?_
                              refine W.eq (g2 := F0 m 112 ls []) rfl ?_
                              obtain ⟨n552, n551⟩ := h547 e357
                              replace n552 := n552.symm
                              subst n552
                              replace n551 := n551.symm
                              subst n551
                              refine lv_aload_n hx hb dX12_attempt_112 rfl (lv_at hl 5 rfl) ?_
                              refine lv_bipush (v := 44) hx hb dX12_attempt_113 (by decide) ?_
                              refine lv_iload_n hx hb dX12_attempt_115 rfl (lv_at hl 2 rfl) ?_
                              refine lv_iload hx hb dX12_attempt_116 (lv_at hl 0 rfl) ?_
                              refine lv_iload hx hb dX12_attempt_118 (lv_at hl 1 rfl) ?_
                              refine lv_iconst (v := (-1)) hx hb dX12_attempt_120 (by decide) ?_
                              have hP : va_P G.1 pCl (mW G h0 a (upd (upd (upd (upd (upd (upd (upd (upd F 15 (nI fa347)) 16 pl542) 27 (nI nd2)) 31 (nI wr2)) 64 (nI at346)) 65 (nI ne)) 66 (nI lk2)) 27 (nI nd2)) (updA X2 2 K)) _ := hP
                              have hD : va_D A (mW G h0 a (upd (upd (upd (upd (upd (upd (upd (upd F 15 (nI fa347)) 16 pl542) 27 (nI nd2)) 31 (nI wr2)) 64 (nI at346)) 65 (nI ne)) 66 (nI lk2)) 27 (nI nd2)) (updA X2 2 K)) := mW_D hD
                              refine pc_V0 (G := G) (As := [.int 44, .int (nI (at299 - 1)), .int (nI at331), .int (nI at316), .int (-1)]) (rest := []) hx hb hml hown hq hE hX pX0_al hP hD hS hA hl.1 (R_nodeB l G h0 a (upd (upd (upd (upd (upd (upd (upd F 15 (nI fa347)) 16 pl542) 27 (nI nd2)) 31 (nI wr2)) 64 (nI at346)) 65 (nI ne)) 66 (nI lk2)) X2 44 (nI (at299 - 1)) (nI at331) (nI at316) (-1) nd2 K (by omega)) (gV pw_1650 pw_1651 pw_1652 pw_1523 pw_1589) hV_X12_node 0 9 rfl rfl rfl rfl (Nat.le_of_ble_eq_true rfl) dX12_attempt_121 ⟨Nat.le_of_ble_eq_true rfl, Nat.le_of_ble_eq_true rfl⟩ ⟨(by show 2 + 1 ≤ (26 * n + 43); omega), (by show 8 + (7 + 11) + 60 ≤ (2000 * n + 4300); omega)⟩ (fun v555 u553 H locs hw554 hP hD hS => ?_)
                              obtain ⟨X556, rfl⟩ : ∃ z, z = u553 := ⟨_, rfl⟩
                              obtain ⟨hw554, h557⟩ := hw554
                              have h557 : NewN X2 X556 nd2 44 (nI (at299 - 1)) (nI at331) (nI at316) (-1) := h557
                              obtain rfl : v555 = some (.int (nI nd2)) := hw554
                              have hP : va_P G.1 pCl (mW G h0 a (upd (upd (upd (upd (upd (upd (upd F 15 (nI fa347)) 16 pl542) 27 (nI (nd2 + 1))) 31 (nI wr2)) 64 (nI at346)) 65 (nI ne)) 66 (nI lk2)) (updA X556 2 K)) _ := mW_to (F := F) (l1 := [(15, (nI fa347)), (16, pl542), (27, (nI nd2)), (31, (nI wr2)), (64, (nI at346)), (65, (nI ne)), (66, (nI lk2)), (27, (nI (nd2 + 1)))]) (l2 := [(15, (nI fa347)), (16, pl542), (27, (nI (nd2 + 1))), (31, (nI wr2)), (64, (nI at346)), (65, (nI ne)), (66, (nI lk2))]) (V := [(nI fa347), pl542, (nI (nd2 + 1)), (nI wr2), (nI at346), (nI ne), (nI lk2), (nI (nd2 + 1)), (nI fa347), pl542, (nI (nd2 + 1)), (nI wr2), (nI at346), (nI ne), (nI lk2)]) rfl rfl rfl hP
                              have hD : va_D A (mW G h0 a (upd (upd (upd (upd (upd (upd (upd F 15 (nI fa347)) 16 pl542) 27 (nI (nd2 + 1))) 31 (nI wr2)) 64 (nI at346)) 65 (nI ne)) 66 (nI lk2)) (updA X556 2 K)) := mW_D hD
                              refine W.widen (k := 0) (n := 0) (Nat.le_of_ble_eq_true rfl) (Nat.le_of_ble_eq_true rfl) ?_
                              refine W.eq (g2 := F0 m 124 ls [.int (nI nd2)]) rfl ?_
                              have hkp558 : Kp B X556 wr2 T := (Kp.new hkp2 h557)
                              refine lv_istore (lv' := [(6, .int (nI nd2)), (5, .int (nI at331)), (4, .int (nI at316)), (3, .int (nI (at299 - 1))), (2, .int (nI la)), (1, .int (nI nd)), (0, .ref h0)]) hx hb dX12_attempt_124 hl (by decide) rfl (fun ls hl => ?_)
                              refine lv_aload_n hx hb dX12_attempt_126 rfl (lv_at hl 6 rfl) ?_
                              refine r_get (v := .ref (a 13)) hx hb hown hq hE hP 21 50 tFX12_21 (by decide) pw_1443 rfl dX12_attempt_127 ?_
                              refine lv_iload hx hb dX12_attempt_130 (lv_at hl 0 rfl) ?_
                              refine lv_aload_n hx hb dX12_attempt_132 rfl (lv_at hl 6 rfl) ?_
                              have hP : va_P G.1 pCl (mW G h0 a (upd (upd (upd (upd (upd (upd (upd (upd (upd (upd (upd F 15 (nI fa347)) 16 pl542) 27 (nI (nd2 + 1))) 31 (nI wr2)) 64 (nI at346)) 65 (nI ne)) 66 (nI lk2)) 15 (nI fa347)) 27 (nI (nd2 + 1))) 31 (nI wr2)) 64 (nI at346)) (updA X556 2 K)) _ := mW_to (F := F) (l1 := [(15, (nI fa347)), (16, pl542), (27, (nI (nd2 + 1))), (31, (nI wr2)), (64, (nI at346)), (65, (nI ne)), (66, (nI lk2))]) (l2 := [(15, (nI fa347)), (16, pl542), (27, (nI (nd2 + 1))), (31, (nI wr2)), (64, (nI at346)), (65, (nI ne)), (66, (nI lk2)), (15, (nI fa347)), (27, (nI (nd2 + 1))), (31, (nI wr2)), (64, (nI at346))]) (V := [(nI fa347), pl542, (nI (nd2 + 1)), (nI wr2), (nI at346), (nI ne), (nI lk2), (nI fa347), pl542, (nI (nd2 + 1)), (nI wr2), (nI at346), (nI ne), (nI lk2), (nI fa347), (nI (nd2 + 1)), (nI wr2), (nI at346)]) rfl rfl rfl hP
                              have hD : va_D A (mW G h0 a (upd (upd (upd (upd (upd (upd (upd (upd (upd (upd (upd F 15 (nI fa347)) 16 pl542) 27 (nI (nd2 + 1))) 31 (nI wr2)) 64 (nI at346)) 65 (nI ne)) 66 (nI lk2)) 15 (nI fa347)) 27 (nI (nd2 + 1))) 31 (nI wr2)) 64 (nI at346)) (updA X556 2 K)) := mW_D hD
                              refine pc_V0 (G := G) (As := []) (rest := [.int (nI nd2), .ref (a 13)]) hx hb hml hown hq hE hX pX0_al hP hD hS hA hl.1 (RF_block l G h0 a (upd (upd (upd (upd (upd (upd (upd F 15 (nI fa347)) 16 pl542) 27 (nI (nd2 + 1))) 31 (nI wr2)) 64 (nI at346)) 65 (nI ne)) 66 (nI lk2)) X556 at346 T fa347 (nd2 + 1) wr2 K (by omega) (by omega) hK (by omega) e357 (by omega) (by omega) (hkp558).2) (gV pw_1685 pw_1686 pw_1687 pw_1523 pw_1688) hV_X12_block 0 9 rfl rfl rfl rfl (Nat.le_of_ble_eq_true rfl) dX12_attempt_133 ⟨Nat.le_of_ble_eq_true rfl, Nat.le_of_ble_eq_true rfl⟩ ⟨(by show 5 + 1 ≤ (26 * n + 43); omega), (by show 8 + (4 + 11) + 124 ≤ (2000 * n + 4300); omega)⟩ (fun v561 u559 H locs hw560 hP hD hS => ?_)
                              obtain ⟨pl562, wr563, X564⟩ := u559
                              obtain ⟨hw560, h565, h566, h567⟩ := hw560
                              have h565 : wr2 ≤ wr563 := h565
                              have h566 : wr563 ≤ wr2 := h566
                              have h567 : Kp X556 X564 wr563 T := h567
                              obtain rfl : v561 = some (.int (nI (nd2 + 1))) := hw560
                              have hP : va_P G.1 pCl (mW G h0 a (upd (upd (upd (upd (upd (upd (upd F 15 (nI fa347)) 16 pl562) 27 (nI ((nd2 + 1) + 1))) 31 (nI wr563)) 64 (nI at346)) 65 (nI ne)) 66 (nI lk2)) (updA X564 2 K)) _ := mW_to (F := F) (l1 := [(15, (nI fa347)), (16, pl542), (27, (nI (nd2 + 1))), (31, (nI wr2)), (64, (nI at346)), (65, (nI ne)), (66, (nI lk2)), (15, (nI fa347)), (16, pl562), (27, (nI ((nd2 + 1) + 1))), (31, (nI wr563)), (64, (nI at346))]) (l2 := [(15, (nI fa347)), (16, pl562), (27, (nI ((nd2 + 1) + 1))), (31, (nI wr563)), (64, (nI at346)), (65, (nI ne)), (66, (nI lk2))]) (V := [(nI fa347), pl562, (nI ((nd2 + 1) + 1)), (nI wr563), (nI at346), (nI ne), (nI lk2), (nI fa347), pl562, (nI ((nd2 + 1) + 1)), (nI wr563), (nI at346), (nI fa347), pl562, (nI ((nd2 + 1) + 1)), (nI wr563), (nI at346), (nI ne), (nI lk2)]) rfl rfl rfl hP
                              have hD : va_D A (mW G h0 a (upd (upd (upd (upd (upd (upd (upd F 15 (nI fa347)) 16 pl562) 27 (nI ((nd2 + 1) + 1))) 31 (nI wr563)) 64 (nI at346)) 65 (nI ne)) 66 (nI lk2)) (updA X564 2 K)) := mW_D hD
                              refine W.widen (k := 0) (n := 0) (Nat.le_of_ble_eq_true rfl) (Nat.le_of_ble_eq_true rfl) ?_
                              refine W.eq (g2 := F0 m 136 ls [.int (nI (nd2 + 1)), .int (nI nd2), .ref (a 13)]) rfl ?_
                              have hkp568 : Kp B X564 wr563 T := (Kp.trans hkp558 h567)
                              refine r_sti (f := (X564 13)) (j := nd2) hx hb hE hP hD hS 13 (ma_13 G a _) rfl (mas_13 G a _) (by omega) (by decide) dX12_attempt_136 (fun H locs hP hD hS => ?_)
                              have hP : va_P G.1 pCl (mW G h0 a (upd (upd (upd (upd (upd (upd (upd F 15 (nI fa347)) 16 pl562) 27 (nI ((nd2 + 1) + 1))) 31 (nI wr563)) 64 (nI at346)) 65 (nI ne)) 66 (nI lk2)) (updA (stR X564 13 nd2 (nI (nd2 + 1))) 2 K)) _ := mW_to (F := F) (l1 := [(15, (nI fa347)), (16, pl562), (27, (nI ((nd2 + 1) + 1))), (31, (nI wr563)), (64, (nI at346)), (65, (nI ne)), (66, (nI lk2))]) (l2 := [(15, (nI fa347)), (16, pl562), (27, (nI ((nd2 + 1) + 1))), (31, (nI wr563)), (64, (nI at346)), (65, (nI ne)), (66, (nI lk2))]) (V := [(nI fa347), pl562, (nI ((nd2 + 1) + 1)), (nI wr563), (nI at346), (nI ne), (nI lk2), (nI fa347), pl562, (nI ((nd2 + 1) + 1)), (nI wr563), (nI at346), (nI ne), (nI lk2)]) rfl rfl (show (updA (updA X564 2 K) 13 (upd (X564 13) nd2 (nI (nd2 + 1)))) = (updA (stR X564 13 nd2 (nI (nd2 + 1))) 2 K) from updsA_eq2 (F := X564) (l1 := [(2, K), (13, (upd (X564 13) nd2 (nI (nd2 + 1))))]) (l2 := [(13, (upd (X564 13) nd2 (nI (nd2 + 1)))), (2, K)]) (V := [K, (upd (X564 13) nd2 (nI (nd2 + 1))), (upd (X564 13) nd2 (nI (nd2 + 1))), K]) rfl rfl) hP
                              have hD : va_D A (mW G h0 a (upd (upd (upd (upd (upd (upd (upd F 15 (nI fa347)) 16 pl562) 27 (nI ((nd2 + 1) + 1))) 31 (nI wr563)) 64 (nI at346)) 65 (nI ne)) 66 (nI lk2)) (updA (stR X564 13 nd2 (nI (nd2 + 1))) 2 K)) := mW_D hD
                              have hkp569 : Kp B (stR X564 13 nd2 (nI (nd2 + 1))) wr563 T := (Kp.row hkp568 (by omega))
                              refine lv_iload_n hx hb dX12_attempt_137 rfl (lv_at hl 4 rfl) ?_
                              refine lv_iconst (v := (-1)) hx hb dX12_attempt_138 (by decide) ?_
                              refine lv_icmp_ne (tgt := 153) hx hb dX12_attempt_139 (by decide) (fun c570 => ?_) (fun c570 => absurd c570 (nI_m1 (by omega)))
                              refine lv_aload_n hx hb dX12_attempt_153 rfl (lv_at hl 6 rfl) ?_
                              refine r_get (v := .ref (a 16)) hx hb hown hq hE hP 24 59 tFX12_24 (by decide) pw_1446 rfl dX12_attempt_154 ?_
                              refine lv_iload_n hx hb dX12_attempt_157 rfl (lv_at hl 4 rfl) ?_
                              refine lv_iload hx hb dX12_attempt_158 (lv_at hl 0 rfl) ?_
                              refine r_sti (f := ((stR X564 13 nd2 (nI (nd2 + 1))) 16)) (j := la) hx hb hE hP hD hS 16 (ma_16 G a _) rfl (mas_16 G a _) (by omega) (by decide) dX12_attempt_160 (fun H locs hP hD hS => ?_)
                              have hP : va_P G.1 pCl (mW G h0 a (upd (upd (upd (upd (upd (upd (upd F 15 (nI fa347)) 16 pl562) 27 (nI ((nd2 + 1) + 1))) 31 (nI wr563)) 64 (nI at346)) 65 (nI ne)) 66 (nI lk2)) (updA (stR (stR X564 13 nd2 (nI (nd2 + 1))) 16 la (nI nd2)) 2 K)) _ := mW_to (F := F) (l1 := [(15, (nI fa347)), (16, pl562), (27, (nI ((nd2 + 1) + 1))), (31, (nI wr563)), (64, (nI at346)), (65, (nI ne)), (66, (nI lk2))]) (l2 := [(15, (nI fa347)), (16, pl562), (27, (nI ((nd2 + 1) + 1))), (31, (nI wr563)), (64, (nI at346)), (65, (nI ne)), (66, (nI lk2))]) (V := [(nI fa347), pl562, (nI ((nd2 + 1) + 1)), (nI wr563), (nI at346), (nI ne), (nI lk2), (nI fa347), pl562, (nI ((nd2 + 1) + 1)), (nI wr563), (nI at346), (nI ne), (nI lk2)]) rfl rfl (show (updA (updA (stR X564 13 nd2 (nI (nd2 + 1))) 2 K) 16 (upd ((stR X564 13 nd2 (nI (nd2 + 1))) 16) la (nI nd2))) = (updA (stR (stR X564 13 nd2 (nI (nd2 + 1))) 16 la (nI nd2)) 2 K) from updsA_eq2 (F := X564) (l1 := [(13, (upd (X564 13) nd2 (nI (nd2 + 1)))), (2, K), (16, (upd ((stR X564 13 nd2 (nI (nd2 + 1))) 16) la (nI nd2)))]) (l2 := [(13, (upd (X564 13) nd2 (nI (nd2 + 1)))), (16, (upd ((stR X564 13 nd2 (nI (nd2 + 1))) 16) la (nI nd2))), (2, K)]) (V := [(upd (X564 13) nd2 (nI (nd2 + 1))), K, (upd ((stR X564 13 nd2 (nI (nd2 + 1))) 16) la (nI nd2)), (upd (X564 13) nd2 (nI (nd2 + 1))), (upd ((stR X564 13 nd2 (nI (nd2 + 1))) 16) la (nI nd2)), K]) rfl rfl) hP
                              have hD : va_D A (mW G h0 a (upd (upd (upd (upd (upd (upd (upd F 15 (nI fa347)) 16 pl562) 27 (nI ((nd2 + 1) + 1))) 31 (nI wr563)) 64 (nI at346)) 65 (nI ne)) 66 (nI lk2)) (updA (stR (stR X564 13 nd2 (nI (nd2 + 1))) 16 la (nI nd2)) 2 K)) := mW_D hD
                              have hkp571 : Kp B (stR (stR X564 13 nd2 (nI (nd2 + 1))) 16 la (nI nd2)) wr563 T := (Kp.row hkp569 (by omega))
                              refine lv_iload hx hb dX12_attempt_161 (lv_at hl 0 rfl) ?_
                              refine lv_istore_n (lv' := [(2, .int (nI nd2)), (6, .int (nI nd2)), (5, .int (nI at331)), (4, .int (nI at316)), (3, .int (nI (at299 - 1))), (1, .int (nI nd)), (0, .ref h0)]) hx hb dX12_attempt_163 rfl hl (by decide) rfl (fun ls hl => ?_)
                              refine lv_goto (tgt := 71) hx hb dX12_attempt_164 (by decide) ?_
                              refine lv_aload_n hx hb dX12_attempt_71 rfl (lv_at hl 6 rfl) ?_
                              refine lv_sipush (v := 313) hx hb dX12_attempt_72 (by decide) ?_
                              have hP : va_P G.1 pCl (mW G h0 a (upd (upd (upd (upd (upd (upd (upd (upd (upd F 15 (nI fa347)) 16 pl562) 27 (nI ((nd2 + 1) + 1))) 31 (nI wr563)) 64 (nI at346)) 65 (nI ne)) 66 (nI lk2)) 15 (nI fa347)) 64 (nI at346)) (updA (updA (stR (stR X564 13 nd2 (nI (nd2 + 1))) 16 la (nI nd2)) 2 K) 2 K)) _ := mW_to (F := F) (l1 := [(15, (nI fa347)), (16, pl562), (27, (nI ((nd2 + 1) + 1))), (31, (nI wr563)), (64, (nI at346)), (65, (nI ne)), (66, (nI lk2))]) (l2 := [(15, (nI fa347)), (16, pl562), (27, (nI ((nd2 + 1) + 1))), (31, (nI wr563)), (64, (nI at346)), (65, (nI ne)), (66, (nI lk2)), (15, (nI fa347)), (64, (nI at346))]) (V := [(nI fa347), pl562, (nI ((nd2 + 1) + 1)), (nI wr563), (nI at346), (nI ne), (nI lk2), (nI fa347), pl562, (nI ((nd2 + 1) + 1)), (nI wr563), (nI at346), (nI ne), (nI lk2), (nI fa347), (nI at346)]) rfl rfl (show (updA (stR (stR X564 13 nd2 (nI (nd2 + 1))) 16 la (nI nd2)) 2 K) = (updA (updA (stR (stR X564 13 nd2 (nI (nd2 + 1))) 16 la (nI nd2)) 2 K) 2 K) from updsA_eq2 (F := X564) (l1 := [(13, (upd (X564 13) nd2 (nI (nd2 + 1)))), (16, (upd ((stR X564 13 nd2 (nI (nd2 + 1))) 16) la (nI nd2))), (2, K)]) (l2 := [(13, (upd (X564 13) nd2 (nI (nd2 + 1)))), (16, (upd ((stR X564 13 nd2 (nI (nd2 + 1))) 16) la (nI nd2))), (2, K), (2, K)]) (V := [(upd (X564 13) nd2 (nI (nd2 + 1))), (upd ((stR X564 13 nd2 (nI (nd2 + 1))) 16) la (nI nd2)), K, (upd (X564 13) nd2 (nI (nd2 + 1))), (upd ((stR X564 13 nd2 (nI (nd2 + 1))) 16) la (nI nd2)), K, K]) rfl rfl) hP
                              have hD : va_D A (mW G h0 a (upd (upd (upd (upd (upd (upd (upd (upd (upd F 15 (nI fa347)) 16 pl562) 27 (nI ((nd2 + 1) + 1))) 31 (nI wr563)) 64 (nI at346)) 65 (nI ne)) 66 (nI lk2)) 15 (nI fa347)) 64 (nI at346)) (updA (updA (stR (stR X564 13 nd2 (nI (nd2 + 1))) 16 la (nI nd2)) 2 K) 2 K)) := mW_D hD
                              refine pc_V0 (G := G) (As := [.int 313]) (rest := []) hx hb hml hown hq hE hX pX0_al hP hD hS hA hl.1 (R_may l G h0 a (upd (upd (upd (upd (upd (upd (upd F 15 (nI fa347)) 16 pl562) 27 (nI ((nd2 + 1) + 1))) 31 (nI wr563)) 64 (nI at346)) 65 (nI ne)) 66 (nI lk2)) (updA (stR (stR X564 13 nd2 (nI (nd2 + 1))) 16 la (nI nd2)) 2 K) at346 T fa347 K 313 (by omega) (by omega) hK (by omega) (by decide) (by decide)) (gV pw_1621 pw_1622 pw_1623 pw_1523 pw_1605) hV_X12_may 0 9 rfl rfl rfl rfl (Nat.le_of_ble_eq_true rfl) dX12_attempt_75 ⟨Nat.le_of_ble_eq_true rfl, Nat.le_of_ble_eq_true rfl⟩ ⟨(by show 3 + 1 ≤ (26 * n + 43); omega), (by show 8 + (3 + 11) + 81 ≤ (2000 * n + 4300); omega)⟩ (fun v574 u572 H locs hw573 hP hD hS => ?_)
                              obtain ⟨at575, r576⟩ := u572
                              obtain ⟨hw573, h577, h578, h579, h580, h581, h582⟩ := hw573
                              have h577 : r576 ≤ 1 := h577
                              have h578 : fa347 + 100 * r576 ≤ 100 := h578
                              have h579 : at575 = at346 + r576 := h579
                              have h580 : at575 ≤ T := h580
                              have h581 : If (r576 = 1) (K at346 = 313) := h581
                              have h582 : If (r576 = 0) (fa347 = 0 → ¬ K at346 = 313) := h582
                              obtain rfl : v574 = some (.int (nI r576)) := hw573
                              have hP : va_P G.1 pCl (mW G h0 a (upd (upd (upd (upd (upd (upd (upd F 15 (nI fa347)) 16 pl562) 27 (nI ((nd2 + 1) + 1))) 31 (nI wr563)) 64 (nI at575)) 65 (nI ne)) 66 (nI lk2)) (updA (stR (stR X564 13 nd2 (nI (nd2 + 1))) 16 la (nI nd2)) 2 K)) _ := mW_to (F := F) (l1 := [(15, (nI fa347)), (16, pl562), (27, (nI ((nd2 + 1) + 1))), (31, (nI wr563)), (64, (nI at346)), (65, (nI ne)), (66, (nI lk2)), (15, (nI fa347)), (64, (nI at575))]) (l2 := [(15, (nI fa347)), (16, pl562), (27, (nI ((nd2 + 1) + 1))), (31, (nI wr563)), (64, (nI at575)), (65, (nI ne)), (66, (nI lk2))]) (V := [(nI fa347), pl562, (nI ((nd2 + 1) + 1)), (nI wr563), (nI at575), (nI ne), (nI lk2), (nI fa347), (nI at575), (nI fa347), pl562, (nI ((nd2 + 1) + 1)), (nI wr563), (nI at575), (nI ne), (nI lk2)]) rfl rfl (show (updA (updA (stR (stR X564 13 nd2 (nI (nd2 + 1))) 16 la (nI nd2)) 2 K) 2 K) = (updA (stR (stR X564 13 nd2 (nI (nd2 + 1))) 16 la (nI nd2)) 2 K) from updsA_eq2 (F := X564) (l1 := [(13, (upd (X564 13) nd2 (nI (nd2 + 1)))), (16, (upd ((stR X564 13 nd2 (nI (nd2 + 1))) 16) la (nI nd2))), (2, K), (2, K)]) (l2 := [(13, (upd (X564 13) nd2 (nI (nd2 + 1)))), (16, (upd ((stR X564 13 nd2 (nI (nd2 + 1))) 16) la (nI nd2))), (2, K)]) (V := [(upd (X564 13) nd2 (nI (nd2 + 1))), (upd ((stR X564 13 nd2 (nI (nd2 + 1))) 16) la (nI nd2)), K, K, (upd (X564 13) nd2 (nI (nd2 + 1))), (upd ((stR X564 13 nd2 (nI (nd2 + 1))) 16) la (nI nd2)), K]) rfl rfl) hP
                              have hD : va_D A (mW G h0 a (upd (upd (upd (upd (upd (upd (upd F 15 (nI fa347)) 16 pl562) 27 (nI ((nd2 + 1) + 1))) 31 (nI wr563)) 64 (nI at575)) 65 (nI ne)) 66 (nI lk2)) (updA (stR (stR X564 13 nd2 (nI (nd2 + 1))) 16 la (nI nd2)) 2 K)) := mW_D hD
                              refine W.widen (k := 0) (n := 0) (Nat.le_of_ble_eq_true rfl) (Nat.le_of_ble_eq_true rfl) ?_
                              refine W.eq (g2 := F0 m 78 ls [.int (nI r576)]) rfl ?_
                              obtain rfl : at346 = at575 := (by omega)
                              refine lv_if_eq (tgt := 167) hx hb dX12_attempt_78 (by decide) (fun c583 => ?_) (fun c583 => (by have n584 : ¬ (r576 = 0) := fun h9 => c583 ((nI_eq (a := r576) (b := 0) (by omega) (by omega)).mpr h9); omega))
                              refine lv_aload_n hx hb dX12_attempt_167 rfl (lv_at hl 6 rfl) ?_
                              refine lv_sipush (v := 319) hx hb dX12_attempt_168 (by decide) ?_
                              have hP : va_P G.1 pCl (mW G h0 a (upd (upd (upd (upd (upd (upd (upd (upd (upd F 15 (nI fa347)) 16 pl562) 27 (nI ((nd2 + 1) + 1))) 31 (nI wr563)) 64 (nI at346)) 65 (nI ne)) 66 (nI lk2)) 15 (nI fa347)) 64 (nI at346)) (updA (updA (stR (stR X564 13 nd2 (nI (nd2 + 1))) 16 la (nI nd2)) 2 K) 2 K)) _ := hP
                              have hD : va_D A (mW G h0 a (upd (upd (upd (upd (upd (upd (upd (upd (upd F 15 (nI fa347)) 16 pl562) 27 (nI ((nd2 + 1) + 1))) 31 (nI wr563)) 64 (nI at346)) 65 (nI ne)) 66 (nI lk2)) 15 (nI fa347)) 64 (nI at346)) (updA (updA (stR (stR X564 13 nd2 (nI (nd2 + 1))) 16 la (nI nd2)) 2 K) 2 K)) := mW_D hD
                              refine pc_V0 (G := G) (As := [.int 319]) (rest := []) hx hb hml hown hq hE hX pX0_al hP hD hS hA hl.1 (R_may l G h0 a (upd (upd (upd (upd (upd (upd (upd F 15 (nI fa347)) 16 pl562) 27 (nI ((nd2 + 1) + 1))) 31 (nI wr563)) 64 (nI at346)) 65 (nI ne)) 66 (nI lk2)) (updA (stR (stR X564 13 nd2 (nI (nd2 + 1))) 16 la (nI nd2)) 2 K) at346 T fa347 K 319 (by omega) (by omega) hK (by omega) (by decide) (by decide)) (gV pw_1621 pw_1622 pw_1623 pw_1523 pw_1605) hV_X12_may 0 9 rfl rfl rfl rfl (Nat.le_of_ble_eq_true rfl) dX12_attempt_171 ⟨Nat.le_of_ble_eq_true rfl, Nat.le_of_ble_eq_true rfl⟩ ⟨(by show 3 + 1 ≤ (26 * n + 43); omega), (by show 8 + (3 + 11) + 81 ≤ (2000 * n + 4300); omega)⟩ (fun v587 u585 H locs hw586 hP hD hS => ?_)
                              obtain ⟨at588, r589⟩ := u585
                              obtain ⟨hw586, h590, h591, h592, h593, h594, h595⟩ := hw586
                              have h590 : r589 ≤ 1 := h590
                              have h591 : fa347 + 100 * r589 ≤ 100 := h591
                              have h592 : at588 = at346 + r589 := h592
                              have h593 : at588 ≤ T := h593
                              have h594 : If (r589 = 1) (K at346 = 319) := h594
                              have h595 : If (r589 = 0) (fa347 = 0 → ¬ K at346 = 319) := h595
                              obtain rfl : v587 = some (.int (nI r589)) := hw586
                              have hP : va_P G.1 pCl (mW G h0 a (upd (upd (upd (upd (upd (upd (upd F 15 (nI fa347)) 16 pl562) 27 (nI ((nd2 + 1) + 1))) 31 (nI wr563)) 64 (nI at588)) 65 (nI ne)) 66 (nI lk2)) (updA (stR (stR X564 13 nd2 (nI (nd2 + 1))) 16 la (nI nd2)) 2 K)) _ := mW_to (F := F) (l1 := [(15, (nI fa347)), (16, pl562), (27, (nI ((nd2 + 1) + 1))), (31, (nI wr563)), (64, (nI at346)), (65, (nI ne)), (66, (nI lk2)), (15, (nI fa347)), (64, (nI at588))]) (l2 := [(15, (nI fa347)), (16, pl562), (27, (nI ((nd2 + 1) + 1))), (31, (nI wr563)), (64, (nI at588)), (65, (nI ne)), (66, (nI lk2))]) (V := [(nI fa347), pl562, (nI ((nd2 + 1) + 1)), (nI wr563), (nI at588), (nI ne), (nI lk2), (nI fa347), (nI at588), (nI fa347), pl562, (nI ((nd2 + 1) + 1)), (nI wr563), (nI at588), (nI ne), (nI lk2)]) rfl rfl (show (updA (updA (stR (stR X564 13 nd2 (nI (nd2 + 1))) 16 la (nI nd2)) 2 K) 2 K) = (updA (stR (stR X564 13 nd2 (nI (nd2 + 1))) 16 la (nI nd2)) 2 K) from updsA_eq2 (F := X564) (l1 := [(13, (upd (X564 13) nd2 (nI (nd2 + 1)))), (16, (upd ((stR X564 13 nd2 (nI (nd2 + 1))) 16) la (nI nd2))), (2, K), (2, K)]) (l2 := [(13, (upd (X564 13) nd2 (nI (nd2 + 1)))), (16, (upd ((stR X564 13 nd2 (nI (nd2 + 1))) 16) la (nI nd2))), (2, K)]) (V := [(upd (X564 13) nd2 (nI (nd2 + 1))), (upd ((stR X564 13 nd2 (nI (nd2 + 1))) 16) la (nI nd2)), K, K, (upd (X564 13) nd2 (nI (nd2 + 1))), (upd ((stR X564 13 nd2 (nI (nd2 + 1))) 16) la (nI nd2)), K]) rfl rfl) hP
                              have hD : va_D A (mW G h0 a (upd (upd (upd (upd (upd (upd (upd F 15 (nI fa347)) 16 pl562) 27 (nI ((nd2 + 1) + 1))) 31 (nI wr563)) 64 (nI at588)) 65 (nI ne)) 66 (nI lk2)) (updA (stR (stR X564 13 nd2 (nI (nd2 + 1))) 16 la (nI nd2)) 2 K)) := mW_D hD
                              refine W.widen (k := 0) (n := 0) (Nat.le_of_ble_eq_true rfl) (Nat.le_of_ble_eq_true rfl) ?_
                              refine W.eq (g2 := F0 m 174 ls [.int (nI r589)]) rfl ?_
                              obtain rfl : at346 = at588 := (by omega)
                              refine lv_if_eq (tgt := 187) hx hb dX12_attempt_174 (by decide) (fun c596 => ?_) (fun c596 => (by have n597 : ¬ (r589 = 0) := fun h9 => c596 ((nI_eq (a := r589) (b := 0) (by omega) (by omega)).mpr h9); omega))
                              refine lv_iload_n hx hb dX12_attempt_187 rfl (lv_at hl 5 rfl) ?_
                              have hz598 : at0 ≤ at346 := (by omega)
                              have hz599 : at346 ≤ T := (by omega)
                              have hz600 : fa347 ≤ 100 := (by omega)
                              have hz601 : nd ≤ ((nd2 + 1) + 1) := (by omega)
                              have hz602 : ((nd2 + 1) + 1) + 2 * at0 ≤ nd + 2 * at346 + 100000 * fa347 := (by omega)
                              have hz603 : ((nd2 + 1) + 1) + 2 * at0 ≤ nd + 2 * at346 + (60 * (21 - ne) + 40) := (by omega)
                              have hz604 : wr ≤ wr563 := (by omega)
                              have hz605 : wr563 + at0 ≤ wr + at346 := (by omega)
                              have hz606 : lk ≤ lk2 := (by omega)
                              have hz607 : lk2 ≤ 60 + 100 * fa347 := (by omega)
                              have hz608 : at0 + 1 ≤ at346 + fa347 := (by omega)
                              have hz609 : nd ≤ ((nd2 + 1) + 1) := (by omega)
                              have hz610 : Kp B (stR (stR X564 13 nd2 (nI (nd2 + 1))) 16 la (nI nd2)) wr563 T := hkp571
                              have hz611 : If (fa347 = 0) (Low B (stR (stR X564 13 nd2 (nI (nd2 + 1))) 16 la (nI nd2)) nd wr ∧ Frs K T wr563 (stR (stR X564 13 nd2 (nI (nd2 + 1))) 16 la (nI nd2)) nd ((nd2 + 1) + 1) 20000 [(nd, (280 + 4 * (21 - ne)))] ∧ kcl 3 ((stR (stR X564 13 nd2 (nI (nd2 + 1))) 16 la (nI nd2)) 9 nd) = true) := (fun e => absurd e (by omega))
                              have hP : va_P G.1 pCl (mW G h0 a (upd (upd (upd (upd (upd (upd (upd F 15 (nI fa347)) 16 pl562) 27 (nI ((nd2 + 1) + 1))) 31 (nI wr563)) 64 (nI at346)) 65 (nI ne)) 66 (nI lk2)) (updA (stR (stR X564 13 nd2 (nI (nd2 + 1))) 16 la (nI nd2)) 2 K)) _ := hP
                              have hD : va_D A (mW G h0 a (upd (upd (upd (upd (upd (upd (upd F 15 (nI fa347)) 16 pl562) 27 (nI ((nd2 + 1) + 1))) 31 (nI wr563)) 64 (nI at346)) 65 (nI ne)) 66 (nI lk2)) (updA (stR (stR X564 13 nd2 (nI (nd2 + 1))) 16 la (nI nd2)) 2 K)) := mW_D hD
                              exact W.iret (v := (nI nd)) hx hb hr (fun t9 ht9 hW9 => ⟨⟨_, (at346, fa347, pl562, ((nd2 + 1) + 1), lk2, wr563, nd, (stR (stR X564 13 nd2 (nI (nd2 + 1))) 16 la (nI nd2))), rfl, ⟨rfl, hz598, hz599, hz600, hz601, hz602, hz603, hz604, hz605, hz606, hz607, hz608, hz609, hz610, hz611⟩, by rw [ht9]; exact hP, hD⟩, hS.F ht9⟩) hS.2.2 dX12_attempt_188
                          · have e342 := e342
                            refine lv_istore (lv' := [(4, .int (nI at316)), (3, .int (nI (at299 - 1))), (2, .int (nI la)), (1, .int (nI nd)), (0, .ref h0)]) hx hb dX12_attempt_98 hl (by decide) rfl (fun ls hl => ?_)
                            refine lv_aload_n hx hb dX12_attempt_100 rfl (lv_at hl 4 rfl) ?_
                            have hP : va_P G.1 pCl (mW G h0 a (upd (upd (upd (upd (upd (upd (upd (upd (upd F 15 (nI fa332)) 16 pl333) 27 (nI nd2)) 31 (nI wr2)) 64 (nI at331)) 65 (nI ne)) 66 (nI lk2)) 15 (nI fa332)) 64 (nI at331)) (updA (updA X2 2 K) 2 K)) _ := mW_to (F := F) (l1 := [(15, (nI fa332)), (16, pl333), (27, (nI nd2)), (31, (nI wr2)), (64, (nI at331)), (65, (nI ne)), (66, (nI lk2))]) (l2 := [(15, (nI fa332)), (16, pl333), (27, (nI nd2)), (31, (nI wr2)), (64, (nI at331)), (65, (nI ne)), (66, (nI lk2)), (15, (nI fa332)), (64, (nI at331))]) (V := [(nI fa332), pl333, (nI nd2), (nI wr2), (nI at331), (nI ne), (nI lk2), (nI fa332), pl333, (nI nd2), (nI wr2), (nI at331), (nI ne), (nI lk2), (nI fa332), (nI at331)]) rfl rfl (show (updA X2 2 K) = (updA (updA X2 2 K) 2 K) from updsA_eq2 (F := X2) (l1 := [(2, K)]) (l2 := [(2, K), (2, K)]) (V := [K, K, K]) rfl rfl) hP
                            have hD : va_D A (mW G h0 a (upd (upd (upd (upd (upd (upd (upd (upd (upd F 15 (nI fa332)) 16 pl333) 27 (nI nd2)) 31 (nI wr2)) 64 (nI at331)) 65 (nI ne)) 66 (nI lk2)) 15 (nI fa332)) 64 (nI at331)) (updA (updA X2 2 K) 2 K)) := mW_D hD
                            refine pc_V0 (G := G) (As := []) (rest := []) hx hb hml hown hq hE hX pX0_al hP hD hS hA hl.1 (R_name l G h0 a (upd (upd (upd (upd (upd (upd (upd F 15 (nI fa332)) 16 pl333) 27 (nI nd2)) 31 (nI wr2)) 64 (nI at331)) 65 (nI ne)) 66 (nI lk2)) (updA X2 2 K) at331 T fa332 K (by omega) (by omega) hK (by omega)) (gV pw_1618 pw_1619 pw_1620 pw_1523 pw_1613) hV_X12_name 0 9 rfl rfl rfl rfl (Nat.le_of_ble_eq_true rfl) dX12_attempt_101 ⟨Nat.le_of_ble_eq_true rfl, Nat.le_of_ble_eq_true rfl⟩ ⟨(by show 5 + 1 ≤ (26 * n + 43); omega), (by show 8 + (2 + 11) + 124 ≤ (2000 * n + 4300); omega)⟩ (fun v614 u612 H locs hw613 hP hD hS => ?_)
                            obtain ⟨at615, fa616, pl617⟩ := u612
                            obtain ⟨hw613, h618, h619, h620, h621, h622, h623, h624, h625⟩ := hw613
                            have h618 : at331 ≤ at615 := h618
                            have h619 : at615 ≤ T := h619
                            have h620 : fa332 ≤ fa616 := h620
                            have h621 : fa616 ≤ 100 := h621
                            have h622 : If (0 < fa332) (at615 = at331 ∧ fa616 = fa332) := h622
                            have h623 : at615 ≤ at331 + 1 := h623
                            have h624 : at331 + 1 ≤ at615 + fa616 := h624
                            have h625 : If (fa616 = 0) (K at331 = 1) := h625
                            obtain rfl : v614 = some (.int (nI at331)) := hw613
                            have hP : va_P G.1 pCl (mW G h0 a (upd (upd (upd (upd (upd (upd (upd F 15 (nI fa616)) 16 pl617) 27 (nI nd2)) 31 (nI wr2)) 64 (nI at615)) 65 (nI ne)) 66 (nI lk2)) (updA X2 2 K)) _ := mW_to (F := F) (l1 := [(15, (nI fa332)), (16, pl333), (27, (nI nd2)), (31, (nI wr2)), (64, (nI at331)), (65, (nI ne)), (66, (nI lk2)), (15, (nI fa616)), (16, pl617), (64, (nI at615))]) (l2 := [(15, (nI fa616)), (16, pl617), (27, (nI nd2)), (31, (nI wr2)), (64, (nI at615)), (65, (nI ne)), (66, (nI lk2))]) (V := [(nI fa616), pl617, (nI nd2), (nI wr2), (nI at615), (nI ne), (nI lk2), (nI fa616), pl617, (nI at615), (nI fa616), pl617, (nI nd2), (nI wr2), (nI at615), (nI ne), (nI lk2)]) rfl rfl (show (updA (updA X2 2 K) 2 K) = (updA X2 2 K) from updsA_eq2 (F := X2) (l1 := [(2, K), (2, K)]) (l2 := [(2, K)]) (V := [K, K, K]) rfl rfl) hP
                            have hD : va_D A (mW G h0 a (upd (upd (upd (upd (upd (upd (upd F 15 (nI fa616)) 16 pl617) 27 (nI nd2)) 31 (nI wr2)) 64 (nI at615)) 65 (nI ne)) 66 (nI lk2)) (updA X2 2 K)) := mW_D hD
                            refine W.widen (k := 0) (n := 0) (Nat.le_of_ble_eq_true rfl) (Nat.le_of_ble_eq_true rfl) ?_
                            refine W.eq (g2 := F0 m 104 ls [.int (nI at331)]) rfl ?_
                            obtain ⟨n627, n626⟩ := h622 e342
                            replace n627 := n627.symm
                            subst n627
                            replace n626 := n626.symm
                            subst n626
                            refine lv_istore (lv' := [(5, .int (nI at331)), (4, .int (nI at316)), (3, .int (nI (at299 - 1))), (2, .int (nI la)), (1, .int (nI nd)), (0, .ref h0)]) hx hb dX12_attempt_104 hl (by decide) rfl (fun ls hl => ?_)
                            refine lv_aload_n hx hb dX12_attempt_106 rfl (lv_at hl 5 rfl) ?_
                            refine lv_bipush (v := 41) hx hb dX12_attempt_107 (by decide) ?_
                            have hP : va_P G.1 pCl (mW G h0 a (upd (upd (upd (upd (upd (upd (upd (upd (upd F 15 (nI fa332)) 16 pl617) 27 (nI nd2)) 31 (nI wr2)) 64 (nI at331)) 65 (nI ne)) 66 (nI lk2)) 15 (nI fa332)) 64 (nI at331)) (updA (updA X2 2 K) 2 K)) _ := hP
                            have hD : va_D A (mW G h0 a (upd (upd (upd (upd (upd (upd (upd (upd (upd F 15 (nI fa332)) 16 pl617) 27 (nI nd2)) 31 (nI wr2)) 64 (nI at331)) 65 (nI ne)) 66 (nI lk2)) 15 (nI fa332)) 64 (nI at331)) (updA (updA X2 2 K) 2 K)) := mW_D hD
                            refine pc_V0 (G := G) (As := [.int 41]) (rest := []) hx hb hml hown hq hE hX pX0_al hP hD hS hA hl.1 (R_take l G h0 a (upd (upd (upd (upd (upd (upd (upd F 15 (nI fa332)) 16 pl617) 27 (nI nd2)) 31 (nI wr2)) 64 (nI at331)) 65 (nI ne)) 66 (nI lk2)) (updA X2 2 K) at331 T fa332 K 41 (by omega) (by omega) hK (by omega) (by decide) (by decide)) (gV pw_1614 pw_1615 pw_1616 pw_1523 pw_1601) hV_X12_take 0 9 rfl rfl rfl rfl (Nat.le_of_ble_eq_true rfl) dX12_attempt_109 ⟨Nat.le_of_ble_eq_true rfl, Nat.le_of_ble_eq_true rfl⟩ ⟨(by show 4 + 1 ≤ (26 * n + 43); omega), (by show 8 + (2 + 11) + 103 ≤ (2000 * n + 4300); omega)⟩ (fun v630 u628 H locs hw629 hP hD hS => ?_)
                            obtain ⟨at631, fa632, pl633⟩ := u628
                            obtain ⟨hw629, h634, h635, h636, h637, h638, h639, h640, h641⟩ := hw629
                            have h634 : at331 ≤ at631 := h634
                            have h635 : at631 ≤ T := h635
                            have h636 : fa332 ≤ fa632 := h636
                            have h637 : fa632 ≤ 100 := h637
                            have h638 : If (0 < fa332) (at631 = at331 ∧ fa632 = fa332) := h638
                            have h639 : at631 ≤ at331 + 1 := h639
                            have h640 : at331 + 1 ≤ at631 + fa632 := h640
                            have h641 : If (fa632 = 0) (K at331 = 41) := h641
                            obtain rfl : v630 = none := hw629
                            have hP : va_P G.1 pCl (mW G h0 a (upd (upd (upd (upd (upd (upd (upd F 15 (nI fa632)) 16 pl633) 27 (nI nd2)) 31 (nI wr2)) 64 (nI at631)) 65 (nI ne)) 66 (nI lk2)) (updA X2 2 K)) _ := mW_to (F := F) (l1 := [(15, (nI fa332)), (16, pl617), (27, (nI nd2)), (31, (nI wr2)), (64, (nI at331)), (65, (nI ne)), (66, (nI lk2)), (15, (nI fa632)), (16, pl633), (64, (nI at631))]) (l2 := [(15, (nI fa632)), (16, pl633), (27, (nI nd2)), (31, (nI wr2)), (64, (nI at631)), (65, (nI ne)), (66, (nI lk2))]) (V := [(nI fa632), pl633, (nI nd2), (nI wr2), (nI at631), (nI ne), (nI lk2), (nI fa632), pl633, (nI at631), (nI fa632), pl633, (nI nd2), (nI wr2), (nI at631), (nI ne), (nI lk2)]) rfl rfl (show (updA (updA X2 2 K) 2 K) = (updA X2 2 K) from updsA_eq2 (F := X2) (l1 := [(2, K), (2, K)]) (l2 := [(2, K)]) (V := [K, K, K]) rfl rfl) hP
                            have hD : va_D A (mW G h0 a (upd (upd (upd (upd (upd (upd (upd F 15 (nI fa632)) 16 pl633) 27 (nI nd2)) 31 (nI wr2)) 64 (nI at631)) 65 (nI ne)) 66 (nI lk2)) (updA X2 2 K)) := mW_D hD
                            refine W.widen (k := 0) (n := 0) (Nat.le_of_ble_eq_true rfl) (Nat.le_of_ble_eq_true rfl) ?_
                            refine W.eq (g2 := F0 m 112 ls []) rfl ?_
                            obtain ⟨n643, n642⟩ := h638 e342
                            replace n643 := n643.symm
                            subst n643
                            replace n642 := n642.symm
                            subst n642
                            refine lv_aload_n hx hb dX12_attempt_112 rfl (lv_at hl 5 rfl) ?_
                            refine lv_bipush (v := 44) hx hb dX12_attempt_113 (by decide) ?_
                            refine lv_iload_n hx hb dX12_attempt_115 rfl (lv_at hl 2 rfl) ?_
                            refine lv_iload hx hb dX12_attempt_116 (lv_at hl 0 rfl) ?_
                            refine lv_iload hx hb dX12_attempt_118 (lv_at hl 1 rfl) ?_
                            refine lv_iconst (v := (-1)) hx hb dX12_attempt_120 (by decide) ?_
                            have hP : va_P G.1 pCl (mW G h0 a (upd (upd (upd (upd (upd (upd (upd (upd F 15 (nI fa332)) 16 pl633) 27 (nI nd2)) 31 (nI wr2)) 64 (nI at331)) 65 (nI ne)) 66 (nI lk2)) 27 (nI nd2)) (updA X2 2 K)) _ := hP
                            have hD : va_D A (mW G h0 a (upd (upd (upd (upd (upd (upd (upd (upd F 15 (nI fa332)) 16 pl633) 27 (nI nd2)) 31 (nI wr2)) 64 (nI at331)) 65 (nI ne)) 66 (nI lk2)) 27 (nI nd2)) (updA X2 2 K)) := mW_D hD
                            refine pc_V0 (G := G) (As := [.int 44, .int (nI (at299 - 1)), .int (nI at331), .int (nI at316), .int (-1)]) (rest := []) hx hb hml hown hq hE hX pX0_al hP hD hS hA hl.1 (R_nodeB l G h0 a (upd (upd (upd (upd (upd (upd (upd F 15 (nI fa332)) 16 pl633) 27 (nI nd2)) 31 (nI wr2)) 64 (nI at331)) 65 (nI ne)) 66 (nI lk2)) X2 44 (nI (at299 - 1)) (nI at331) (nI at316) (-1) nd2 K (by omega)) (gV pw_1650 pw_1651 pw_1652 pw_1523 pw_1589) hV_X12_node 0 9 rfl rfl rfl rfl (Nat.le_of_ble_eq_true rfl) dX12_attempt_121 ⟨Nat.le_of_ble_eq_true rfl, Nat.le_of_ble_eq_true rfl⟩ ⟨(by show 2 + 1 ≤ (26 * n + 43); omega), (by show 8 + (7 + 11) + 60 ≤ (2000 * n + 4300); omega)⟩ (fun v646 u644 H locs hw645 hP hD hS => ?_)
                            obtain ⟨X647, rfl⟩ : ∃ z, z = u644 := ⟨_, rfl⟩
                            obtain ⟨hw645, h648⟩ := hw645
                            have h648 : NewN X2 X647 nd2 44 (nI (at299 - 1)) (nI at331) (nI at316) (-1) := h648
                            obtain rfl : v646 = some (.int (nI nd2)) := hw645
                            have hP : va_P G.1 pCl (mW G h0 a (upd (upd (upd (upd (upd (upd (upd F 15 (nI fa332)) 16 pl633) 27 (nI (nd2 + 1))) 31 (nI wr2)) 64 (nI at331)) 65 (nI ne)) 66 (nI lk2)) (updA X647 2 K)) _ := mW_to (F := F) (l1 := [(15, (nI fa332)), (16, pl633), (27, (nI nd2)), (31, (nI wr2)), (64, (nI at331)), (65, (nI ne)), (66, (nI lk2)), (27, (nI (nd2 + 1)))]) (l2 := [(15, (nI fa332)), (16, pl633), (27, (nI (nd2 + 1))), (31, (nI wr2)), (64, (nI at331)), (65, (nI ne)), (66, (nI lk2))]) (V := [(nI fa332), pl633, (nI (nd2 + 1)), (nI wr2), (nI at331), (nI ne), (nI lk2), (nI (nd2 + 1)), (nI fa332), pl633, (nI (nd2 + 1)), (nI wr2), (nI at331), (nI ne), (nI lk2)]) rfl rfl rfl hP
                            have hD : va_D A (mW G h0 a (upd (upd (upd (upd (upd (upd (upd F 15 (nI fa332)) 16 pl633) 27 (nI (nd2 + 1))) 31 (nI wr2)) 64 (nI at331)) 65 (nI ne)) 66 (nI lk2)) (updA X647 2 K)) := mW_D hD
                            refine W.widen (k := 0) (n := 0) (Nat.le_of_ble_eq_true rfl) (Nat.le_of_ble_eq_true rfl) ?_
                            refine W.eq (g2 := F0 m 124 ls [.int (nI nd2)]) rfl ?_
                            have hkp649 : Kp B X647 wr2 T := (Kp.new hkp2 h648)
                            refine lv_istore (lv' := [(6, .int (nI nd2)), (5, .int (nI at331)), (4, .int (nI at316)), (3, .int (nI (at299 - 1))), (2, .int (nI la)), (1, .int (nI nd)), (0, .ref h0)]) hx hb dX12_attempt_124 hl (by decide) rfl (fun ls hl => ?_)
                            refine lv_aload_n hx hb dX12_attempt_126 rfl (lv_at hl 6 rfl) ?_
                            refine r_get (v := .ref (a 13)) hx hb hown hq hE hP 21 50 tFX12_21 (by decide) pw_1443 rfl dX12_attempt_127 ?_
                            refine lv_iload hx hb dX12_attempt_130 (lv_at hl 0 rfl) ?_
                            refine lv_aload_n hx hb dX12_attempt_132 rfl (lv_at hl 6 rfl) ?_
                            have hP : va_P G.1 pCl (mW G h0 a (upd (upd (upd (upd (upd (upd (upd (upd (upd (upd (upd F 15 (nI fa332)) 16 pl633) 27 (nI (nd2 + 1))) 31 (nI wr2)) 64 (nI at331)) 65 (nI ne)) 66 (nI lk2)) 15 (nI fa332)) 27 (nI (nd2 + 1))) 31 (nI wr2)) 64 (nI at331)) (updA X647 2 K)) _ := mW_to (F := F) (l1 := [(15, (nI fa332)), (16, pl633), (27, (nI (nd2 + 1))), (31, (nI wr2)), (64, (nI at331)), (65, (nI ne)), (66, (nI lk2))]) (l2 := [(15, (nI fa332)), (16, pl633), (27, (nI (nd2 + 1))), (31, (nI wr2)), (64, (nI at331)), (65, (nI ne)), (66, (nI lk2)), (15, (nI fa332)), (27, (nI (nd2 + 1))), (31, (nI wr2)), (64, (nI at331))]) (V := [(nI fa332), pl633, (nI (nd2 + 1)), (nI wr2), (nI at331), (nI ne), (nI lk2), (nI fa332), pl633, (nI (nd2 + 1)), (nI wr2), (nI at331), (nI ne), (nI lk2), (nI fa332), (nI (nd2 + 1)), (nI wr2), (nI at331)]) rfl rfl rfl hP
                            have hD : va_D A (mW G h0 a (upd (upd (upd (upd (upd (upd (upd (upd (upd (upd (upd F 15 (nI fa332)) 16 pl633) 27 (nI (nd2 + 1))) 31 (nI wr2)) 64 (nI at331)) 65 (nI ne)) 66 (nI lk2)) 15 (nI fa332)) 27 (nI (nd2 + 1))) 31 (nI wr2)) 64 (nI at331)) (updA X647 2 K)) := mW_D hD
                            refine pc_V0 (G := G) (As := []) (rest := [.int (nI nd2), .ref (a 13)]) hx hb hml hown hq hE hX pX0_al hP hD hS hA hl.1 (RF_block l G h0 a (upd (upd (upd (upd (upd (upd (upd F 15 (nI fa332)) 16 pl633) 27 (nI (nd2 + 1))) 31 (nI wr2)) 64 (nI at331)) 65 (nI ne)) 66 (nI lk2)) X647 at331 T fa332 (nd2 + 1) wr2 K (by omega) (by omega) hK (by omega) e342 (by omega) (by omega) (hkp649).2) (gV pw_1685 pw_1686 pw_1687 pw_1523 pw_1688) hV_X12_block 0 9 rfl rfl rfl rfl (Nat.le_of_ble_eq_true rfl) dX12_attempt_133 ⟨Nat.le_of_ble_eq_true rfl, Nat.le_of_ble_eq_true rfl⟩ ⟨(by show 5 + 1 ≤ (26 * n + 43); omega), (by show 8 + (4 + 11) + 124 ≤ (2000 * n + 4300); omega)⟩ (fun v652 u650 H locs hw651 hP hD hS => ?_)
                            obtain ⟨pl653, wr654, X655⟩ := u650
                            obtain ⟨hw651, h656, h657, h658⟩ := hw651
                            have h656 : wr2 ≤ wr654 := h656
                            have h657 : wr654 ≤ wr2 := h657
                            have h658 : Kp X647 X655 wr654 T := h658
                            obtain rfl : v652 = some (.int (nI (nd2 + 1))) := hw651
                            have hP : va_P G.1 pCl (mW G h0 a (upd (upd (upd (upd (upd (upd (upd F 15 (nI fa332)) 16 pl653) 27 (nI ((nd2 + 1) + 1))) 31 (nI wr654)) 64 (nI at331)) 65 (nI ne)) 66 (nI lk2)) (updA X655 2 K)) _ := mW_to (F := F) (l1 := [(15, (nI fa332)), (16, pl633), (27, (nI (nd2 + 1))), (31, (nI wr2)), (64, (nI at331)), (65, (nI ne)), (66, (nI lk2)), (15, (nI fa332)), (16, pl653), (27, (nI ((nd2 + 1) + 1))), (31, (nI wr654)), (64, (nI at331))]) (l2 := [(15, (nI fa332)), (16, pl653), (27, (nI ((nd2 + 1) + 1))), (31, (nI wr654)), (64, (nI at331)), (65, (nI ne)), (66, (nI lk2))]) (V := [(nI fa332), pl653, (nI ((nd2 + 1) + 1)), (nI wr654), (nI at331), (nI ne), (nI lk2), (nI fa332), pl653, (nI ((nd2 + 1) + 1)), (nI wr654), (nI at331), (nI fa332), pl653, (nI ((nd2 + 1) + 1)), (nI wr654), (nI at331), (nI ne), (nI lk2)]) rfl rfl rfl hP
                            have hD : va_D A (mW G h0 a (upd (upd (upd (upd (upd (upd (upd F 15 (nI fa332)) 16 pl653) 27 (nI ((nd2 + 1) + 1))) 31 (nI wr654)) 64 (nI at331)) 65 (nI ne)) 66 (nI lk2)) (updA X655 2 K)) := mW_D hD
                            refine W.widen (k := 0) (n := 0) (Nat.le_of_ble_eq_true rfl) (Nat.le_of_ble_eq_true rfl) ?_
                            refine W.eq (g2 := F0 m 136 ls [.int (nI (nd2 + 1)), .int (nI nd2), .ref (a 13)]) rfl ?_
                            have hkp659 : Kp B X655 wr654 T := (Kp.trans hkp649 h658)
                            refine r_sti (f := (X655 13)) (j := nd2) hx hb hE hP hD hS 13 (ma_13 G a _) rfl (mas_13 G a _) (by omega) (by decide) dX12_attempt_136 (fun H locs hP hD hS => ?_)
                            have hP : va_P G.1 pCl (mW G h0 a (upd (upd (upd (upd (upd (upd (upd F 15 (nI fa332)) 16 pl653) 27 (nI ((nd2 + 1) + 1))) 31 (nI wr654)) 64 (nI at331)) 65 (nI ne)) 66 (nI lk2)) (updA (stR X655 13 nd2 (nI (nd2 + 1))) 2 K)) _ := mW_to (F := F) (l1 := [(15, (nI fa332)), (16, pl653), (27, (nI ((nd2 + 1) + 1))), (31, (nI wr654)), (64, (nI at331)), (65, (nI ne)), (66, (nI lk2))]) (l2 := [(15, (nI fa332)), (16, pl653), (27, (nI ((nd2 + 1) + 1))), (31, (nI wr654)), (64, (nI at331)), (65, (nI ne)), (66, (nI lk2))]) (V := [(nI fa332), pl653, (nI ((nd2 + 1) + 1)), (nI wr654), (nI at331), (nI ne), (nI lk2), (nI fa332), pl653, (nI ((nd2 + 1) + 1)), (nI wr654), (nI at331), (nI ne), (nI lk2)]) rfl rfl (show (updA (updA X655 2 K) 13 (upd (X655 13) nd2 (nI (nd2 + 1)))) = (updA (stR X655 13 nd2 (nI (nd2 + 1))) 2 K) from updsA_eq2 (F := X655) (l1 := [(2, K), (13, (upd (X655 13) nd2 (nI (nd2 + 1))))]) (l2 := [(13, (upd (X655 13) nd2 (nI (nd2 + 1)))), (2, K)]) (V := [K, (upd (X655 13) nd2 (nI (nd2 + 1))), (upd (X655 13) nd2 (nI (nd2 + 1))), K]) rfl rfl) hP
                            have hD : va_D A (mW G h0 a (upd (upd (upd (upd (upd (upd (upd F 15 (nI fa332)) 16 pl653) 27 (nI ((nd2 + 1) + 1))) 31 (nI wr654)) 64 (nI at331)) 65 (nI ne)) 66 (nI lk2)) (updA (stR X655 13 nd2 (nI (nd2 + 1))) 2 K)) := mW_D hD
                            have hkp660 : Kp B (stR X655 13 nd2 (nI (nd2 + 1))) wr654 T := (Kp.row hkp659 (by omega))
                            refine lv_iload_n hx hb dX12_attempt_137 rfl (lv_at hl 4 rfl) ?_
                            refine lv_iconst (v := (-1)) hx hb dX12_attempt_138 (by decide) ?_
                            refine lv_icmp_ne (tgt := 153) hx hb dX12_attempt_139 (by decide) (fun c661 => ?_) (fun c661 => absurd c661 (nI_m1 (by omega)))
                            refine lv_aload_n hx hb dX12_attempt_153 rfl (lv_at hl 6 rfl) ?_
                            refine r_get (v := .ref (a 16)) hx hb hown hq hE hP 24 59 tFX12_24 (by decide) pw_1446 rfl dX12_attempt_154 ?_
                            refine lv_iload_n hx hb dX12_attempt_157 rfl (lv_at hl 4 rfl) ?_
                            refine lv_iload hx hb dX12_attempt_158 (lv_at hl 0 rfl) ?_
                            refine r_sti (f := ((stR X655 13 nd2 (nI (nd2 + 1))) 16)) (j := la) hx hb hE hP hD hS 16 (ma_16 G a _) rfl (mas_16 G a _) (by omega) (by decide) dX12_attempt_160 (fun H locs hP hD hS => ?_)
                            have hP : va_P G.1 pCl (mW G h0 a (upd (upd (upd (upd (upd (upd (upd F 15 (nI fa332)) 16 pl653) 27 (nI ((nd2 + 1) + 1))) 31 (nI wr654)) 64 (nI at331)) 65 (nI ne)) 66 (nI lk2)) (updA (stR (stR X655 13 nd2 (nI (nd2 + 1))) 16 la (nI nd2)) 2 K)) _ := mW_to (F := F) (l1 := [(15, (nI fa332)), (16, pl653), (27, (nI ((nd2 + 1) + 1))), (31, (nI wr654)), (64, (nI at331)), (65, (nI ne)), (66, (nI lk2))]) (l2 := [(15, (nI fa332)), (16, pl653), (27, (nI ((nd2 + 1) + 1))), (31, (nI wr654)), (64, (nI at331)), (65, (nI ne)), (66, (nI lk2))]) (V := [(nI fa332), pl653, (nI ((nd2 + 1) + 1)), (nI wr654), (nI at331), (nI ne), (nI lk2), (nI fa332), pl653, (nI ((nd2 + 1) + 1)), (nI wr654), (nI at331), (nI ne), (nI lk2)]) rfl rfl (show (updA (updA (stR X655 13 nd2 (nI (nd2 + 1))) 2 K) 16 (upd ((stR X655 13 nd2 (nI (nd2 + 1))) 16) la (nI nd2))) = (updA (stR (stR X655 13 nd2 (nI (nd2 + 1))) 16 la (nI nd2)) 2 K) from updsA_eq2 (F := X655) (l1 := [(13, (upd (X655 13) nd2 (nI (nd2 + 1)))), (2, K), (16, (upd ((stR X655 13 nd2 (nI (nd2 + 1))) 16) la (nI nd2)))]) (l2 := [(13, (upd (X655 13) nd2 (nI (nd2 + 1)))), (16, (upd ((stR X655 13 nd2 (nI (nd2 + 1))) 16) la (nI nd2))), (2, K)]) (V := [(upd (X655 13) nd2 (nI (nd2 + 1))), K, (upd ((stR X655 13 nd2 (nI (nd2 + 1))) 16) la (nI nd2)), (upd (X655 13) nd2 (nI (nd2 + 1))), (upd ((stR X655 13 nd2 (nI (nd2 + 1))) 16) la (nI nd2)), K]) rfl rfl) hP
                            have hD : va_D A (mW G h0 a (upd (upd (upd (upd (upd (upd (upd F 15 (nI fa332)) 16 pl653) 27 (nI ((nd2 + 1) + 1))) 31 (nI wr654)) 64 (nI at331)) 65 (nI ne)) 66 (nI lk2)) (updA (stR (stR X655 13 nd2 (nI (nd2 + 1))) 16 la (nI nd2)) 2 K)) := mW_D hD
                            have hkp662 : Kp B (stR (stR X655 13 nd2 (nI (nd2 + 1))) 16 la (nI nd2)) wr654 T := (Kp.row hkp660 (by omega))
                            refine lv_iload hx hb dX12_attempt_161 (lv_at hl 0 rfl) ?_
                            refine lv_istore_n (lv' := [(2, .int (nI nd2)), (6, .int (nI nd2)), (5, .int (nI at331)), (4, .int (nI at316)), (3, .int (nI (at299 - 1))), (1, .int (nI nd)), (0, .ref h0)]) hx hb dX12_attempt_163 rfl hl (by decide) rfl (fun ls hl => ?_)
                            refine lv_goto (tgt := 71) hx hb dX12_attempt_164 (by decide) ?_
                            refine lv_aload_n hx hb dX12_attempt_71 rfl (lv_at hl 6 rfl) ?_
                            refine lv_sipush (v := 313) hx hb dX12_attempt_72 (by decide) ?_
                            have hP : va_P G.1 pCl (mW G h0 a (upd (upd (upd (upd (upd (upd (upd (upd (upd F 15 (nI fa332)) 16 pl653) 27 (nI ((nd2 + 1) + 1))) 31 (nI wr654)) 64 (nI at331)) 65 (nI ne)) 66 (nI lk2)) 15 (nI fa332)) 64 (nI at331)) (updA (updA (stR (stR X655 13 nd2 (nI (nd2 + 1))) 16 la (nI nd2)) 2 K) 2 K)) _ := mW_to (F := F) (l1 := [(15, (nI fa332)), (16, pl653), (27, (nI ((nd2 + 1) + 1))), (31, (nI wr654)), (64, (nI at331)), (65, (nI ne)), (66, (nI lk2))]) (l2 := [(15, (nI fa332)), (16, pl653), (27, (nI ((nd2 + 1) + 1))), (31, (nI wr654)), (64, (nI at331)), (65, (nI ne)), (66, (nI lk2)), (15, (nI fa332)), (64, (nI at331))]) (V := [(nI fa332), pl653, (nI ((nd2 + 1) + 1)), (nI wr654), (nI at331), (nI ne), (nI lk2), (nI fa332), pl653, (nI ((nd2 + 1) + 1)), (nI wr654), (nI at331), (nI ne), (nI lk2), (nI fa332), (nI at331)]) rfl rfl (show (updA (stR (stR X655 13 nd2 (nI (nd2 + 1))) 16 la (nI nd2)) 2 K) = (updA (updA (stR (stR X655 13 nd2 (nI (nd2 + 1))) 16 la (nI nd2)) 2 K) 2 K) from updsA_eq2 (F := X655) (l1 := [(13, (upd (X655 13) nd2 (nI (nd2 + 1)))), (16, (upd ((stR X655 13 nd2 (nI (nd2 + 1))) 16) la (nI nd2))), (2, K)]) (l2 := [(13, (upd (X655 13) nd2 (nI (nd2 + 1)))), (16, (upd ((stR X655 13 nd2 (nI (nd2 + 1))) 16) la (nI nd2))), (2, K), (2, K)]) (V := [(upd (X655 13) nd2 (nI (nd2 + 1))), (upd ((stR X655 13 nd2 (nI (nd2 + 1))) 16) la (nI nd2)), K, (upd (X655 13) nd2 (nI (nd2 + 1))), (upd ((stR X655 13 nd2 (nI (nd2 + 1))) 16) la (nI nd2)), K, K]) rfl rfl) hP
                            have hD : va_D A (mW G h0 a (upd (upd (upd (upd (upd (upd (upd (upd (upd F 15 (nI fa332)) 16 pl653) 27 (nI ((nd2 + 1) + 1))) 31 (nI wr654)) 64 (nI at331)) 65 (nI ne)) 66 (nI lk2)) 15 (nI fa332)) 64 (nI at331)) (updA (updA (stR (stR X655 13 nd2 (nI (nd2 + 1))) 16 la (nI nd2)) 2 K) 2 K)) := mW_D hD
                            refine pc_V0 (G := G) (As := [.int 313]) (rest := []) hx hb hml hown hq hE hX pX0_al hP hD hS hA hl.1 (R_may l G h0 a (upd (upd (upd (upd (upd (upd (upd F 15 (nI fa332)) 16 pl653) 27 (nI ((nd2 + 1) + 1))) 31 (nI wr654)) 64 (nI at331)) 65 (nI ne)) 66 (nI lk2)) (updA (stR (stR X655 13 nd2 (nI (nd2 + 1))) 16 la (nI nd2)) 2 K) at331 T fa332 K 313 (by omega) (by omega) hK (by omega) (by decide) (by decide)) (gV pw_1621 pw_1622 pw_1623 pw_1523 pw_1605) hV_X12_may 0 9 rfl rfl rfl rfl (Nat.le_of_ble_eq_true rfl) dX12_attempt_75 ⟨Nat.le_of_ble_eq_true rfl, Nat.le_of_ble_eq_true rfl⟩ ⟨(by show 3 + 1 ≤ (26 * n + 43); omega), (by show 8 + (3 + 11) + 81 ≤ (2000 * n + 4300); omega)⟩ (fun v665 u663 H locs hw664 hP hD hS => ?_)
                            obtain ⟨at666, r667⟩ := u663
                            obtain ⟨hw664, h668, h669, h670, h671, h672, h673⟩ := hw664
                            have h668 : r667 ≤ 1 := h668
                            have h669 : fa332 + 100 * r667 ≤ 100 := h669
                            have h670 : at666 = at331 + r667 := h670
                            have h671 : at666 ≤ T := h671
                            have h672 : If (r667 = 1) (K at331 = 313) := h672
                            have h673 : If (r667 = 0) (fa332 = 0 → ¬ K at331 = 313) := h673
                            obtain rfl : v665 = some (.int (nI r667)) := hw664
                            have hP : va_P G.1 pCl (mW G h0 a (upd (upd (upd (upd (upd (upd (upd F 15 (nI fa332)) 16 pl653) 27 (nI ((nd2 + 1) + 1))) 31 (nI wr654)) 64 (nI at666)) 65 (nI ne)) 66 (nI lk2)) (updA (stR (stR X655 13 nd2 (nI (nd2 + 1))) 16 la (nI nd2)) 2 K)) _ := mW_to (F := F) (l1 := [(15, (nI fa332)), (16, pl653), (27, (nI ((nd2 + 1) + 1))), (31, (nI wr654)), (64, (nI at331)), (65, (nI ne)), (66, (nI lk2)), (15, (nI fa332)), (64, (nI at666))]) (l2 := [(15, (nI fa332)), (16, pl653), (27, (nI ((nd2 + 1) + 1))), (31, (nI wr654)), (64, (nI at666)), (65, (nI ne)), (66, (nI lk2))]) (V := [(nI fa332), pl653, (nI ((nd2 + 1) + 1)), (nI wr654), (nI at666), (nI ne), (nI lk2), (nI fa332), (nI at666), (nI fa332), pl653, (nI ((nd2 + 1) + 1)), (nI wr654), (nI at666), (nI ne), (nI lk2)]) rfl rfl (show (updA (updA (stR (stR X655 13 nd2 (nI (nd2 + 1))) 16 la (nI nd2)) 2 K) 2 K) = (updA (stR (stR X655 13 nd2 (nI (nd2 + 1))) 16 la (nI nd2)) 2 K) from updsA_eq2 (F := X655) (l1 := [(13, (upd (X655 13) nd2 (nI (nd2 + 1)))), (16, (upd ((stR X655 13 nd2 (nI (nd2 + 1))) 16) la (nI nd2))), (2, K), (2, K)]) (l2 := [(13, (upd (X655 13) nd2 (nI (nd2 + 1)))), (16, (upd ((stR X655 13 nd2 (nI (nd2 + 1))) 16) la (nI nd2))), (2, K)]) (V := [(upd (X655 13) nd2 (nI (nd2 + 1))), (upd ((stR X655 13 nd2 (nI (nd2 + 1))) 16) la (nI nd2)), K, K, (upd (X655 13) nd2 (nI (nd2 + 1))), (upd ((stR X655 13 nd2 (nI (nd2 + 1))) 16) la (nI nd2)), K]) rfl rfl) hP
                            have hD : va_D A (mW G h0 a (upd (upd (upd (upd (upd (upd (upd F 15 (nI fa332)) 16 pl653) 27 (nI ((nd2 + 1) + 1))) 31 (nI wr654)) 64 (nI at666)) 65 (nI ne)) 66 (nI lk2)) (updA (stR (stR X655 13 nd2 (nI (nd2 + 1))) 16 la (nI nd2)) 2 K)) := mW_D hD
                            refine W.widen (k := 0) (n := 0) (Nat.le_of_ble_eq_true rfl) (Nat.le_of_ble_eq_true rfl) ?_
                            refine W.eq (g2 := F0 m 78 ls [.int (nI r667)]) rfl ?_
                            obtain rfl : at331 = at666 := (by omega)
                            refine lv_if_eq (tgt := 167) hx hb dX12_attempt_78 (by decide) (fun c674 => ?_) (fun c674 => (by have n675 : ¬ (r667 = 0) := fun h9 => c674 ((nI_eq (a := r667) (b := 0) (by omega) (by omega)).mpr h9); omega))
                            refine lv_aload_n hx hb dX12_attempt_167 rfl (lv_at hl 6 rfl) ?_
                            refine lv_sipush (v := 319) hx hb dX12_attempt_168 (by decide) ?_
                            have hP : va_P G.1 pCl (mW G h0 a (upd (upd (upd (upd (upd (upd (upd (upd (upd F 15 (nI fa332)) 16 pl653) 27 (nI ((nd2 + 1) + 1))) 31 (nI wr654)) 64 (nI at331)) 65 (nI ne)) 66 (nI lk2)) 15 (nI fa332)) 64 (nI at331)) (updA (updA (stR (stR X655 13 nd2 (nI (nd2 + 1))) 16 la (nI nd2)) 2 K) 2 K)) _ := hP
                            have hD : va_D A (mW G h0 a (upd (upd (upd (upd (upd (upd (upd (upd (upd F 15 (nI fa332)) 16 pl653) 27 (nI ((nd2 + 1) + 1))) 31 (nI wr654)) 64 (nI at331)) 65 (nI ne)) 66 (nI lk2)) 15 (nI fa332)) 64 (nI at331)) (updA (updA (stR (stR X655 13 nd2 (nI (nd2 + 1))) 16 la (nI nd2)) 2 K) 2 K)) := mW_D hD
                            refine pc_V0 (G := G) (As := [.int 319]) (rest := []) hx hb hml hown hq hE hX pX0_al hP hD hS hA hl.1 (R_may l G h0 a (upd (upd (upd (upd (upd (upd (upd F 15 (nI fa332)) 16 pl653) 27 (nI ((nd2 + 1) + 1))) 31 (nI wr654)) 64 (nI at331)) 65 (nI ne)) 66 (nI lk2)) (updA (stR (stR X655 13 nd2 (nI (nd2 + 1))) 16 la (nI nd2)) 2 K) at331 T fa332 K 319 (by omega) (by omega) hK (by omega) (by decide) (by decide)) (gV pw_1621 pw_1622 pw_1623 pw_1523 pw_1605) hV_X12_may 0 9 rfl rfl rfl rfl (Nat.le_of_ble_eq_true rfl) dX12_attempt_171 ⟨Nat.le_of_ble_eq_true rfl, Nat.le_of_ble_eq_true rfl⟩ ⟨(by show 3 + 1 ≤ (26 * n + 43); omega), (by show 8 + (3 + 11) + 81 ≤ (2000 * n + 4300); omega)⟩ (fun v678 u676 H locs hw677 hP hD hS => ?_)
                            obtain ⟨at679, r680⟩ := u676
                            obtain ⟨hw677, h681, h682, h683, h684, h685, h686⟩ := hw677
                            have h681 : r680 ≤ 1 := h681
                            have h682 : fa332 + 100 * r680 ≤ 100 := h682
                            have h683 : at679 = at331 + r680 := h683
                            have h684 : at679 ≤ T := h684
                            have h685 : If (r680 = 1) (K at331 = 319) := h685
                            have h686 : If (r680 = 0) (fa332 = 0 → ¬ K at331 = 319) := h686
                            obtain rfl : v678 = some (.int (nI r680)) := hw677
                            have hP : va_P G.1 pCl (mW G h0 a (upd (upd (upd (upd (upd (upd (upd F 15 (nI fa332)) 16 pl653) 27 (nI ((nd2 + 1) + 1))) 31 (nI wr654)) 64 (nI at679)) 65 (nI ne)) 66 (nI lk2)) (updA (stR (stR X655 13 nd2 (nI (nd2 + 1))) 16 la (nI nd2)) 2 K)) _ := mW_to (F := F) (l1 := [(15, (nI fa332)), (16, pl653), (27, (nI ((nd2 + 1) + 1))), (31, (nI wr654)), (64, (nI at331)), (65, (nI ne)), (66, (nI lk2)), (15, (nI fa332)), (64, (nI at679))]) (l2 := [(15, (nI fa332)), (16, pl653), (27, (nI ((nd2 + 1) + 1))), (31, (nI wr654)), (64, (nI at679)), (65, (nI ne)), (66, (nI lk2))]) (V := [(nI fa332), pl653, (nI ((nd2 + 1) + 1)), (nI wr654), (nI at679), (nI ne), (nI lk2), (nI fa332), (nI at679), (nI fa332), pl653, (nI ((nd2 + 1) + 1)), (nI wr654), (nI at679), (nI ne), (nI lk2)]) rfl rfl (show (updA (updA (stR (stR X655 13 nd2 (nI (nd2 + 1))) 16 la (nI nd2)) 2 K) 2 K) = (updA (stR (stR X655 13 nd2 (nI (nd2 + 1))) 16 la (nI nd2)) 2 K) from updsA_eq2 (F := X655) (l1 := [(13, (upd (X655 13) nd2 (nI (nd2 + 1)))), (16, (upd ((stR X655 13 nd2 (nI (nd2 + 1))) 16) la (nI nd2))), (2, K), (2, K)]) (l2 := [(13, (upd (X655 13) nd2 (nI (nd2 + 1)))), (16, (upd ((stR X655 13 nd2 (nI (nd2 + 1))) 16) la (nI nd2))), (2, K)]) (V := [(upd (X655 13) nd2 (nI (nd2 + 1))), (upd ((stR X655 13 nd2 (nI (nd2 + 1))) 16) la (nI nd2)), K, K, (upd (X655 13) nd2 (nI (nd2 + 1))), (upd ((stR X655 13 nd2 (nI (nd2 + 1))) 16) la (nI nd2)), K]) rfl rfl) hP
                            have hD : va_D A (mW G h0 a (upd (upd (upd (upd (upd (upd (upd F 15 (nI fa332)) 16 pl653) 27 (nI ((nd2 + 1) + 1))) 31 (nI wr654)) 64 (nI at679)) 65 (nI ne)) 66 (nI lk2)) (updA (stR (stR X655 13 nd2 (nI (nd2 + 1))) 16 la (nI nd2)) 2 K)) := mW_D hD
                            refine W.widen (k := 0) (n := 0) (Nat.le_of_ble_eq_true rfl) (Nat.le_of_ble_eq_true rfl) ?_
                            refine W.eq (g2 := F0 m 174 ls [.int (nI r680)]) rfl ?_
                            obtain rfl : at331 = at679 := (by omega)
                            refine lv_if_eq (tgt := 187) hx hb dX12_attempt_174 (by decide) (fun c687 => ?_) (fun c687 => (by have n688 : ¬ (r680 = 0) := fun h9 => c687 ((nI_eq (a := r680) (b := 0) (by omega) (by omega)).mpr h9); omega))
                            refine lv_iload_n hx hb dX12_attempt_187 rfl (lv_at hl 5 rfl) ?_
                            have hz689 : at0 ≤ at331 := (by omega)
                            have hz690 : at331 ≤ T := (by omega)
                            have hz691 : fa332 ≤ 100 := (by omega)
                            have hz692 : nd ≤ ((nd2 + 1) + 1) := (by omega)
                            have hz693 : ((nd2 + 1) + 1) + 2 * at0 ≤ nd + 2 * at331 + 100000 * fa332 := (by omega)
                            have hz694 : ((nd2 + 1) + 1) + 2 * at0 ≤ nd + 2 * at331 + (60 * (21 - ne) + 40) := (by omega)
                            have hz695 : wr ≤ wr654 := (by omega)
                            have hz696 : wr654 + at0 ≤ wr + at331 := (by omega)
                            have hz697 : lk ≤ lk2 := (by omega)
                            have hz698 : lk2 ≤ 60 + 100 * fa332 := (by omega)
                            have hz699 : at0 + 1 ≤ at331 + fa332 := (by omega)
                            have hz700 : nd ≤ ((nd2 + 1) + 1) := (by omega)
                            have hz701 : Kp B (stR (stR X655 13 nd2 (nI (nd2 + 1))) 16 la (nI nd2)) wr654 T := hkp662
                            have hz702 : If (fa332 = 0) (Low B (stR (stR X655 13 nd2 (nI (nd2 + 1))) 16 la (nI nd2)) nd wr ∧ Frs K T wr654 (stR (stR X655 13 nd2 (nI (nd2 + 1))) 16 la (nI nd2)) nd ((nd2 + 1) + 1) 20000 [(nd, (280 + 4 * (21 - ne)))] ∧ kcl 3 ((stR (stR X655 13 nd2 (nI (nd2 + 1))) 16 la (nI nd2)) 9 nd) = true) := (fun e => absurd e (by omega))
                            have hP : va_P G.1 pCl (mW G h0 a (upd (upd (upd (upd (upd (upd (upd F 15 (nI fa332)) 16 pl653) 27 (nI ((nd2 + 1) + 1))) 31 (nI wr654)) 64 (nI at331)) 65 (nI ne)) 66 (nI lk2)) (updA (stR (stR X655 13 nd2 (nI (nd2 + 1))) 16 la (nI nd2)) 2 K)) _ := hP
                            have hD : va_D A (mW G h0 a (upd (upd (upd (upd (upd (upd (upd F 15 (nI fa332)) 16 pl653) 27 (nI ((nd2 + 1) + 1))) 31 (nI wr654)) 64 (nI at331)) 65 (nI ne)) 66 (nI lk2)) (updA (stR (stR X655 13 nd2 (nI (nd2 + 1))) 16 la (nI nd2)) 2 K)) := mW_D hD
                            exact W.iret (v := (nI nd)) hx hb hr (fun t9 ht9 hW9 => ⟨⟨_, (at331, fa332, pl653, ((nd2 + 1) + 1), lk2, wr654, nd, (stR (stR X655 13 nd2 (nI (nd2 + 1))) 16 la (nI nd2))), rfl, ⟨rfl, hz689, hz690, hz691, hz692, hz693, hz694, hz695, hz696, hz697, hz698, hz699, hz700, hz701, hz702⟩, by rw [ht9]; exact hP, hD⟩, hS.F ht9⟩) hS.2.2 dX12_attempt_188
                        · have e327 := e327
                          refine lv_aload_n hx hb dX12_attempt_94 rfl (lv_at hl 3 rfl) ?_
                          have hP : va_P G.1 pCl (mW G h0 a (upd (upd (upd (upd (upd (upd (upd (upd (upd F 15 (nI fa317)) 16 pl318) 27 (nI nd2)) 31 (nI wr2)) 64 (nI at316)) 65 (nI ne)) 66 (nI lk2)) 15 (nI fa317)) 64 (nI at316)) (updA (updA X2 2 K) 2 K)) _ := mW_to (F := F) (l1 := [(15, (nI fa317)), (16, pl318), (27, (nI nd2)), (31, (nI wr2)), (64, (nI at316)), (65, (nI ne)), (66, (nI lk2))]) (l2 := [(15, (nI fa317)), (16, pl318), (27, (nI nd2)), (31, (nI wr2)), (64, (nI at316)), (65, (nI ne)), (66, (nI lk2)), (15, (nI fa317)), (64, (nI at316))]) (V := [(nI fa317), pl318, (nI nd2), (nI wr2), (nI at316), (nI ne), (nI lk2), (nI fa317), pl318, (nI nd2), (nI wr2), (nI at316), (nI ne), (nI lk2), (nI fa317), (nI at316)]) rfl rfl (show (updA X2 2 K) = (updA (updA X2 2 K) 2 K) from updsA_eq2 (F := X2) (l1 := [(2, K)]) (l2 := [(2, K), (2, K)]) (V := [K, K, K]) rfl rfl) hP
                          have hD : va_D A (mW G h0 a (upd (upd (upd (upd (upd (upd (upd (upd (upd F 15 (nI fa317)) 16 pl318) 27 (nI nd2)) 31 (nI wr2)) 64 (nI at316)) 65 (nI ne)) 66 (nI lk2)) 15 (nI fa317)) 64 (nI at316)) (updA (updA X2 2 K) 2 K)) := mW_D hD
                          refine pc_V0 (G := G) (As := []) (rest := []) hx hb hml hown hq hE hX pX0_al hP hD hS hA hl.1 (R_name l G h0 a (upd (upd (upd (upd (upd (upd (upd F 15 (nI fa317)) 16 pl318) 27 (nI nd2)) 31 (nI wr2)) 64 (nI at316)) 65 (nI ne)) 66 (nI lk2)) (updA X2 2 K) at316 T fa317 K (by omega) (by omega) hK (by omega)) (gV pw_1618 pw_1619 pw_1620 pw_1523 pw_1613) hV_X12_name 0 9 rfl rfl rfl rfl (Nat.le_of_ble_eq_true rfl) dX12_attempt_95 ⟨Nat.le_of_ble_eq_true rfl, Nat.le_of_ble_eq_true rfl⟩ ⟨(by show 5 + 1 ≤ (26 * n + 43); omega), (by show 8 + (2 + 11) + 124 ≤ (2000 * n + 4300); omega)⟩ (fun v705 u703 H locs hw704 hP hD hS => ?_)
                          obtain ⟨at706, fa707, pl708⟩ := u703
                          obtain ⟨hw704, h709, h710, h711, h712, h713, h714, h715, h716⟩ := hw704
                          have h709 : at316 ≤ at706 := h709
                          have h710 : at706 ≤ T := h710
                          have h711 : fa317 ≤ fa707 := h711
                          have h712 : fa707 ≤ 100 := h712
                          have h713 : If (0 < fa317) (at706 = at316 ∧ fa707 = fa317) := h713
                          have h714 : at706 ≤ at316 + 1 := h714
                          have h715 : at316 + 1 ≤ at706 + fa707 := h715
                          have h716 : If (fa707 = 0) (K at316 = 1) := h716
                          obtain rfl : v705 = some (.int (nI at316)) := hw704
                          have hP : va_P G.1 pCl (mW G h0 a (upd (upd (upd (upd (upd (upd (upd F 15 (nI fa707)) 16 pl708) 27 (nI nd2)) 31 (nI wr2)) 64 (nI at706)) 65 (nI ne)) 66 (nI lk2)) (updA X2 2 K)) _ := mW_to (F := F) (l1 := [(15, (nI fa317)), (16, pl318), (27, (nI nd2)), (31, (nI wr2)), (64, (nI at316)), (65, (nI ne)), (66, (nI lk2)), (15, (nI fa707)), (16, pl708), (64, (nI at706))]) (l2 := [(15, (nI fa707)), (16, pl708), (27, (nI nd2)), (31, (nI wr2)), (64, (nI at706)), (65, (nI ne)), (66, (nI lk2))]) (V := [(nI fa707), pl708, (nI nd2), (nI wr2), (nI at706), (nI ne), (nI lk2), (nI fa707), pl708, (nI at706), (nI fa707), pl708, (nI nd2), (nI wr2), (nI at706), (nI ne), (nI lk2)]) rfl rfl (show (updA (updA X2 2 K) 2 K) = (updA X2 2 K) from updsA_eq2 (F := X2) (l1 := [(2, K), (2, K)]) (l2 := [(2, K)]) (V := [K, K, K]) rfl rfl) hP
                          have hD : va_D A (mW G h0 a (upd (upd (upd (upd (upd (upd (upd F 15 (nI fa707)) 16 pl708) 27 (nI nd2)) 31 (nI wr2)) 64 (nI at706)) 65 (nI ne)) 66 (nI lk2)) (updA X2 2 K)) := mW_D hD
                          refine W.widen (k := 0) (n := 0) (Nat.le_of_ble_eq_true rfl) (Nat.le_of_ble_eq_true rfl) ?_
                          refine W.eq (g2 := F0 m 98 ls [.int (nI at316)]) rfl ?_
                          obtain ⟨n718, n717⟩ := h713 e327
                          replace n718 := n718.symm
                          subst n718
                          replace n717 := n717.symm
                          subst n717
                          refine lv_istore (lv' := [(4, .int (nI at316)), (3, .int (nI (at299 - 1))), (2, .int (nI la)), (1, .int (nI nd)), (0, .ref h0)]) hx hb dX12_attempt_98 hl (by decide) rfl (fun ls hl => ?_)
                          refine lv_aload_n hx hb dX12_attempt_100 rfl (lv_at hl 4 rfl) ?_
                          have hP : va_P G.1 pCl (mW G h0 a (upd (upd (upd (upd (upd (upd (upd (upd (upd F 15 (nI fa317)) 16 pl708) 27 (nI nd2)) 31 (nI wr2)) 64 (nI at316)) 65 (nI ne)) 66 (nI lk2)) 15 (nI fa317)) 64 (nI at316)) (updA (updA X2 2 K) 2 K)) _ := hP
                          have hD : va_D A (mW G h0 a (upd (upd (upd (upd (upd (upd (upd (upd (upd F 15 (nI fa317)) 16 pl708) 27 (nI nd2)) 31 (nI wr2)) 64 (nI at316)) 65 (nI ne)) 66 (nI lk2)) 15 (nI fa317)) 64 (nI at316)) (updA (updA X2 2 K) 2 K)) := mW_D hD
                          refine pc_V0 (G := G) (As := []) (rest := []) hx hb hml hown hq hE hX pX0_al hP hD hS hA hl.1 (R_name l G h0 a (upd (upd (upd (upd (upd (upd (upd F 15 (nI fa317)) 16 pl708) 27 (nI nd2)) 31 (nI wr2)) 64 (nI at316)) 65 (nI ne)) 66 (nI lk2)) (updA X2 2 K) at316 T fa317 K (by omega) (by omega) hK (by omega)) (gV pw_1618 pw_1619 pw_1620 pw_1523 pw_1613) hV_X12_name 0 9 rfl rfl rfl rfl (Nat.le_of_ble_eq_true rfl) dX12_attempt_101 ⟨Nat.le_of_ble_eq_true rfl, Nat.le_of_ble_eq_true rfl⟩ ⟨(by show 5 + 1 ≤ (26 * n + 43); omega), (by show 8 + (2 + 11) + 124 ≤ (2000 * n + 4300); omega)⟩ (fun v721 u719 H locs hw720 hP hD hS => ?_)
                          obtain ⟨at722, fa723, pl724⟩ := u719
                          obtain ⟨hw720, h725, h726, h727, h728, h729, h730, h731, h732⟩ := hw720
                          have h725 : at316 ≤ at722 := h725
                          have h726 : at722 ≤ T := h726
                          have h727 : fa317 ≤ fa723 := h727
                          have h728 : fa723 ≤ 100 := h728
                          have h729 : If (0 < fa317) (at722 = at316 ∧ fa723 = fa317) := h729
                          have h730 : at722 ≤ at316 + 1 := h730
                          have h731 : at316 + 1 ≤ at722 + fa723 := h731
                          have h732 : If (fa723 = 0) (K at316 = 1) := h732
                          obtain rfl : v721 = some (.int (nI at316)) := hw720
                          have hP : va_P G.1 pCl (mW G h0 a (upd (upd (upd (upd (upd (upd (upd F 15 (nI fa723)) 16 pl724) 27 (nI nd2)) 31 (nI wr2)) 64 (nI at722)) 65 (nI ne)) 66 (nI lk2)) (updA X2 2 K)) _ := mW_to (F := F) (l1 := [(15, (nI fa317)), (16, pl708), (27, (nI nd2)), (31, (nI wr2)), (64, (nI at316)), (65, (nI ne)), (66, (nI lk2)), (15, (nI fa723)), (16, pl724), (64, (nI at722))]) (l2 := [(15, (nI fa723)), (16, pl724), (27, (nI nd2)), (31, (nI wr2)), (64, (nI at722)), (65, (nI ne)), (66, (nI lk2))]) (V := [(nI fa723), pl724, (nI nd2), (nI wr2), (nI at722), (nI ne), (nI lk2), (nI fa723), pl724, (nI at722), (nI fa723), pl724, (nI nd2), (nI wr2), (nI at722), (nI ne), (nI lk2)]) rfl rfl (show (updA (updA X2 2 K) 2 K) = (updA X2 2 K) from updsA_eq2 (F := X2) (l1 := [(2, K), (2, K)]) (l2 := [(2, K)]) (V := [K, K, K]) rfl rfl) hP
                          have hD : va_D A (mW G h0 a (upd (upd (upd (upd (upd (upd (upd F 15 (nI fa723)) 16 pl724) 27 (nI nd2)) 31 (nI wr2)) 64 (nI at722)) 65 (nI ne)) 66 (nI lk2)) (updA X2 2 K)) := mW_D hD
                          refine W.widen (k := 0) (n := 0) (Nat.le_of_ble_eq_true rfl) (Nat.le_of_ble_eq_true rfl) ?_
                          refine W.eq (g2 := F0 m 104 ls [.int (nI at316)]) rfl ?_
                          obtain ⟨n734, n733⟩ := h729 e327
                          replace n734 := n734.symm
                          subst n734
                          replace n733 := n733.symm
                          subst n733
                          refine lv_istore (lv' := [(5, .int (nI at316)), (4, .int (nI at316)), (3, .int (nI (at299 - 1))), (2, .int (nI la)), (1, .int (nI nd)), (0, .ref h0)]) hx hb dX12_attempt_104 hl (by decide) rfl (fun ls hl => ?_)
                          refine lv_aload_n hx hb dX12_attempt_106 rfl (lv_at hl 5 rfl) ?_
                          refine lv_bipush (v := 41) hx hb dX12_attempt_107 (by decide) ?_
                          have hP : va_P G.1 pCl (mW G h0 a (upd (upd (upd (upd (upd (upd (upd (upd (upd F 15 (nI fa317)) 16 pl724) 27 (nI nd2)) 31 (nI wr2)) 64 (nI at316)) 65 (nI ne)) 66 (nI lk2)) 15 (nI fa317)) 64 (nI at316)) (updA (updA X2 2 K) 2 K)) _ := hP
                          have hD : va_D A (mW G h0 a (upd (upd (upd (upd (upd (upd (upd (upd (upd F 15 (nI fa317)) 16 pl724) 27 (nI nd2)) 31 (nI wr2)) 64 (nI at316)) 65 (nI ne)) 66 (nI lk2)) 15 (nI fa317)) 64 (nI at316)) (updA (updA X2 2 K) 2 K)) := mW_D hD
                          refine pc_V0 (G := G) (As := [.int 41]) (rest := []) hx hb hml hown hq hE hX pX0_al hP hD hS hA hl.1 (R_take l G h0 a (upd (upd (upd (upd (upd (upd (upd F 15 (nI fa317)) 16 pl724) 27 (nI nd2)) 31 (nI wr2)) 64 (nI at316)) 65 (nI ne)) 66 (nI lk2)) (updA X2 2 K) at316 T fa317 K 41 (by omega) (by omega) hK (by omega) (by decide) (by decide)) (gV pw_1614 pw_1615 pw_1616 pw_1523 pw_1601) hV_X12_take 0 9 rfl rfl rfl rfl (Nat.le_of_ble_eq_true rfl) dX12_attempt_109 ⟨Nat.le_of_ble_eq_true rfl, Nat.le_of_ble_eq_true rfl⟩ ⟨(by show 4 + 1 ≤ (26 * n + 43); omega), (by show 8 + (2 + 11) + 103 ≤ (2000 * n + 4300); omega)⟩ (fun v737 u735 H locs hw736 hP hD hS => ?_)
                          obtain ⟨at738, fa739, pl740⟩ := u735
                          obtain ⟨hw736, h741, h742, h743, h744, h745, h746, h747, h748⟩ := hw736
                          have h741 : at316 ≤ at738 := h741
                          have h742 : at738 ≤ T := h742
                          have h743 : fa317 ≤ fa739 := h743
                          have h744 : fa739 ≤ 100 := h744
                          have h745 : If (0 < fa317) (at738 = at316 ∧ fa739 = fa317) := h745
                          have h746 : at738 ≤ at316 + 1 := h746
                          have h747 : at316 + 1 ≤ at738 + fa739 := h747
                          have h748 : If (fa739 = 0) (K at316 = 41) := h748
                          obtain rfl : v737 = none := hw736
                          have hP : va_P G.1 pCl (mW G h0 a (upd (upd (upd (upd (upd (upd (upd F 15 (nI fa739)) 16 pl740) 27 (nI nd2)) 31 (nI wr2)) 64 (nI at738)) 65 (nI ne)) 66 (nI lk2)) (updA X2 2 K)) _ := mW_to (F := F) (l1 := [(15, (nI fa317)), (16, pl724), (27, (nI nd2)), (31, (nI wr2)), (64, (nI at316)), (65, (nI ne)), (66, (nI lk2)), (15, (nI fa739)), (16, pl740), (64, (nI at738))]) (l2 := [(15, (nI fa739)), (16, pl740), (27, (nI nd2)), (31, (nI wr2)), (64, (nI at738)), (65, (nI ne)), (66, (nI lk2))]) (V := [(nI fa739), pl740, (nI nd2), (nI wr2), (nI at738), (nI ne), (nI lk2), (nI fa739), pl740, (nI at738), (nI fa739), pl740, (nI nd2), (nI wr2), (nI at738), (nI ne), (nI lk2)]) rfl rfl (show (updA (updA X2 2 K) 2 K) = (updA X2 2 K) from updsA_eq2 (F := X2) (l1 := [(2, K), (2, K)]) (l2 := [(2, K)]) (V := [K, K, K]) rfl rfl) hP
                          have hD : va_D A (mW G h0 a (upd (upd (upd (upd (upd (upd (upd F 15 (nI fa739)) 16 pl740) 27 (nI nd2)) 31 (nI wr2)) 64 (nI at738)) 65 (nI ne)) 66 (nI lk2)) (updA X2 2 K)) := mW_D hD
                          refine W.widen (k := 0) (n := 0) (Nat.le_of_ble_eq_true rfl) (Nat.le_of_ble_eq_true rfl) ?_
                          refine W.eq (g2 := F0 m 112 ls []) rfl ?_
                          obtain ⟨n750, n749⟩ := h745 e327
                          replace n750 := n750.symm
                          subst n750
                          replace n749 := n749.symm
                          subst n749
                          refine lv_aload_n hx hb dX12_attempt_112 rfl (lv_at hl 5 rfl) ?_
                          refine lv_bipush (v := 44) hx hb dX12_attempt_113 (by decide) ?_
                          refine lv_iload_n hx hb dX12_attempt_115 rfl (lv_at hl 2 rfl) ?_
                          refine lv_iload hx hb dX12_attempt_116 (lv_at hl 0 rfl) ?_
                          refine lv_iload hx hb dX12_attempt_118 (lv_at hl 1 rfl) ?_
                          refine lv_iconst (v := (-1)) hx hb dX12_attempt_120 (by decide) ?_
                          have hP : va_P G.1 pCl (mW G h0 a (upd (upd (upd (upd (upd (upd (upd (upd F 15 (nI fa317)) 16 pl740) 27 (nI nd2)) 31 (nI wr2)) 64 (nI at316)) 65 (nI ne)) 66 (nI lk2)) 27 (nI nd2)) (updA X2 2 K)) _ := hP
                          have hD : va_D A (mW G h0 a (upd (upd (upd (upd (upd (upd (upd (upd F 15 (nI fa317)) 16 pl740) 27 (nI nd2)) 31 (nI wr2)) 64 (nI at316)) 65 (nI ne)) 66 (nI lk2)) 27 (nI nd2)) (updA X2 2 K)) := mW_D hD
                          refine pc_V0 (G := G) (As := [.int 44, .int (nI (at299 - 1)), .int (nI at316), .int (nI at316), .int (-1)]) (rest := []) hx hb hml hown hq hE hX pX0_al hP hD hS hA hl.1 (R_nodeB l G h0 a (upd (upd (upd (upd (upd (upd (upd F 15 (nI fa317)) 16 pl740) 27 (nI nd2)) 31 (nI wr2)) 64 (nI at316)) 65 (nI ne)) 66 (nI lk2)) X2 44 (nI (at299 - 1)) (nI at316) (nI at316) (-1) nd2 K (by omega)) (gV pw_1650 pw_1651 pw_1652 pw_1523 pw_1589) hV_X12_node 0 9 rfl rfl rfl rfl (Nat.le_of_ble_eq_true rfl) dX12_attempt_121 ⟨Nat.le_of_ble_eq_true rfl, Nat.le_of_ble_eq_true rfl⟩ ⟨(by show 2 + 1 ≤ (26 * n + 43); omega), (by show 8 + (7 + 11) + 60 ≤ (2000 * n + 4300); omega)⟩ (fun v753 u751 H locs hw752 hP hD hS => ?_)
                          obtain ⟨X754, rfl⟩ : ∃ z, z = u751 := ⟨_, rfl⟩
                          obtain ⟨hw752, h755⟩ := hw752
                          have h755 : NewN X2 X754 nd2 44 (nI (at299 - 1)) (nI at316) (nI at316) (-1) := h755
                          obtain rfl : v753 = some (.int (nI nd2)) := hw752
                          have hP : va_P G.1 pCl (mW G h0 a (upd (upd (upd (upd (upd (upd (upd F 15 (nI fa317)) 16 pl740) 27 (nI (nd2 + 1))) 31 (nI wr2)) 64 (nI at316)) 65 (nI ne)) 66 (nI lk2)) (updA X754 2 K)) _ := mW_to (F := F) (l1 := [(15, (nI fa317)), (16, pl740), (27, (nI nd2)), (31, (nI wr2)), (64, (nI at316)), (65, (nI ne)), (66, (nI lk2)), (27, (nI (nd2 + 1)))]) (l2 := [(15, (nI fa317)), (16, pl740), (27, (nI (nd2 + 1))), (31, (nI wr2)), (64, (nI at316)), (65, (nI ne)), (66, (nI lk2))]) (V := [(nI fa317), pl740, (nI (nd2 + 1)), (nI wr2), (nI at316), (nI ne), (nI lk2), (nI (nd2 + 1)), (nI fa317), pl740, (nI (nd2 + 1)), (nI wr2), (nI at316), (nI ne), (nI lk2)]) rfl rfl rfl hP
                          have hD : va_D A (mW G h0 a (upd (upd (upd (upd (upd (upd (upd F 15 (nI fa317)) 16 pl740) 27 (nI (nd2 + 1))) 31 (nI wr2)) 64 (nI at316)) 65 (nI ne)) 66 (nI lk2)) (updA X754 2 K)) := mW_D hD
                          refine W.widen (k := 0) (n := 0) (Nat.le_of_ble_eq_true rfl) (Nat.le_of_ble_eq_true rfl) ?_
                          refine W.eq (g2 := F0 m 124 ls [.int (nI nd2)]) rfl ?_
                          have hkp756 : Kp B X754 wr2 T := (Kp.new hkp2 h755)
                          refine lv_istore (lv' := [(6, .int (nI nd2)), (5, .int (nI at316)), (4, .int (nI at316)), (3, .int (nI (at299 - 1))), (2, .int (nI la)), (1, .int (nI nd)), (0, .ref h0)]) hx hb dX12_attempt_124 hl (by decide) rfl (fun ls hl => ?_)
                          refine lv_aload_n hx hb dX12_attempt_126 rfl (lv_at hl 6 rfl) ?_
                          refine r_get (v := .ref (a 13)) hx hb hown hq hE hP 21 50 tFX12_21 (by decide) pw_1443 rfl dX12_attempt_127 ?_
                          refine lv_iload hx hb dX12_attempt_130 (lv_at hl 0 rfl) ?_
                          refine lv_aload_n hx hb dX12_attempt_132 rfl (lv_at hl 6 rfl) ?_
                          have hP : va_P G.1 pCl (mW G h0 a (upd (upd (upd (upd (upd (upd (upd (upd (upd (upd (upd F 15 (nI fa317)) 16 pl740) 27 (nI (nd2 + 1))) 31 (nI wr2)) 64 (nI at316)) 65 (nI ne)) 66 (nI lk2)) 15 (nI fa317)) 27 (nI (nd2 + 1))) 31 (nI wr2)) 64 (nI at316)) (updA X754 2 K)) _ := mW_to (F := F) (l1 := [(15, (nI fa317)), (16, pl740), (27, (nI (nd2 + 1))), (31, (nI wr2)), (64, (nI at316)), (65, (nI ne)), (66, (nI lk2))]) (l2 := [(15, (nI fa317)), (16, pl740), (27, (nI (nd2 + 1))), (31, (nI wr2)), (64, (nI at316)), (65, (nI ne)), (66, (nI lk2)), (15, (nI fa317)), (27, (nI (nd2 + 1))), (31, (nI wr2)), (64, (nI at316))]) (V := [(nI fa317), pl740, (nI (nd2 + 1)), (nI wr2), (nI at316), (nI ne), (nI lk2), (nI fa317), pl740, (nI (nd2 + 1)), (nI wr2), (nI at316), (nI ne), (nI lk2), (nI fa317), (nI (nd2 + 1)), (nI wr2), (nI at316)]) rfl rfl rfl hP
                          have hD : va_D A (mW G h0 a (upd (upd (upd (upd (upd (upd (upd (upd (upd (upd (upd F 15 (nI fa317)) 16 pl740) 27 (nI (nd2 + 1))) 31 (nI wr2)) 64 (nI at316)) 65 (nI ne)) 66 (nI lk2)) 15 (nI fa317)) 27 (nI (nd2 + 1))) 31 (nI wr2)) 64 (nI at316)) (updA X754 2 K)) := mW_D hD
                          refine pc_V0 (G := G) (As := []) (rest := [.int (nI nd2), .ref (a 13)]) hx hb hml hown hq hE hX pX0_al hP hD hS hA hl.1 (RF_block l G h0 a (upd (upd (upd (upd (upd (upd (upd F 15 (nI fa317)) 16 pl740) 27 (nI (nd2 + 1))) 31 (nI wr2)) 64 (nI at316)) 65 (nI ne)) 66 (nI lk2)) X754 at316 T fa317 (nd2 + 1) wr2 K (by omega) (by omega) hK (by omega) e327 (by omega) (by omega) (hkp756).2) (gV pw_1685 pw_1686 pw_1687 pw_1523 pw_1688) hV_X12_block 0 9 rfl rfl rfl rfl (Nat.le_of_ble_eq_true rfl) dX12_attempt_133 ⟨Nat.le_of_ble_eq_true rfl, Nat.le_of_ble_eq_true rfl⟩ ⟨(by show 5 + 1 ≤ (26 * n + 43); omega), (by show 8 + (4 + 11) + 124 ≤ (2000 * n + 4300); omega)⟩ (fun v759 u757 H locs hw758 hP hD hS => ?_)
                          obtain ⟨pl760, wr761, X762⟩ := u757
                          obtain ⟨hw758, h763, h764, h765⟩ := hw758
                          have h763 : wr2 ≤ wr761 := h763
                          have h764 : wr761 ≤ wr2 := h764
                          have h765 : Kp X754 X762 wr761 T := h765
                          obtain rfl : v759 = some (.int (nI (nd2 + 1))) := hw758
                          have hP : va_P G.1 pCl (mW G h0 a (upd (upd (upd (upd (upd (upd (upd F 15 (nI fa317)) 16 pl760) 27 (nI ((nd2 + 1) + 1))) 31 (nI wr761)) 64 (nI at316)) 65 (nI ne)) 66 (nI lk2)) (updA X762 2 K)) _ := mW_to (F := F) (l1 := [(15, (nI fa317)), (16, pl740), (27, (nI (nd2 + 1))), (31, (nI wr2)), (64, (nI at316)), (65, (nI ne)), (66, (nI lk2)), (15, (nI fa317)), (16, pl760), (27, (nI ((nd2 + 1) + 1))), (31, (nI wr761)), (64, (nI at316))]) (l2 := [(15, (nI fa317)), (16, pl760), (27, (nI ((nd2 + 1) + 1))), (31, (nI wr761)), (64, (nI at316)), (65, (nI ne)), (66, (nI lk2))]) (V := [(nI fa317), pl760, (nI ((nd2 + 1) + 1)), (nI wr761), (nI at316), (nI ne), (nI lk2), (nI fa317), pl760, (nI ((nd2 + 1) + 1)), (nI wr761), (nI at316), (nI fa317), pl760, (nI ((nd2 + 1) + 1)), (nI wr761), (nI at316), (nI ne), (nI lk2)]) rfl rfl rfl hP
                          have hD : va_D A (mW G h0 a (upd (upd (upd (upd (upd (upd (upd F 15 (nI fa317)) 16 pl760) 27 (nI ((nd2 + 1) + 1))) 31 (nI wr761)) 64 (nI at316)) 65 (nI ne)) 66 (nI lk2)) (updA X762 2 K)) := mW_D hD
                          refine W.widen (k := 0) (n := 0) (Nat.le_of_ble_eq_true rfl) (Nat.le_of_ble_eq_true rfl) ?_
                          refine W.eq (g2 := F0 m 136 ls [.int (nI (nd2 + 1)), .int (nI nd2), .ref (a 13)]) rfl ?_
                          have hkp766 : Kp B X762 wr761 T := (Kp.trans hkp756 h765)
                          refine r_sti (f := (X762 13)) (j := nd2) hx hb hE hP hD hS 13 (ma_13 G a _) rfl (mas_13 G a _) (by omega) (by decide) dX12_attempt_136 (fun H locs hP hD hS => ?_)
                          have hP : va_P G.1 pCl (mW G h0 a (upd (upd (upd (upd (upd (upd (upd F 15 (nI fa317)) 16 pl760) 27 (nI ((nd2 + 1) + 1))) 31 (nI wr761)) 64 (nI at316)) 65 (nI ne)) 66 (nI lk2)) (updA (stR X762 13 nd2 (nI (nd2 + 1))) 2 K)) _ := mW_to (F := F) (l1 := [(15, (nI fa317)), (16, pl760), (27, (nI ((nd2 + 1) + 1))), (31, (nI wr761)), (64, (nI at316)), (65, (nI ne)), (66, (nI lk2))]) (l2 := [(15, (nI fa317)), (16, pl760), (27, (nI ((nd2 + 1) + 1))), (31, (nI wr761)), (64, (nI at316)), (65, (nI ne)), (66, (nI lk2))]) (V := [(nI fa317), pl760, (nI ((nd2 + 1) + 1)), (nI wr761), (nI at316), (nI ne), (nI lk2), (nI fa317), pl760, (nI ((nd2 + 1) + 1)), (nI wr761), (nI at316), (nI ne), (nI lk2)]) rfl rfl (show (updA (updA X762 2 K) 13 (upd (X762 13) nd2 (nI (nd2 + 1)))) = (updA (stR X762 13 nd2 (nI (nd2 + 1))) 2 K) from updsA_eq2 (F := X762) (l1 := [(2, K), (13, (upd (X762 13) nd2 (nI (nd2 + 1))))]) (l2 := [(13, (upd (X762 13) nd2 (nI (nd2 + 1)))), (2, K)]) (V := [K, (upd (X762 13) nd2 (nI (nd2 + 1))), (upd (X762 13) nd2 (nI (nd2 + 1))), K]) rfl rfl) hP
                          have hD : va_D A (mW G h0 a (upd (upd (upd (upd (upd (upd (upd F 15 (nI fa317)) 16 pl760) 27 (nI ((nd2 + 1) + 1))) 31 (nI wr761)) 64 (nI at316)) 65 (nI ne)) 66 (nI lk2)) (updA (stR X762 13 nd2 (nI (nd2 + 1))) 2 K)) := mW_D hD
                          have hkp767 : Kp B (stR X762 13 nd2 (nI (nd2 + 1))) wr761 T := (Kp.row hkp766 (by omega))
                          refine lv_iload_n hx hb dX12_attempt_137 rfl (lv_at hl 4 rfl) ?_
                          refine lv_iconst (v := (-1)) hx hb dX12_attempt_138 (by decide) ?_
                          refine lv_icmp_ne (tgt := 153) hx hb dX12_attempt_139 (by decide) (fun c768 => ?_) (fun c768 => absurd c768 (nI_m1 (by omega)))
                          refine lv_aload_n hx hb dX12_attempt_153 rfl (lv_at hl 6 rfl) ?_
                          refine r_get (v := .ref (a 16)) hx hb hown hq hE hP 24 59 tFX12_24 (by decide) pw_1446 rfl dX12_attempt_154 ?_
                          refine lv_iload_n hx hb dX12_attempt_157 rfl (lv_at hl 4 rfl) ?_
                          refine lv_iload hx hb dX12_attempt_158 (lv_at hl 0 rfl) ?_
                          refine r_sti (f := ((stR X762 13 nd2 (nI (nd2 + 1))) 16)) (j := la) hx hb hE hP hD hS 16 (ma_16 G a _) rfl (mas_16 G a _) (by omega) (by decide) dX12_attempt_160 (fun H locs hP hD hS => ?_)
                          have hP : va_P G.1 pCl (mW G h0 a (upd (upd (upd (upd (upd (upd (upd F 15 (nI fa317)) 16 pl760) 27 (nI ((nd2 + 1) + 1))) 31 (nI wr761)) 64 (nI at316)) 65 (nI ne)) 66 (nI lk2)) (updA (stR (stR X762 13 nd2 (nI (nd2 + 1))) 16 la (nI nd2)) 2 K)) _ := mW_to (F := F) (l1 := [(15, (nI fa317)), (16, pl760), (27, (nI ((nd2 + 1) + 1))), (31, (nI wr761)), (64, (nI at316)), (65, (nI ne)), (66, (nI lk2))]) (l2 := [(15, (nI fa317)), (16, pl760), (27, (nI ((nd2 + 1) + 1))), (31, (nI wr761)), (64, (nI at316)), (65, (nI ne)), (66, (nI lk2))]) (V := [(nI fa317), pl760, (nI ((nd2 + 1) + 1)), (nI wr761), (nI at316), (nI ne), (nI lk2), (nI fa317), pl760, (nI ((nd2 + 1) + 1)), (nI wr761), (nI at316), (nI ne), (nI lk2)]) rfl rfl (show (updA (updA (stR X762 13 nd2 (nI (nd2 + 1))) 2 K) 16 (upd ((stR X762 13 nd2 (nI (nd2 + 1))) 16) la (nI nd2))) = (updA (stR (stR X762 13 nd2 (nI (nd2 + 1))) 16 la (nI nd2)) 2 K) from updsA_eq2 (F := X762) (l1 := [(13, (upd (X762 13) nd2 (nI (nd2 + 1)))), (2, K), (16, (upd ((stR X762 13 nd2 (nI (nd2 + 1))) 16) la (nI nd2)))]) (l2 := [(13, (upd (X762 13) nd2 (nI (nd2 + 1)))), (16, (upd ((stR X762 13 nd2 (nI (nd2 + 1))) 16) la (nI nd2))), (2, K)]) (V := [(upd (X762 13) nd2 (nI (nd2 + 1))), K, (upd ((stR X762 13 nd2 (nI (nd2 + 1))) 16) la (nI nd2)), (upd (X762 13) nd2 (nI (nd2 + 1))), (upd ((stR X762 13 nd2 (nI (nd2 + 1))) 16) la (nI nd2)), K]) rfl rfl) hP
                          have hD : va_D A (mW G h0 a (upd (upd (upd (upd (upd (upd (upd F 15 (nI fa317)) 16 pl760) 27 (nI ((nd2 + 1) + 1))) 31 (nI wr761)) 64 (nI at316)) 65 (nI ne)) 66 (nI lk2)) (updA (stR (stR X762 13 nd2 (nI (nd2 + 1))) 16 la (nI nd2)) 2 K)) := mW_D hD
                          have hkp769 : Kp B (stR (stR X762 13 nd2 (nI (nd2 + 1))) 16 la (nI nd2)) wr761 T := (Kp.row hkp767 (by omega))
                          refine lv_iload hx hb dX12_attempt_161 (lv_at hl 0 rfl) ?_
                          refine lv_istore_n (lv' := [(2, .int (nI nd2)), (6, .int (nI nd2)), (5, .int (nI at316)), (4, .int (nI at316)), (3, .int (nI (at299 - 1))), (1, .int (nI nd)), (0, .ref h0)]) hx hb dX12_attempt_163 rfl hl (by decide) rfl (fun ls hl => ?_)
                          refine lv_goto (tgt := 71) hx hb dX12_attempt_164 (by decide) ?_
                          refine lv_aload_n hx hb dX12_attempt_71 rfl (lv_at hl 6 rfl) ?_
                          refine lv_sipush (v := 313) hx hb dX12_attempt_72 (by decide) ?_
                          have hP : va_P G.1 pCl (mW G h0 a (upd (upd (upd (upd (upd (upd (upd (upd (upd F 15 (nI fa317)) 16 pl760) 27 (nI ((nd2 + 1) + 1))) 31 (nI wr761)) 64 (nI at316)) 65 (nI ne)) 66 (nI lk2)) 15 (nI fa317)) 64 (nI at316)) (updA (updA (stR (stR X762 13 nd2 (nI (nd2 + 1))) 16 la (nI nd2)) 2 K) 2 K)) _ := mW_to (F := F) (l1 := [(15, (nI fa317)), (16, pl760), (27, (nI ((nd2 + 1) + 1))), (31, (nI wr761)), (64, (nI at316)), (65, (nI ne)), (66, (nI lk2))]) (l2 := [(15, (nI fa317)), (16, pl760), (27, (nI ((nd2 + 1) + 1))), (31, (nI wr761)), (64, (nI at316)), (65, (nI ne)), (66, (nI lk2)), (15, (nI fa317)), (64, (nI at316))]) (V := [(nI fa317), pl760, (nI ((nd2 + 1) + 1)), (nI wr761), (nI at316), (nI ne), (nI lk2), (nI fa317), pl760, (nI ((nd2 + 1) + 1)), (nI wr761), (nI at316), (nI ne), (nI lk2), (nI fa317), (nI at316)]) rfl rfl (show (updA (stR (stR X762 13 nd2 (nI (nd2 + 1))) 16 la (nI nd2)) 2 K) = (updA (updA (stR (stR X762 13 nd2 (nI (nd2 + 1))) 16 la (nI nd2)) 2 K) 2 K) from updsA_eq2 (F := X762) (l1 := [(13, (upd (X762 13) nd2 (nI (nd2 + 1)))), (16, (upd ((stR X762 13 nd2 (nI (nd2 + 1))) 16) la (nI nd2))), (2, K)]) (l2 := [(13, (upd (X762 13) nd2 (nI (nd2 + 1)))), (16, (upd ((stR X762 13 nd2 (nI (nd2 + 1))) 16) la (nI nd2))), (2, K), (2, K)]) (V := [(upd (X762 13) nd2 (nI (nd2 + 1))), (upd ((stR X762 13 nd2 (nI (nd2 + 1))) 16) la (nI nd2)), K, (upd (X762 13) nd2 (nI (nd2 + 1))), (upd ((stR X762 13 nd2 (nI (nd2 + 1))) 16) la (nI nd2)), K, K]) rfl rfl) hP
                          have hD : va_D A (mW G h0 a (upd (upd (upd (upd (upd (upd (upd (upd (upd F 15 (nI fa317)) 16 pl760) 27 (nI ((nd2 + 1) + 1))) 31 (nI wr761)) 64 (nI at316)) 65 (nI ne)) 66 (nI lk2)) 15 (nI fa317)) 64 (nI at316)) (updA (updA (stR (stR X762 13 nd2 (nI (nd2 + 1))) 16 la (nI nd2)) 2 K) 2 K)) := mW_D hD
                          refine pc_V0 (G := G) (As := [.int 313]) (rest := []) hx hb hml hown hq hE hX pX0_al hP hD hS hA hl.1 (R_may l G h0 a (upd (upd (upd (upd (upd (upd (upd F 15 (nI fa317)) 16 pl760) 27 (nI ((nd2 + 1) + 1))) 31 (nI wr761)) 64 (nI at316)) 65 (nI ne)) 66 (nI lk2)) (updA (stR (stR X762 13 nd2 (nI (nd2 + 1))) 16 la (nI nd2)) 2 K) at316 T fa317 K 313 (by omega) (by omega) hK (by omega) (by decide) (by decide)) (gV pw_1621 pw_1622 pw_1623 pw_1523 pw_1605) hV_X12_may 0 9 rfl rfl rfl rfl (Nat.le_of_ble_eq_true rfl) dX12_attempt_75 ⟨Nat.le_of_ble_eq_true rfl, Nat.le_of_ble_eq_true rfl⟩ ⟨(by show 3 + 1 ≤ (26 * n + 43); omega), (by show 8 + (3 + 11) + 81 ≤ (2000 * n + 4300); omega)⟩ (fun v772 u770 H locs hw771 hP hD hS => ?_)
                          obtain ⟨at773, r774⟩ := u770
                          obtain ⟨hw771, h775, h776, h777, h778, h779, h780⟩ := hw771
                          have h775 : r774 ≤ 1 := h775
                          have h776 : fa317 + 100 * r774 ≤ 100 := h776
                          have h777 : at773 = at316 + r774 := h777
                          have h778 : at773 ≤ T := h778
                          have h779 : If (r774 = 1) (K at316 = 313) := h779
                          have h780 : If (r774 = 0) (fa317 = 0 → ¬ K at316 = 313) := h780
                          obtain rfl : v772 = some (.int (nI r774)) := hw771
                          have hP : va_P G.1 pCl (mW G h0 a (upd (upd (upd (upd (upd (upd (upd F 15 (nI fa317)) 16 pl760) 27 (nI ((nd2 + 1) + 1))) 31 (nI wr761)) 64 (nI at773)) 65 (nI ne)) 66 (nI lk2)) (updA (stR (stR X762 13 nd2 (nI (nd2 + 1))) 16 la (nI nd2)) 2 K)) _ := mW_to (F := F) (l1 := [(15, (nI fa317)), (16, pl760), (27, (nI ((nd2 + 1) + 1))), (31, (nI wr761)), (64, (nI at316)), (65, (nI ne)), (66, (nI lk2)), (15, (nI fa317)), (64, (nI at773))]) (l2 := [(15, (nI fa317)), (16, pl760), (27, (nI ((nd2 + 1) + 1))), (31, (nI wr761)), (64, (nI at773)), (65, (nI ne)), (66, (nI lk2))]) (V := [(nI fa317), pl760, (nI ((nd2 + 1) + 1)), (nI wr761), (nI at773), (nI ne), (nI lk2), (nI fa317), (nI at773), (nI fa317), pl760, (nI ((nd2 + 1) + 1)), (nI wr761), (nI at773), (nI ne), (nI lk2)]) rfl rfl (show (updA (updA (stR (stR X762 13 nd2 (nI (nd2 + 1))) 16 la (nI nd2)) 2 K) 2 K) = (updA (stR (stR X762 13 nd2 (nI (nd2 + 1))) 16 la (nI nd2)) 2 K) from updsA_eq2 (F := X762) (l1 := [(13, (upd (X762 13) nd2 (nI (nd2 + 1)))), (16, (upd ((stR X762 13 nd2 (nI (nd2 + 1))) 16) la (nI nd2))), (2, K), (2, K)]) (l2 := [(13, (upd (X762 13) nd2 (nI (nd2 + 1)))), (16, (upd ((stR X762 13 nd2 (nI (nd2 + 1))) 16) la (nI nd2))), (2, K)]) (V := [(upd (X762 13) nd2 (nI (nd2 + 1))), (upd ((stR X762 13 nd2 (nI (nd2 + 1))) 16) la (nI nd2)), K, K, (upd (X762 13) nd2 (nI (nd2 + 1))), (upd ((stR X762 13 nd2 (nI (nd2 + 1))) 16) la (nI nd2)), K]) rfl rfl) hP
                          have hD : va_D A (mW G h0 a (upd (upd (upd (upd (upd (upd (upd F 15 (nI fa317)) 16 pl760) 27 (nI ((nd2 + 1) + 1))) 31 (nI wr761)) 64 (nI at773)) 65 (nI ne)) 66 (nI lk2)) (updA (stR (stR X762 13 nd2 (nI (nd2 + 1))) 16 la (nI nd2)) 2 K)) := mW_D hD
                          refine W.widen (k := 0) (n := 0) (Nat.le_of_ble_eq_true rfl) (Nat.le_of_ble_eq_true rfl) ?_
                          refine W.eq (g2 := F0 m 78 ls [.int (nI r774)]) rfl ?_
                          obtain rfl : at316 = at773 := (by omega)
                          refine lv_if_eq (tgt := 167) hx hb dX12_attempt_78 (by decide) (fun c781 => ?_) (fun c781 => (by have n782 : ¬ (r774 = 0) := fun h9 => c781 ((nI_eq (a := r774) (b := 0) (by omega) (by omega)).mpr h9); omega))
                          refine lv_aload_n hx hb dX12_attempt_167 rfl (lv_at hl 6 rfl) ?_
                          refine lv_sipush (v := 319) hx hb dX12_attempt_168 (by decide) ?_
                          have hP : va_P G.1 pCl (mW G h0 a (upd (upd (upd (upd (upd (upd (upd (upd (upd F 15 (nI fa317)) 16 pl760) 27 (nI ((nd2 + 1) + 1))) 31 (nI wr761)) 64 (nI at316)) 65 (nI ne)) 66 (nI lk2)) 15 (nI fa317)) 64 (nI at316)) (updA (updA (stR (stR X762 13 nd2 (nI (nd2 + 1))) 16 la (nI nd2)) 2 K) 2 K)) _ := hP
                          have hD : va_D A (mW G h0 a (upd (upd (upd (upd (upd (upd (upd (upd (upd F 15 (nI fa317)) 16 pl760) 27 (nI ((nd2 + 1) + 1))) 31 (nI wr761)) 64 (nI at316)) 65 (nI ne)) 66 (nI lk2)) 15 (nI fa317)) 64 (nI at316)) (updA (updA (stR (stR X762 13 nd2 (nI (nd2 + 1))) 16 la (nI nd2)) 2 K) 2 K)) := mW_D hD
                          refine pc_V0 (G := G) (As := [.int 319]) (rest := []) hx hb hml hown hq hE hX pX0_al hP hD hS hA hl.1 (R_may l G h0 a (upd (upd (upd (upd (upd (upd (upd F 15 (nI fa317)) 16 pl760) 27 (nI ((nd2 + 1) + 1))) 31 (nI wr761)) 64 (nI at316)) 65 (nI ne)) 66 (nI lk2)) (updA (stR (stR X762 13 nd2 (nI (nd2 + 1))) 16 la (nI nd2)) 2 K) at316 T fa317 K 319 (by omega) (by omega) hK (by omega) (by decide) (by decide)) (gV pw_1621 pw_1622 pw_1623 pw_1523 pw_1605) hV_X12_may 0 9 rfl rfl rfl rfl (Nat.le_of_ble_eq_true rfl) dX12_attempt_171 ⟨Nat.le_of_ble_eq_true rfl, Nat.le_of_ble_eq_true rfl⟩ ⟨(by show 3 + 1 ≤ (26 * n + 43); omega), (by show 8 + (3 + 11) + 81 ≤ (2000 * n + 4300); omega)⟩ (fun v785 u783 H locs hw784 hP hD hS => ?_)
                          obtain ⟨at786, r787⟩ := u783
                          obtain ⟨hw784, h788, h789, h790, h791, h792, h793⟩ := hw784
                          have h788 : r787 ≤ 1 := h788
                          have h789 : fa317 + 100 * r787 ≤ 100 := h789
                          have h790 : at786 = at316 + r787 := h790
                          have h791 : at786 ≤ T := h791
                          have h792 : If (r787 = 1) (K at316 = 319) := h792
                          have h793 : If (r787 = 0) (fa317 = 0 → ¬ K at316 = 319) := h793
                          obtain rfl : v785 = some (.int (nI r787)) := hw784
                          have hP : va_P G.1 pCl (mW G h0 a (upd (upd (upd (upd (upd (upd (upd F 15 (nI fa317)) 16 pl760) 27 (nI ((nd2 + 1) + 1))) 31 (nI wr761)) 64 (nI at786)) 65 (nI ne)) 66 (nI lk2)) (updA (stR (stR X762 13 nd2 (nI (nd2 + 1))) 16 la (nI nd2)) 2 K)) _ := mW_to (F := F) (l1 := [(15, (nI fa317)), (16, pl760), (27, (nI ((nd2 + 1) + 1))), (31, (nI wr761)), (64, (nI at316)), (65, (nI ne)), (66, (nI lk2)), (15, (nI fa317)), (64, (nI at786))]) (l2 := [(15, (nI fa317)), (16, pl760), (27, (nI ((nd2 + 1) + 1))), (31, (nI wr761)), (64, (nI at786)), (65, (nI ne)), (66, (nI lk2))]) (V := [(nI fa317), pl760, (nI ((nd2 + 1) + 1)), (nI wr761), (nI at786), (nI ne), (nI lk2), (nI fa317), (nI at786), (nI fa317), pl760, (nI ((nd2 + 1) + 1)), (nI wr761), (nI at786), (nI ne), (nI lk2)]) rfl rfl (show (updA (updA (stR (stR X762 13 nd2 (nI (nd2 + 1))) 16 la (nI nd2)) 2 K) 2 K) = (updA (stR (stR X762 13 nd2 (nI (nd2 + 1))) 16 la (nI nd2)) 2 K) from updsA_eq2 (F := X762) (l1 := [(13, (upd (X762 13) nd2 (nI (nd2 + 1)))), (16, (upd ((stR X762 13 nd2 (nI (nd2 + 1))) 16) la (nI nd2))), (2, K), (2, K)]) (l2 := [(13, (upd (X762 13) nd2 (nI (nd2 + 1)))), (16, (upd ((stR X762 13 nd2 (nI (nd2 + 1))) 16) la (nI nd2))), (2, K)]) (V := [(upd (X762 13) nd2 (nI (nd2 + 1))), (upd ((stR X762 13 nd2 (nI (nd2 + 1))) 16) la (nI nd2)), K, K, (upd (X762 13) nd2 (nI (nd2 + 1))), (upd ((stR X762 13 nd2 (nI (nd2 + 1))) 16) la (nI nd2)), K]) rfl rfl) hP
                          have hD : va_D A (mW G h0 a (upd (upd (upd (upd (upd (upd (upd F 15 (nI fa317)) 16 pl760) 27 (nI ((nd2 + 1) + 1))) 31 (nI wr761)) 64 (nI at786)) 65 (nI ne)) 66 (nI lk2)) (updA (stR (stR X762 13 nd2 (nI (nd2 + 1))) 16 la (nI nd2)) 2 K)) := mW_D hD
                          refine W.widen (k := 0) (n := 0) (Nat.le_of_ble_eq_true rfl) (Nat.le_of_ble_eq_true rfl) ?_
                          refine W.eq (g2 := F0 m 174 ls [.int (nI r787)]) rfl ?_
                          obtain rfl : at316 = at786 := (by omega)
                          refine lv_if_eq (tgt := 187) hx hb dX12_attempt_174 (by decide) (fun c794 => ?_) (fun c794 => (by have n795 : ¬ (r787 = 0) := fun h9 => c794 ((nI_eq (a := r787) (b := 0) (by omega) (by omega)).mpr h9); omega))
                          refine lv_iload_n hx hb dX12_attempt_187 rfl (lv_at hl 5 rfl) ?_
                          have hz796 : at0 ≤ at316 := (by omega)
                          have hz797 : at316 ≤ T := (by omega)
                          have hz798 : fa317 ≤ 100 := (by omega)
                          have hz799 : nd ≤ ((nd2 + 1) + 1) := (by omega)
                          have hz800 : ((nd2 + 1) + 1) + 2 * at0 ≤ nd + 2 * at316 + 100000 * fa317 := (by omega)
                          have hz801 : ((nd2 + 1) + 1) + 2 * at0 ≤ nd + 2 * at316 + (60 * (21 - ne) + 40) := (by omega)
                          have hz802 : wr ≤ wr761 := (by omega)
                          have hz803 : wr761 + at0 ≤ wr + at316 := (by omega)
                          have hz804 : lk ≤ lk2 := (by omega)
                          have hz805 : lk2 ≤ 60 + 100 * fa317 := (by omega)
                          have hz806 : at0 + 1 ≤ at316 + fa317 := (by omega)
                          have hz807 : nd ≤ ((nd2 + 1) + 1) := (by omega)
                          have hz808 : Kp B (stR (stR X762 13 nd2 (nI (nd2 + 1))) 16 la (nI nd2)) wr761 T := hkp769
                          have hz809 : If (fa317 = 0) (Low B (stR (stR X762 13 nd2 (nI (nd2 + 1))) 16 la (nI nd2)) nd wr ∧ Frs K T wr761 (stR (stR X762 13 nd2 (nI (nd2 + 1))) 16 la (nI nd2)) nd ((nd2 + 1) + 1) 20000 [(nd, (280 + 4 * (21 - ne)))] ∧ kcl 3 ((stR (stR X762 13 nd2 (nI (nd2 + 1))) 16 la (nI nd2)) 9 nd) = true) := (fun e => absurd e (by omega))
                          have hP : va_P G.1 pCl (mW G h0 a (upd (upd (upd (upd (upd (upd (upd F 15 (nI fa317)) 16 pl760) 27 (nI ((nd2 + 1) + 1))) 31 (nI wr761)) 64 (nI at316)) 65 (nI ne)) 66 (nI lk2)) (updA (stR (stR X762 13 nd2 (nI (nd2 + 1))) 16 la (nI nd2)) 2 K)) _ := hP
                          have hD : va_D A (mW G h0 a (upd (upd (upd (upd (upd (upd (upd F 15 (nI fa317)) 16 pl760) 27 (nI ((nd2 + 1) + 1))) 31 (nI wr761)) 64 (nI at316)) 65 (nI ne)) 66 (nI lk2)) (updA (stR (stR X762 13 nd2 (nI (nd2 + 1))) 16 la (nI nd2)) 2 K)) := mW_D hD
                          exact W.iret (v := (nI nd)) hx hb hr (fun t9 ht9 hW9 => ⟨⟨_, (at316, fa317, pl760, ((nd2 + 1) + 1), lk2, wr761, nd, (stR (stR X762 13 nd2 (nI (nd2 + 1))) 16 la (nI nd2))), rfl, ⟨rfl, hz796, hz797, hz798, hz799, hz800, hz801, hz802, hz803, hz804, hz805, hz806, hz807, hz808, hz809⟩, by rw [ht9]; exact hP, hD⟩, hS.F ht9⟩) hS.2.2 dX12_attempt_188
                  have hP : va_P G.1 pCl (mW G h0 a (upd (upd (upd (upd (upd (upd (upd F 15 0) 16 pl249) 27 (nI nd250)) 31 (nI wr252)) 64 (nI at247)) 65 (nI ne)) 66 (nI lk251)) (updA (stR (stR X254 13 nd20 (nI r253)) 13 nd (nI nd20)) 2 K)) _ := hP
                  have hD : va_D A (mW G h0 a (upd (upd (upd (upd (upd (upd (upd F 15 0) 16 pl249) 27 (nI nd250)) 31 (nI wr252)) 64 (nI at247)) 65 (nI ne)) 66 (nI lk251)) (updA (stR (stR X254 13 nd20 (nI r253)) 13 nd (nI nd20)) 2 K)) := mW_D hD
                  exact loop_o (T + 1) at247 nd250 wr252 lk251 pl249 (stR (stR X254 13 nd20 (nI r253)) 13 nd (nI nd20)) nd20 (nI r23) (nI nd20) _ _ _ (by omega) (by omega) (by omega) (by omega) (by omega) (by omega) (by omega) (by omega) (by omega) (by omega) (by omega) hkp290 hlo291 hf295 hn293 hP hD hS (lv_sub hl [0, 5, 6] rfl)
                · have e270 := e270
                  refine r_sti (f := (X254 13)) (j := nd20) hx hb hE hP hD hS 13 (ma_13 G a _) rfl (mas_13 G a _) (by omega) (by decide) dX12_attempt_136 (fun H locs hP hD hS => ?_)
                  have hP : va_P G.1 pCl (mW G h0 a (upd (upd (upd (upd (upd (upd (upd F 15 (nI fa248)) 16 pl249) 27 (nI nd250)) 31 (nI wr252)) 64 (nI at247)) 65 (nI ne)) 66 (nI lk251)) (updA (stR X254 13 nd20 (nI r253)) 2 K)) _ := mW_to (F := F) (l1 := [(15, (nI fa248)), (16, pl249), (27, (nI nd250)), (31, (nI wr252)), (64, (nI at247)), (65, (nI ne)), (66, (nI lk251))]) (l2 := [(15, (nI fa248)), (16, pl249), (27, (nI nd250)), (31, (nI wr252)), (64, (nI at247)), (65, (nI ne)), (66, (nI lk251))]) (V := [(nI fa248), pl249, (nI nd250), (nI wr252), (nI at247), (nI ne), (nI lk251), (nI fa248), pl249, (nI nd250), (nI wr252), (nI at247), (nI ne), (nI lk251)]) rfl rfl (show (updA (updA X254 2 K) 13 (upd (X254 13) nd20 (nI r253))) = (updA (stR X254 13 nd20 (nI r253)) 2 K) from updsA_eq2 (F := X254) (l1 := [(2, K), (13, (upd (X254 13) nd20 (nI r253)))]) (l2 := [(13, (upd (X254 13) nd20 (nI r253))), (2, K)]) (V := [K, (upd (X254 13) nd20 (nI r253)), (upd (X254 13) nd20 (nI r253)), K]) rfl rfl) hP
                  have hD : va_D A (mW G h0 a (upd (upd (upd (upd (upd (upd (upd F 15 (nI fa248)) 16 pl249) 27 (nI nd250)) 31 (nI wr252)) 64 (nI at247)) 65 (nI ne)) 66 (nI lk251)) (updA (stR X254 13 nd20 (nI r253)) 2 K)) := mW_D hD
                  have hkp810 : Kp B (stR X254 13 nd20 (nI r253)) wr252 T := (Kp.row hkp269 (by omega))
                  refine lv_iload_n hx hb dX12_attempt_137 rfl (lv_at hl 4 rfl) ?_
                  refine lv_iconst (v := (-1)) hx hb dX12_attempt_138 (by decide) ?_
                  refine lv_icmp_ne (tgt := 153) hx hb dX12_attempt_139 (by decide) (fun c811 => absurd c811 (by decide)) (fun c811 => ?_)
                  refine lv_aload_n hx hb dX12_attempt_142 rfl (lv_at hl 6 rfl) ?_
                  refine r_get (v := .ref (a 13)) hx hb hown hq hE hP 21 50 tFX12_21 (by decide) pw_1443 rfl dX12_attempt_143 ?_
                  refine lv_iload_n hx hb dX12_attempt_146 rfl (lv_at hl 5 rfl) ?_
                  refine lv_iload hx hb dX12_attempt_147 (lv_at hl 0 rfl) ?_
                  refine r_sti (f := ((stR X254 13 nd20 (nI r253)) 13)) (j := nd) hx hb hE hP hD hS 13 (ma_13 G a _) rfl (mas_13 G a _) (by omega) (by decide) dX12_attempt_149 (fun H locs hP hD hS => ?_)
                  have hP : va_P G.1 pCl (mW G h0 a (upd (upd (upd (upd (upd (upd (upd F 15 (nI fa248)) 16 pl249) 27 (nI nd250)) 31 (nI wr252)) 64 (nI at247)) 65 (nI ne)) 66 (nI lk251)) (updA (stR (stR X254 13 nd20 (nI r253)) 13 nd (nI nd20)) 2 K)) _ := mW_to (F := F) (l1 := [(15, (nI fa248)), (16, pl249), (27, (nI nd250)), (31, (nI wr252)), (64, (nI at247)), (65, (nI ne)), (66, (nI lk251))]) (l2 := [(15, (nI fa248)), (16, pl249), (27, (nI nd250)), (31, (nI wr252)), (64, (nI at247)), (65, (nI ne)), (66, (nI lk251))]) (V := [(nI fa248), pl249, (nI nd250), (nI wr252), (nI at247), (nI ne), (nI lk251), (nI fa248), pl249, (nI nd250), (nI wr252), (nI at247), (nI ne), (nI lk251)]) rfl rfl (show (updA (updA (stR X254 13 nd20 (nI r253)) 2 K) 13 (upd ((stR X254 13 nd20 (nI r253)) 13) nd (nI nd20))) = (updA (stR (stR X254 13 nd20 (nI r253)) 13 nd (nI nd20)) 2 K) from updsA_eq2 (F := X254) (l1 := [(13, (upd (X254 13) nd20 (nI r253))), (2, K), (13, (upd ((stR X254 13 nd20 (nI r253)) 13) nd (nI nd20)))]) (l2 := [(13, (upd (X254 13) nd20 (nI r253))), (13, (upd ((stR X254 13 nd20 (nI r253)) 13) nd (nI nd20))), (2, K)]) (V := [(upd ((stR X254 13 nd20 (nI r253)) 13) nd (nI nd20)), K, (upd ((stR X254 13 nd20 (nI r253)) 13) nd (nI nd20)), (upd ((stR X254 13 nd20 (nI r253)) 13) nd (nI nd20)), (upd ((stR X254 13 nd20 (nI r253)) 13) nd (nI nd20)), K]) rfl rfl) hP
                  have hD : va_D A (mW G h0 a (upd (upd (upd (upd (upd (upd (upd F 15 (nI fa248)) 16 pl249) 27 (nI nd250)) 31 (nI wr252)) 64 (nI at247)) 65 (nI ne)) 66 (nI lk251)) (updA (stR (stR X254 13 nd20 (nI r253)) 13 nd (nI nd20)) 2 K)) := mW_D hD
                  have hkp812 : Kp B (stR (stR X254 13 nd20 (nI r253)) 13 nd (nI nd20)) wr252 T := (Kp.row hkp810 (by omega))
                  refine lv_goto (tgt := 161) hx hb dX12_attempt_150 (by decide) ?_
                  refine lv_iload hx hb dX12_attempt_161 (lv_at hl 0 rfl) ?_
                  refine lv_istore_n (lv' := [(2, .int (nI nd20)), (6, .int (nI nd20)), (5, .int (nI at191)), (4, .int (nI at176)), (3, .int (nI (at160 - 1))), (1, .int (nI nd)), (0, .ref h0)]) hx hb dX12_attempt_163 rfl hl (by decide) rfl (fun ls hl => ?_)
                  refine lv_goto (tgt := 71) hx hb dX12_attempt_164 (by decide) ?_
                  refine lv_aload_n hx hb dX12_attempt_71 rfl (lv_at hl 6 rfl) ?_
                  refine lv_sipush (v := 313) hx hb dX12_attempt_72 (by decide) ?_
                  have hP : va_P G.1 pCl (mW G h0 a (upd (upd (upd (upd (upd (upd (upd (upd (upd F 15 (nI fa248)) 16 pl249) 27 (nI nd250)) 31 (nI wr252)) 64 (nI at247)) 65 (nI ne)) 66 (nI lk251)) 15 (nI fa248)) 64 (nI at247)) (updA (updA (stR (stR X254 13 nd20 (nI r253)) 13 nd (nI nd20)) 2 K) 2 K)) _ := mW_to (F := F) (l1 := [(15, (nI fa248)), (16, pl249), (27, (nI nd250)), (31, (nI wr252)), (64, (nI at247)), (65, (nI ne)), (66, (nI lk251))]) (l2 := [(15, (nI fa248)), (16, pl249), (27, (nI nd250)), (31, (nI wr252)), (64, (nI at247)), (65, (nI ne)), (66, (nI lk251)), (15, (nI fa248)), (64, (nI at247))]) (V := [(nI fa248), pl249, (nI nd250), (nI wr252), (nI at247), (nI ne), (nI lk251), (nI fa248), pl249, (nI nd250), (nI wr252), (nI at247), (nI ne), (nI lk251), (nI fa248), (nI at247)]) rfl rfl (show (updA (stR (stR X254 13 nd20 (nI r253)) 13 nd (nI nd20)) 2 K) = (updA (updA (stR (stR X254 13 nd20 (nI r253)) 13 nd (nI nd20)) 2 K) 2 K) from updsA_eq2 (F := X254) (l1 := [(13, (upd (X254 13) nd20 (nI r253))), (13, (upd ((stR X254 13 nd20 (nI r253)) 13) nd (nI nd20))), (2, K)]) (l2 := [(13, (upd (X254 13) nd20 (nI r253))), (13, (upd ((stR X254 13 nd20 (nI r253)) 13) nd (nI nd20))), (2, K), (2, K)]) (V := [(upd ((stR X254 13 nd20 (nI r253)) 13) nd (nI nd20)), (upd ((stR X254 13 nd20 (nI r253)) 13) nd (nI nd20)), K, (upd ((stR X254 13 nd20 (nI r253)) 13) nd (nI nd20)), (upd ((stR X254 13 nd20 (nI r253)) 13) nd (nI nd20)), K, K]) rfl rfl) hP
                  have hD : va_D A (mW G h0 a (upd (upd (upd (upd (upd (upd (upd (upd (upd F 15 (nI fa248)) 16 pl249) 27 (nI nd250)) 31 (nI wr252)) 64 (nI at247)) 65 (nI ne)) 66 (nI lk251)) 15 (nI fa248)) 64 (nI at247)) (updA (updA (stR (stR X254 13 nd20 (nI r253)) 13 nd (nI nd20)) 2 K) 2 K)) := mW_D hD
                  refine pc_V0 (G := G) (As := [.int 313]) (rest := []) hx hb hml hown hq hE hX pX0_al hP hD hS hA hl.1 (R_may l G h0 a (upd (upd (upd (upd (upd (upd (upd F 15 (nI fa248)) 16 pl249) 27 (nI nd250)) 31 (nI wr252)) 64 (nI at247)) 65 (nI ne)) 66 (nI lk251)) (updA (stR (stR X254 13 nd20 (nI r253)) 13 nd (nI nd20)) 2 K) at247 T fa248 K 313 (by omega) (by omega) hK (by omega) (by decide) (by decide)) (gV pw_1621 pw_1622 pw_1623 pw_1523 pw_1605) hV_X12_may 0 9 rfl rfl rfl rfl (Nat.le_of_ble_eq_true rfl) dX12_attempt_75 ⟨Nat.le_of_ble_eq_true rfl, Nat.le_of_ble_eq_true rfl⟩ ⟨(by show 3 + 1 ≤ (26 * n + 43); omega), (by show 8 + (3 + 11) + 81 ≤ (2000 * n + 4300); omega)⟩ (fun v815 u813 H locs hw814 hP hD hS => ?_)
                  obtain ⟨at816, r817⟩ := u813
                  obtain ⟨hw814, h818, h819, h820, h821, h822, h823⟩ := hw814
                  have h818 : r817 ≤ 1 := h818
                  have h819 : fa248 + 100 * r817 ≤ 100 := h819
                  have h820 : at816 = at247 + r817 := h820
                  have h821 : at816 ≤ T := h821
                  have h822 : If (r817 = 1) (K at247 = 313) := h822
                  have h823 : If (r817 = 0) (fa248 = 0 → ¬ K at247 = 313) := h823
                  obtain rfl : v815 = some (.int (nI r817)) := hw814
                  have hP : va_P G.1 pCl (mW G h0 a (upd (upd (upd (upd (upd (upd (upd F 15 (nI fa248)) 16 pl249) 27 (nI nd250)) 31 (nI wr252)) 64 (nI at816)) 65 (nI ne)) 66 (nI lk251)) (updA (stR (stR X254 13 nd20 (nI r253)) 13 nd (nI nd20)) 2 K)) _ := mW_to (F := F) (l1 := [(15, (nI fa248)), (16, pl249), (27, (nI nd250)), (31, (nI wr252)), (64, (nI at247)), (65, (nI ne)), (66, (nI lk251)), (15, (nI fa248)), (64, (nI at816))]) (l2 := [(15, (nI fa248)), (16, pl249), (27, (nI nd250)), (31, (nI wr252)), (64, (nI at816)), (65, (nI ne)), (66, (nI lk251))]) (V := [(nI fa248), pl249, (nI nd250), (nI wr252), (nI at816), (nI ne), (nI lk251), (nI fa248), (nI at816), (nI fa248), pl249, (nI nd250), (nI wr252), (nI at816), (nI ne), (nI lk251)]) rfl rfl (show (updA (updA (stR (stR X254 13 nd20 (nI r253)) 13 nd (nI nd20)) 2 K) 2 K) = (updA (stR (stR X254 13 nd20 (nI r253)) 13 nd (nI nd20)) 2 K) from updsA_eq2 (F := X254) (l1 := [(13, (upd (X254 13) nd20 (nI r253))), (13, (upd ((stR X254 13 nd20 (nI r253)) 13) nd (nI nd20))), (2, K), (2, K)]) (l2 := [(13, (upd (X254 13) nd20 (nI r253))), (13, (upd ((stR X254 13 nd20 (nI r253)) 13) nd (nI nd20))), (2, K)]) (V := [(upd ((stR X254 13 nd20 (nI r253)) 13) nd (nI nd20)), (upd ((stR X254 13 nd20 (nI r253)) 13) nd (nI nd20)), K, K, (upd ((stR X254 13 nd20 (nI r253)) 13) nd (nI nd20)), (upd ((stR X254 13 nd20 (nI r253)) 13) nd (nI nd20)), K]) rfl rfl) hP
                  have hD : va_D A (mW G h0 a (upd (upd (upd (upd (upd (upd (upd F 15 (nI fa248)) 16 pl249) 27 (nI nd250)) 31 (nI wr252)) 64 (nI at816)) 65 (nI ne)) 66 (nI lk251)) (updA (stR (stR X254 13 nd20 (nI r253)) 13 nd (nI nd20)) 2 K)) := mW_D hD
                  refine W.widen (k := 0) (n := 0) (Nat.le_of_ble_eq_true rfl) (Nat.le_of_ble_eq_true rfl) ?_
                  refine W.eq (g2 := F0 m 78 ls [.int (nI r817)]) rfl ?_
                  obtain rfl : at247 = at816 := (by omega)
                  refine lv_if_eq (tgt := 167) hx hb dX12_attempt_78 (by decide) (fun c824 => ?_) (fun c824 => (by have n825 : ¬ (r817 = 0) := fun h9 => c824 ((nI_eq (a := r817) (b := 0) (by omega) (by omega)).mpr h9); omega))
                  refine lv_aload_n hx hb dX12_attempt_167 rfl (lv_at hl 6 rfl) ?_
                  refine lv_sipush (v := 319) hx hb dX12_attempt_168 (by decide) ?_
                  have hP : va_P G.1 pCl (mW G h0 a (upd (upd (upd (upd (upd (upd (upd (upd (upd F 15 (nI fa248)) 16 pl249) 27 (nI nd250)) 31 (nI wr252)) 64 (nI at247)) 65 (nI ne)) 66 (nI lk251)) 15 (nI fa248)) 64 (nI at247)) (updA (updA (stR (stR X254 13 nd20 (nI r253)) 13 nd (nI nd20)) 2 K) 2 K)) _ := hP
                  have hD : va_D A (mW G h0 a (upd (upd (upd (upd (upd (upd (upd (upd (upd F 15 (nI fa248)) 16 pl249) 27 (nI nd250)) 31 (nI wr252)) 64 (nI at247)) 65 (nI ne)) 66 (nI lk251)) 15 (nI fa248)) 64 (nI at247)) (updA (updA (stR (stR X254 13 nd20 (nI r253)) 13 nd (nI nd20)) 2 K) 2 K)) := mW_D hD
                  refine pc_V0 (G := G) (As := [.int 319]) (rest := []) hx hb hml hown hq hE hX pX0_al hP hD hS hA hl.1 (R_may l G h0 a (upd (upd (upd (upd (upd (upd (upd F 15 (nI fa248)) 16 pl249) 27 (nI nd250)) 31 (nI wr252)) 64 (nI at247)) 65 (nI ne)) 66 (nI lk251)) (updA (stR (stR X254 13 nd20 (nI r253)) 13 nd (nI nd20)) 2 K) at247 T fa248 K 319 (by omega) (by omega) hK (by omega) (by decide) (by decide)) (gV pw_1621 pw_1622 pw_1623 pw_1523 pw_1605) hV_X12_may 0 9 rfl rfl rfl rfl (Nat.le_of_ble_eq_true rfl) dX12_attempt_171 ⟨Nat.le_of_ble_eq_true rfl, Nat.le_of_ble_eq_true rfl⟩ ⟨(by show 3 + 1 ≤ (26 * n + 43); omega), (by show 8 + (3 + 11) + 81 ≤ (2000 * n + 4300); omega)⟩ (fun v828 u826 H locs hw827 hP hD hS => ?_)
                  obtain ⟨at829, r830⟩ := u826
                  obtain ⟨hw827, h831, h832, h833, h834, h835, h836⟩ := hw827
                  have h831 : r830 ≤ 1 := h831
                  have h832 : fa248 + 100 * r830 ≤ 100 := h832
                  have h833 : at829 = at247 + r830 := h833
                  have h834 : at829 ≤ T := h834
                  have h835 : If (r830 = 1) (K at247 = 319) := h835
                  have h836 : If (r830 = 0) (fa248 = 0 → ¬ K at247 = 319) := h836
                  obtain rfl : v828 = some (.int (nI r830)) := hw827
                  have hP : va_P G.1 pCl (mW G h0 a (upd (upd (upd (upd (upd (upd (upd F 15 (nI fa248)) 16 pl249) 27 (nI nd250)) 31 (nI wr252)) 64 (nI at829)) 65 (nI ne)) 66 (nI lk251)) (updA (stR (stR X254 13 nd20 (nI r253)) 13 nd (nI nd20)) 2 K)) _ := mW_to (F := F) (l1 := [(15, (nI fa248)), (16, pl249), (27, (nI nd250)), (31, (nI wr252)), (64, (nI at247)), (65, (nI ne)), (66, (nI lk251)), (15, (nI fa248)), (64, (nI at829))]) (l2 := [(15, (nI fa248)), (16, pl249), (27, (nI nd250)), (31, (nI wr252)), (64, (nI at829)), (65, (nI ne)), (66, (nI lk251))]) (V := [(nI fa248), pl249, (nI nd250), (nI wr252), (nI at829), (nI ne), (nI lk251), (nI fa248), (nI at829), (nI fa248), pl249, (nI nd250), (nI wr252), (nI at829), (nI ne), (nI lk251)]) rfl rfl (show (updA (updA (stR (stR X254 13 nd20 (nI r253)) 13 nd (nI nd20)) 2 K) 2 K) = (updA (stR (stR X254 13 nd20 (nI r253)) 13 nd (nI nd20)) 2 K) from updsA_eq2 (F := X254) (l1 := [(13, (upd (X254 13) nd20 (nI r253))), (13, (upd ((stR X254 13 nd20 (nI r253)) 13) nd (nI nd20))), (2, K), (2, K)]) (l2 := [(13, (upd (X254 13) nd20 (nI r253))), (13, (upd ((stR X254 13 nd20 (nI r253)) 13) nd (nI nd20))), (2, K)]) (V := [(upd ((stR X254 13 nd20 (nI r253)) 13) nd (nI nd20)), (upd ((stR X254 13 nd20 (nI r253)) 13) nd (nI nd20)), K, K, (upd ((stR X254 13 nd20 (nI r253)) 13) nd (nI nd20)), (upd ((stR X254 13 nd20 (nI r253)) 13) nd (nI nd20)), K]) rfl rfl) hP
                  have hD : va_D A (mW G h0 a (upd (upd (upd (upd (upd (upd (upd F 15 (nI fa248)) 16 pl249) 27 (nI nd250)) 31 (nI wr252)) 64 (nI at829)) 65 (nI ne)) 66 (nI lk251)) (updA (stR (stR X254 13 nd20 (nI r253)) 13 nd (nI nd20)) 2 K)) := mW_D hD
                  refine W.widen (k := 0) (n := 0) (Nat.le_of_ble_eq_true rfl) (Nat.le_of_ble_eq_true rfl) ?_
                  refine W.eq (g2 := F0 m 174 ls [.int (nI r830)]) rfl ?_
                  obtain rfl : at247 = at829 := (by omega)
                  refine lv_if_eq (tgt := 187) hx hb dX12_attempt_174 (by decide) (fun c837 => ?_) (fun c837 => (by have n838 : ¬ (r830 = 0) := fun h9 => c837 ((nI_eq (a := r830) (b := 0) (by omega) (by omega)).mpr h9); omega))
                  refine lv_iload_n hx hb dX12_attempt_187 rfl (lv_at hl 5 rfl) ?_
                  have hz839 : at0 ≤ at247 := (by omega)
                  have hz840 : at247 ≤ T := (by omega)
                  have hz841 : fa248 ≤ 100 := (by omega)
                  have hz842 : nd ≤ nd250 := (by omega)
                  have hz843 : nd250 + 2 * at0 ≤ nd + 2 * at247 + 100000 * fa248 := (by omega)
                  have hz844 : nd250 + 2 * at0 ≤ nd + 2 * at247 + (60 * (21 - ne) + 40) := (by omega)
                  have hz845 : wr ≤ wr252 := (by omega)
                  have hz846 : wr252 + at0 ≤ wr + at247 := (by omega)
                  have hz847 : lk ≤ lk251 := (by omega)
                  have hz848 : lk251 ≤ 60 + 100 * fa248 := (by omega)
                  have hz849 : at0 + 1 ≤ at247 + fa248 := (by omega)
                  have hz850 : nd ≤ nd250 := (by omega)
                  have hz851 : Kp B (stR (stR X254 13 nd20 (nI r253)) 13 nd (nI nd20)) wr252 T := hkp812
                  have hz852 : If (fa248 = 0) (Low B (stR (stR X254 13 nd20 (nI r253)) 13 nd (nI nd20)) nd wr ∧ Frs K T wr252 (stR (stR X254 13 nd20 (nI r253)) 13 nd (nI nd20)) nd nd250 20000 [(nd, (280 + 4 * (21 - ne)))] ∧ kcl 3 ((stR (stR X254 13 nd20 (nI r253)) 13 nd (nI nd20)) 9 nd) = true) := (fun e => absurd e (by omega))
                  have hP : va_P G.1 pCl (mW G h0 a (upd (upd (upd (upd (upd (upd (upd F 15 (nI fa248)) 16 pl249) 27 (nI nd250)) 31 (nI wr252)) 64 (nI at247)) 65 (nI ne)) 66 (nI lk251)) (updA (stR (stR X254 13 nd20 (nI r253)) 13 nd (nI nd20)) 2 K)) _ := hP
                  have hD : va_D A (mW G h0 a (upd (upd (upd (upd (upd (upd (upd F 15 (nI fa248)) 16 pl249) 27 (nI nd250)) 31 (nI wr252)) 64 (nI at247)) 65 (nI ne)) 66 (nI lk251)) (updA (stR (stR X254 13 nd20 (nI r253)) 13 nd (nI nd20)) 2 K)) := mW_D hD
                  exact W.iret (v := (nI nd)) hx hb hr (fun t9 ht9 hW9 => ⟨⟨_, (at247, fa248, pl249, nd250, lk251, wr252, nd, (stR (stR X254 13 nd20 (nI r253)) 13 nd (nI nd20))), rfl, ⟨rfl, hz839, hz840, hz841, hz842, hz843, hz844, hz845, hz846, hz847, hz848, hz849, hz850, hz851, hz852⟩, by rw [ht9]; exact hP, hD⟩, hS.F ht9⟩) hS.2.2 dX12_attempt_188
              · have e232 := e232
                refine lv_aload_n hx hb dX12_attempt_112 rfl (lv_at hl 5 rfl) ?_
                refine lv_bipush (v := 44) hx hb dX12_attempt_113 (by decide) ?_
                refine lv_iload_n hx hb dX12_attempt_115 rfl (lv_at hl 2 rfl) ?_
                refine lv_iload hx hb dX12_attempt_116 (lv_at hl 0 rfl) ?_
                refine lv_iload hx hb dX12_attempt_118 (lv_at hl 1 rfl) ?_
                refine lv_iconst (v := (-1)) hx hb dX12_attempt_120 (by decide) ?_
                have hP : va_P G.1 pCl (mW G h0 a (upd (upd (upd (upd (upd (upd (upd (upd F 15 (nI fa222)) 16 pl223) 27 (nI nd20)) 31 (nI wr22)) 64 (nI at221)) 65 (nI ne)) 66 (nI lk21)) 27 (nI nd20)) (updA (stR X24 12 nd (nI r23)) 2 K)) _ := mW_to (F := F) (l1 := [(15, (nI fa222)), (16, pl223), (27, (nI nd20)), (31, (nI wr22)), (64, (nI at221)), (65, (nI ne)), (66, (nI lk21))]) (l2 := [(15, (nI fa222)), (16, pl223), (27, (nI nd20)), (31, (nI wr22)), (64, (nI at221)), (65, (nI ne)), (66, (nI lk21)), (27, (nI nd20))]) (V := [(nI fa222), pl223, (nI nd20), (nI wr22), (nI at221), (nI ne), (nI lk21), (nI fa222), pl223, (nI nd20), (nI wr22), (nI at221), (nI ne), (nI lk21), (nI nd20)]) rfl rfl rfl hP
                have hD : va_D A (mW G h0 a (upd (upd (upd (upd (upd (upd (upd (upd F 15 (nI fa222)) 16 pl223) 27 (nI nd20)) 31 (nI wr22)) 64 (nI at221)) 65 (nI ne)) 66 (nI lk21)) 27 (nI nd20)) (updA (stR X24 12 nd (nI r23)) 2 K)) := mW_D hD
                refine pc_V0 (G := G) (As := [.int 44, .int (nI (at160 - 1)), .int (nI at191), .int (nI at176), .int (-1)]) (rest := []) hx hb hml hown hq hE hX pX0_al hP hD hS hA hl.1 (R_nodeB l G h0 a (upd (upd (upd (upd (upd (upd (upd F 15 (nI fa222)) 16 pl223) 27 (nI nd20)) 31 (nI wr22)) 64 (nI at221)) 65 (nI ne)) 66 (nI lk21)) (stR X24 12 nd (nI r23)) 44 (nI (at160 - 1)) (nI at191) (nI at176) (-1) nd20 K (by omega)) (gV pw_1650 pw_1651 pw_1652 pw_1523 pw_1589) hV_X12_node 0 9 rfl rfl rfl rfl (Nat.le_of_ble_eq_true rfl) dX12_attempt_121 ⟨Nat.le_of_ble_eq_true rfl, Nat.le_of_ble_eq_true rfl⟩ ⟨(by show 2 + 1 ≤ (26 * n + 43); omega), (by show 8 + (7 + 11) + 60 ≤ (2000 * n + 4300); omega)⟩ (fun v855 u853 H locs hw854 hP hD hS => ?_)
                obtain ⟨X856, rfl⟩ : ∃ z, z = u853 := ⟨_, rfl⟩
                obtain ⟨hw854, h857⟩ := hw854
                have h857 : NewN (stR X24 12 nd (nI r23)) X856 nd20 44 (nI (at160 - 1)) (nI at191) (nI at176) (-1) := h857
                obtain rfl : v855 = some (.int (nI nd20)) := hw854
                have hP : va_P G.1 pCl (mW G h0 a (upd (upd (upd (upd (upd (upd (upd F 15 (nI fa222)) 16 pl223) 27 (nI (nd20 + 1))) 31 (nI wr22)) 64 (nI at221)) 65 (nI ne)) 66 (nI lk21)) (updA X856 2 K)) _ := mW_to (F := F) (l1 := [(15, (nI fa222)), (16, pl223), (27, (nI nd20)), (31, (nI wr22)), (64, (nI at221)), (65, (nI ne)), (66, (nI lk21)), (27, (nI (nd20 + 1)))]) (l2 := [(15, (nI fa222)), (16, pl223), (27, (nI (nd20 + 1))), (31, (nI wr22)), (64, (nI at221)), (65, (nI ne)), (66, (nI lk21))]) (V := [(nI fa222), pl223, (nI (nd20 + 1)), (nI wr22), (nI at221), (nI ne), (nI lk21), (nI (nd20 + 1)), (nI fa222), pl223, (nI (nd20 + 1)), (nI wr22), (nI at221), (nI ne), (nI lk21)]) rfl rfl rfl hP
                have hD : va_D A (mW G h0 a (upd (upd (upd (upd (upd (upd (upd F 15 (nI fa222)) 16 pl223) 27 (nI (nd20 + 1))) 31 (nI wr22)) 64 (nI at221)) 65 (nI ne)) 66 (nI lk21)) (updA X856 2 K)) := mW_D hD
                refine W.widen (k := 0) (n := 0) (Nat.le_of_ble_eq_true rfl) (Nat.le_of_ble_eq_true rfl) ?_
                refine W.eq (g2 := F0 m 124 ls [.int (nI nd20)]) rfl ?_
                have hkp858 : Kp B X856 wr22 T := (Kp.new hkp48 h857)
                refine lv_istore (lv' := [(6, .int (nI nd20)), (5, .int (nI at191)), (4, .int (nI at176)), (3, .int (nI (at160 - 1))), (2, .int (-1)), (1, .int (nI nd)), (0, .ref h0)]) hx hb dX12_attempt_124 hl (by decide) rfl (fun ls hl => ?_)
                refine lv_aload_n hx hb dX12_attempt_126 rfl (lv_at hl 6 rfl) ?_
                refine r_get (v := .ref (a 13)) hx hb hown hq hE hP 21 50 tFX12_21 (by decide) pw_1443 rfl dX12_attempt_127 ?_
                refine lv_iload hx hb dX12_attempt_130 (lv_at hl 0 rfl) ?_
                refine lv_aload_n hx hb dX12_attempt_132 rfl (lv_at hl 6 rfl) ?_
                have hP : va_P G.1 pCl (mW G h0 a (upd (upd (upd (upd (upd (upd (upd (upd (upd (upd (upd F 15 (nI fa222)) 16 pl223) 27 (nI (nd20 + 1))) 31 (nI wr22)) 64 (nI at221)) 65 (nI ne)) 66 (nI lk21)) 15 (nI fa222)) 27 (nI (nd20 + 1))) 31 (nI wr22)) 64 (nI at221)) (updA X856 2 K)) _ := mW_to (F := F) (l1 := [(15, (nI fa222)), (16, pl223), (27, (nI (nd20 + 1))), (31, (nI wr22)), (64, (nI at221)), (65, (nI ne)), (66, (nI lk21))]) (l2 := [(15, (nI fa222)), (16, pl223), (27, (nI (nd20 + 1))), (31, (nI wr22)), (64, (nI at221)), (65, (nI ne)), (66, (nI lk21)), (15, (nI fa222)), (27, (nI (nd20 + 1))), (31, (nI wr22)), (64, (nI at221))]) (V := [(nI fa222), pl223, (nI (nd20 + 1)), (nI wr22), (nI at221), (nI ne), (nI lk21), (nI fa222), pl223, (nI (nd20 + 1)), (nI wr22), (nI at221), (nI ne), (nI lk21), (nI fa222), (nI (nd20 + 1)), (nI wr22), (nI at221)]) rfl rfl rfl hP
                have hD : va_D A (mW G h0 a (upd (upd (upd (upd (upd (upd (upd (upd (upd (upd (upd F 15 (nI fa222)) 16 pl223) 27 (nI (nd20 + 1))) 31 (nI wr22)) 64 (nI at221)) 65 (nI ne)) 66 (nI lk21)) 15 (nI fa222)) 27 (nI (nd20 + 1))) 31 (nI wr22)) 64 (nI at221)) (updA X856 2 K)) := mW_D hD
                refine pc_V0 (G := G) (As := []) (rest := [.int (nI nd20), .ref (a 13)]) hx hb hml hown hq hE hX pX0_al hP hD hS hA hl.1 (RF_block l G h0 a (upd (upd (upd (upd (upd (upd (upd F 15 (nI fa222)) 16 pl223) 27 (nI (nd20 + 1))) 31 (nI wr22)) 64 (nI at221)) 65 (nI ne)) 66 (nI lk21)) X856 at221 T fa222 (nd20 + 1) wr22 K (by omega) (by omega) hK (by omega) e232 (by omega) (by omega) (hkp858).2) (gV pw_1685 pw_1686 pw_1687 pw_1523 pw_1688) hV_X12_block 0 9 rfl rfl rfl rfl (Nat.le_of_ble_eq_true rfl) dX12_attempt_133 ⟨Nat.le_of_ble_eq_true rfl, Nat.le_of_ble_eq_true rfl⟩ ⟨(by show 5 + 1 ≤ (26 * n + 43); omega), (by show 8 + (4 + 11) + 124 ≤ (2000 * n + 4300); omega)⟩ (fun v861 u859 H locs hw860 hP hD hS => ?_)
                obtain ⟨pl862, wr863, X864⟩ := u859
                obtain ⟨hw860, h865, h866, h867⟩ := hw860
                have h865 : wr22 ≤ wr863 := h865
                have h866 : wr863 ≤ wr22 := h866
                have h867 : Kp X856 X864 wr863 T := h867
                obtain rfl : v861 = some (.int (nI (nd20 + 1))) := hw860
                have hP : va_P G.1 pCl (mW G h0 a (upd (upd (upd (upd (upd (upd (upd F 15 (nI fa222)) 16 pl862) 27 (nI ((nd20 + 1) + 1))) 31 (nI wr863)) 64 (nI at221)) 65 (nI ne)) 66 (nI lk21)) (updA X864 2 K)) _ := mW_to (F := F) (l1 := [(15, (nI fa222)), (16, pl223), (27, (nI (nd20 + 1))), (31, (nI wr22)), (64, (nI at221)), (65, (nI ne)), (66, (nI lk21)), (15, (nI fa222)), (16, pl862), (27, (nI ((nd20 + 1) + 1))), (31, (nI wr863)), (64, (nI at221))]) (l2 := [(15, (nI fa222)), (16, pl862), (27, (nI ((nd20 + 1) + 1))), (31, (nI wr863)), (64, (nI at221)), (65, (nI ne)), (66, (nI lk21))]) (V := [(nI fa222), pl862, (nI ((nd20 + 1) + 1)), (nI wr863), (nI at221), (nI ne), (nI lk21), (nI fa222), pl862, (nI ((nd20 + 1) + 1)), (nI wr863), (nI at221), (nI fa222), pl862, (nI ((nd20 + 1) + 1)), (nI wr863), (nI at221), (nI ne), (nI lk21)]) rfl rfl rfl hP
                have hD : va_D A (mW G h0 a (upd (upd (upd (upd (upd (upd (upd F 15 (nI fa222)) 16 pl862) 27 (nI ((nd20 + 1) + 1))) 31 (nI wr863)) 64 (nI at221)) 65 (nI ne)) 66 (nI lk21)) (updA X864 2 K)) := mW_D hD
                refine W.widen (k := 0) (n := 0) (Nat.le_of_ble_eq_true rfl) (Nat.le_of_ble_eq_true rfl) ?_
                refine W.eq (g2 := F0 m 136 ls [.int (nI (nd20 + 1)), .int (nI nd20), .ref (a 13)]) rfl ?_
                have hkp868 : Kp B X864 wr863 T := (Kp.trans hkp858 h867)
                refine r_sti (f := (X864 13)) (j := nd20) hx hb hE hP hD hS 13 (ma_13 G a _) rfl (mas_13 G a _) (by omega) (by decide) dX12_attempt_136 (fun H locs hP hD hS => ?_)
                have hP : va_P G.1 pCl (mW G h0 a (upd (upd (upd (upd (upd (upd (upd F 15 (nI fa222)) 16 pl862) 27 (nI ((nd20 + 1) + 1))) 31 (nI wr863)) 64 (nI at221)) 65 (nI ne)) 66 (nI lk21)) (updA (stR X864 13 nd20 (nI (nd20 + 1))) 2 K)) _ := mW_to (F := F) (l1 := [(15, (nI fa222)), (16, pl862), (27, (nI ((nd20 + 1) + 1))), (31, (nI wr863)), (64, (nI at221)), (65, (nI ne)), (66, (nI lk21))]) (l2 := [(15, (nI fa222)), (16, pl862), (27, (nI ((nd20 + 1) + 1))), (31, (nI wr863)), (64, (nI at221)), (65, (nI ne)), (66, (nI lk21))]) (V := [(nI fa222), pl862, (nI ((nd20 + 1) + 1)), (nI wr863), (nI at221), (nI ne), (nI lk21), (nI fa222), pl862, (nI ((nd20 + 1) + 1)), (nI wr863), (nI at221), (nI ne), (nI lk21)]) rfl rfl (show (updA (updA X864 2 K) 13 (upd (X864 13) nd20 (nI (nd20 + 1)))) = (updA (stR X864 13 nd20 (nI (nd20 + 1))) 2 K) from updsA_eq2 (F := X864) (l1 := [(2, K), (13, (upd (X864 13) nd20 (nI (nd20 + 1))))]) (l2 := [(13, (upd (X864 13) nd20 (nI (nd20 + 1)))), (2, K)]) (V := [K, (upd (X864 13) nd20 (nI (nd20 + 1))), (upd (X864 13) nd20 (nI (nd20 + 1))), K]) rfl rfl) hP
                have hD : va_D A (mW G h0 a (upd (upd (upd (upd (upd (upd (upd F 15 (nI fa222)) 16 pl862) 27 (nI ((nd20 + 1) + 1))) 31 (nI wr863)) 64 (nI at221)) 65 (nI ne)) 66 (nI lk21)) (updA (stR X864 13 nd20 (nI (nd20 + 1))) 2 K)) := mW_D hD
                have hkp869 : Kp B (stR X864 13 nd20 (nI (nd20 + 1))) wr863 T := (Kp.row hkp868 (by omega))
                refine lv_iload_n hx hb dX12_attempt_137 rfl (lv_at hl 4 rfl) ?_
                refine lv_iconst (v := (-1)) hx hb dX12_attempt_138 (by decide) ?_
                refine lv_icmp_ne (tgt := 153) hx hb dX12_attempt_139 (by decide) (fun c870 => absurd c870 (by decide)) (fun c870 => ?_)
                refine lv_aload_n hx hb dX12_attempt_142 rfl (lv_at hl 6 rfl) ?_
                refine r_get (v := .ref (a 13)) hx hb hown hq hE hP 21 50 tFX12_21 (by decide) pw_1443 rfl dX12_attempt_143 ?_
                refine lv_iload_n hx hb dX12_attempt_146 rfl (lv_at hl 5 rfl) ?_
                refine lv_iload hx hb dX12_attempt_147 (lv_at hl 0 rfl) ?_
                refine r_sti (f := ((stR X864 13 nd20 (nI (nd20 + 1))) 13)) (j := nd) hx hb hE hP hD hS 13 (ma_13 G a _) rfl (mas_13 G a _) (by omega) (by decide) dX12_attempt_149 (fun H locs hP hD hS => ?_)
                have hP : va_P G.1 pCl (mW G h0 a (upd (upd (upd (upd (upd (upd (upd F 15 (nI fa222)) 16 pl862) 27 (nI ((nd20 + 1) + 1))) 31 (nI wr863)) 64 (nI at221)) 65 (nI ne)) 66 (nI lk21)) (updA (stR (stR X864 13 nd20 (nI (nd20 + 1))) 13 nd (nI nd20)) 2 K)) _ := mW_to (F := F) (l1 := [(15, (nI fa222)), (16, pl862), (27, (nI ((nd20 + 1) + 1))), (31, (nI wr863)), (64, (nI at221)), (65, (nI ne)), (66, (nI lk21))]) (l2 := [(15, (nI fa222)), (16, pl862), (27, (nI ((nd20 + 1) + 1))), (31, (nI wr863)), (64, (nI at221)), (65, (nI ne)), (66, (nI lk21))]) (V := [(nI fa222), pl862, (nI ((nd20 + 1) + 1)), (nI wr863), (nI at221), (nI ne), (nI lk21), (nI fa222), pl862, (nI ((nd20 + 1) + 1)), (nI wr863), (nI at221), (nI ne), (nI lk21)]) rfl rfl (show (updA (updA (stR X864 13 nd20 (nI (nd20 + 1))) 2 K) 13 (upd ((stR X864 13 nd20 (nI (nd20 + 1))) 13) nd (nI nd20))) = (updA (stR (stR X864 13 nd20 (nI (nd20 + 1))) 13 nd (nI nd20)) 2 K) from updsA_eq2 (F := X864) (l1 := [(13, (upd (X864 13) nd20 (nI (nd20 + 1)))), (2, K), (13, (upd ((stR X864 13 nd20 (nI (nd20 + 1))) 13) nd (nI nd20)))]) (l2 := [(13, (upd (X864 13) nd20 (nI (nd20 + 1)))), (13, (upd ((stR X864 13 nd20 (nI (nd20 + 1))) 13) nd (nI nd20))), (2, K)]) (V := [(upd ((stR X864 13 nd20 (nI (nd20 + 1))) 13) nd (nI nd20)), K, (upd ((stR X864 13 nd20 (nI (nd20 + 1))) 13) nd (nI nd20)), (upd ((stR X864 13 nd20 (nI (nd20 + 1))) 13) nd (nI nd20)), (upd ((stR X864 13 nd20 (nI (nd20 + 1))) 13) nd (nI nd20)), K]) rfl rfl) hP
                have hD : va_D A (mW G h0 a (upd (upd (upd (upd (upd (upd (upd F 15 (nI fa222)) 16 pl862) 27 (nI ((nd20 + 1) + 1))) 31 (nI wr863)) 64 (nI at221)) 65 (nI ne)) 66 (nI lk21)) (updA (stR (stR X864 13 nd20 (nI (nd20 + 1))) 13 nd (nI nd20)) 2 K)) := mW_D hD
                have hkp871 : Kp B (stR (stR X864 13 nd20 (nI (nd20 + 1))) 13 nd (nI nd20)) wr863 T := (Kp.row hkp869 (by omega))
                refine lv_goto (tgt := 161) hx hb dX12_attempt_150 (by decide) ?_
                refine lv_iload hx hb dX12_attempt_161 (lv_at hl 0 rfl) ?_
                refine lv_istore_n (lv' := [(2, .int (nI nd20)), (6, .int (nI nd20)), (5, .int (nI at191)), (4, .int (nI at176)), (3, .int (nI (at160 - 1))), (1, .int (nI nd)), (0, .ref h0)]) hx hb dX12_attempt_163 rfl hl (by decide) rfl (fun ls hl => ?_)
                refine lv_goto (tgt := 71) hx hb dX12_attempt_164 (by decide) ?_
                refine lv_aload_n hx hb dX12_attempt_71 rfl (lv_at hl 6 rfl) ?_
                refine lv_sipush (v := 313) hx hb dX12_attempt_72 (by decide) ?_
                have hP : va_P G.1 pCl (mW G h0 a (upd (upd (upd (upd (upd (upd (upd (upd (upd F 15 (nI fa222)) 16 pl862) 27 (nI ((nd20 + 1) + 1))) 31 (nI wr863)) 64 (nI at221)) 65 (nI ne)) 66 (nI lk21)) 15 (nI fa222)) 64 (nI at221)) (updA (updA (stR (stR X864 13 nd20 (nI (nd20 + 1))) 13 nd (nI nd20)) 2 K) 2 K)) _ := mW_to (F := F) (l1 := [(15, (nI fa222)), (16, pl862), (27, (nI ((nd20 + 1) + 1))), (31, (nI wr863)), (64, (nI at221)), (65, (nI ne)), (66, (nI lk21))]) (l2 := [(15, (nI fa222)), (16, pl862), (27, (nI ((nd20 + 1) + 1))), (31, (nI wr863)), (64, (nI at221)), (65, (nI ne)), (66, (nI lk21)), (15, (nI fa222)), (64, (nI at221))]) (V := [(nI fa222), pl862, (nI ((nd20 + 1) + 1)), (nI wr863), (nI at221), (nI ne), (nI lk21), (nI fa222), pl862, (nI ((nd20 + 1) + 1)), (nI wr863), (nI at221), (nI ne), (nI lk21), (nI fa222), (nI at221)]) rfl rfl (show (updA (stR (stR X864 13 nd20 (nI (nd20 + 1))) 13 nd (nI nd20)) 2 K) = (updA (updA (stR (stR X864 13 nd20 (nI (nd20 + 1))) 13 nd (nI nd20)) 2 K) 2 K) from updsA_eq2 (F := X864) (l1 := [(13, (upd (X864 13) nd20 (nI (nd20 + 1)))), (13, (upd ((stR X864 13 nd20 (nI (nd20 + 1))) 13) nd (nI nd20))), (2, K)]) (l2 := [(13, (upd (X864 13) nd20 (nI (nd20 + 1)))), (13, (upd ((stR X864 13 nd20 (nI (nd20 + 1))) 13) nd (nI nd20))), (2, K), (2, K)]) (V := [(upd ((stR X864 13 nd20 (nI (nd20 + 1))) 13) nd (nI nd20)), (upd ((stR X864 13 nd20 (nI (nd20 + 1))) 13) nd (nI nd20)), K, (upd ((stR X864 13 nd20 (nI (nd20 + 1))) 13) nd (nI nd20)), (upd ((stR X864 13 nd20 (nI (nd20 + 1))) 13) nd (nI nd20)), K, K]) rfl rfl) hP
                have hD : va_D A (mW G h0 a (upd (upd (upd (upd (upd (upd (upd (upd (upd F 15 (nI fa222)) 16 pl862) 27 (nI ((nd20 + 1) + 1))) 31 (nI wr863)) 64 (nI at221)) 65 (nI ne)) 66 (nI lk21)) 15 (nI fa222)) 64 (nI at221)) (updA (updA (stR (stR X864 13 nd20 (nI (nd20 + 1))) 13 nd (nI nd20)) 2 K) 2 K)) := mW_D hD
                refine pc_V0 (G := G) (As := [.int 313]) (rest := []) hx hb hml hown hq hE hX pX0_al hP hD hS hA hl.1 (R_may l G h0 a (upd (upd (upd (upd (upd (upd (upd F 15 (nI fa222)) 16 pl862) 27 (nI ((nd20 + 1) + 1))) 31 (nI wr863)) 64 (nI at221)) 65 (nI ne)) 66 (nI lk21)) (updA (stR (stR X864 13 nd20 (nI (nd20 + 1))) 13 nd (nI nd20)) 2 K) at221 T fa222 K 313 (by omega) (by omega) hK (by omega) (by decide) (by decide)) (gV pw_1621 pw_1622 pw_1623 pw_1523 pw_1605) hV_X12_may 0 9 rfl rfl rfl rfl (Nat.le_of_ble_eq_true rfl) dX12_attempt_75 ⟨Nat.le_of_ble_eq_true rfl, Nat.le_of_ble_eq_true rfl⟩ ⟨(by show 3 + 1 ≤ (26 * n + 43); omega), (by show 8 + (3 + 11) + 81 ≤ (2000 * n + 4300); omega)⟩ (fun v874 u872 H locs hw873 hP hD hS => ?_)
                obtain ⟨at875, r876⟩ := u872
                obtain ⟨hw873, h877, h878, h879, h880, h881, h882⟩ := hw873
                have h877 : r876 ≤ 1 := h877
                have h878 : fa222 + 100 * r876 ≤ 100 := h878
                have h879 : at875 = at221 + r876 := h879
                have h880 : at875 ≤ T := h880
                have h881 : If (r876 = 1) (K at221 = 313) := h881
                have h882 : If (r876 = 0) (fa222 = 0 → ¬ K at221 = 313) := h882
                obtain rfl : v874 = some (.int (nI r876)) := hw873
                have hP : va_P G.1 pCl (mW G h0 a (upd (upd (upd (upd (upd (upd (upd F 15 (nI fa222)) 16 pl862) 27 (nI ((nd20 + 1) + 1))) 31 (nI wr863)) 64 (nI at875)) 65 (nI ne)) 66 (nI lk21)) (updA (stR (stR X864 13 nd20 (nI (nd20 + 1))) 13 nd (nI nd20)) 2 K)) _ := mW_to (F := F) (l1 := [(15, (nI fa222)), (16, pl862), (27, (nI ((nd20 + 1) + 1))), (31, (nI wr863)), (64, (nI at221)), (65, (nI ne)), (66, (nI lk21)), (15, (nI fa222)), (64, (nI at875))]) (l2 := [(15, (nI fa222)), (16, pl862), (27, (nI ((nd20 + 1) + 1))), (31, (nI wr863)), (64, (nI at875)), (65, (nI ne)), (66, (nI lk21))]) (V := [(nI fa222), pl862, (nI ((nd20 + 1) + 1)), (nI wr863), (nI at875), (nI ne), (nI lk21), (nI fa222), (nI at875), (nI fa222), pl862, (nI ((nd20 + 1) + 1)), (nI wr863), (nI at875), (nI ne), (nI lk21)]) rfl rfl (show (updA (updA (stR (stR X864 13 nd20 (nI (nd20 + 1))) 13 nd (nI nd20)) 2 K) 2 K) = (updA (stR (stR X864 13 nd20 (nI (nd20 + 1))) 13 nd (nI nd20)) 2 K) from updsA_eq2 (F := X864) (l1 := [(13, (upd (X864 13) nd20 (nI (nd20 + 1)))), (13, (upd ((stR X864 13 nd20 (nI (nd20 + 1))) 13) nd (nI nd20))), (2, K), (2, K)]) (l2 := [(13, (upd (X864 13) nd20 (nI (nd20 + 1)))), (13, (upd ((stR X864 13 nd20 (nI (nd20 + 1))) 13) nd (nI nd20))), (2, K)]) (V := [(upd ((stR X864 13 nd20 (nI (nd20 + 1))) 13) nd (nI nd20)), (upd ((stR X864 13 nd20 (nI (nd20 + 1))) 13) nd (nI nd20)), K, K, (upd ((stR X864 13 nd20 (nI (nd20 + 1))) 13) nd (nI nd20)), (upd ((stR X864 13 nd20 (nI (nd20 + 1))) 13) nd (nI nd20)), K]) rfl rfl) hP
                have hD : va_D A (mW G h0 a (upd (upd (upd (upd (upd (upd (upd F 15 (nI fa222)) 16 pl862) 27 (nI ((nd20 + 1) + 1))) 31 (nI wr863)) 64 (nI at875)) 65 (nI ne)) 66 (nI lk21)) (updA (stR (stR X864 13 nd20 (nI (nd20 + 1))) 13 nd (nI nd20)) 2 K)) := mW_D hD
                refine W.widen (k := 0) (n := 0) (Nat.le_of_ble_eq_true rfl) (Nat.le_of_ble_eq_true rfl) ?_
                refine W.eq (g2 := F0 m 78 ls [.int (nI r876)]) rfl ?_
                obtain rfl : at221 = at875 := (by omega)
                refine lv_if_eq (tgt := 167) hx hb dX12_attempt_78 (by decide) (fun c883 => ?_) (fun c883 => (by have n884 : ¬ (r876 = 0) := fun h9 => c883 ((nI_eq (a := r876) (b := 0) (by omega) (by omega)).mpr h9); omega))
                refine lv_aload_n hx hb dX12_attempt_167 rfl (lv_at hl 6 rfl) ?_
                refine lv_sipush (v := 319) hx hb dX12_attempt_168 (by decide) ?_
                have hP : va_P G.1 pCl (mW G h0 a (upd (upd (upd (upd (upd (upd (upd (upd (upd F 15 (nI fa222)) 16 pl862) 27 (nI ((nd20 + 1) + 1))) 31 (nI wr863)) 64 (nI at221)) 65 (nI ne)) 66 (nI lk21)) 15 (nI fa222)) 64 (nI at221)) (updA (updA (stR (stR X864 13 nd20 (nI (nd20 + 1))) 13 nd (nI nd20)) 2 K) 2 K)) _ := hP
                have hD : va_D A (mW G h0 a (upd (upd (upd (upd (upd (upd (upd (upd (upd F 15 (nI fa222)) 16 pl862) 27 (nI ((nd20 + 1) + 1))) 31 (nI wr863)) 64 (nI at221)) 65 (nI ne)) 66 (nI lk21)) 15 (nI fa222)) 64 (nI at221)) (updA (updA (stR (stR X864 13 nd20 (nI (nd20 + 1))) 13 nd (nI nd20)) 2 K) 2 K)) := mW_D hD
                refine pc_V0 (G := G) (As := [.int 319]) (rest := []) hx hb hml hown hq hE hX pX0_al hP hD hS hA hl.1 (R_may l G h0 a (upd (upd (upd (upd (upd (upd (upd F 15 (nI fa222)) 16 pl862) 27 (nI ((nd20 + 1) + 1))) 31 (nI wr863)) 64 (nI at221)) 65 (nI ne)) 66 (nI lk21)) (updA (stR (stR X864 13 nd20 (nI (nd20 + 1))) 13 nd (nI nd20)) 2 K) at221 T fa222 K 319 (by omega) (by omega) hK (by omega) (by decide) (by decide)) (gV pw_1621 pw_1622 pw_1623 pw_1523 pw_1605) hV_X12_may 0 9 rfl rfl rfl rfl (Nat.le_of_ble_eq_true rfl) dX12_attempt_171 ⟨Nat.le_of_ble_eq_true rfl, Nat.le_of_ble_eq_true rfl⟩ ⟨(by show 3 + 1 ≤ (26 * n + 43); omega), (by show 8 + (3 + 11) + 81 ≤ (2000 * n + 4300); omega)⟩ (fun v887 u885 H locs hw886 hP hD hS => ?_)
                obtain ⟨at888, r889⟩ := u885
                obtain ⟨hw886, h890, h891, h892, h893, h894, h895⟩ := hw886
                have h890 : r889 ≤ 1 := h890
                have h891 : fa222 + 100 * r889 ≤ 100 := h891
                have h892 : at888 = at221 + r889 := h892
                have h893 : at888 ≤ T := h893
                have h894 : If (r889 = 1) (K at221 = 319) := h894
                have h895 : If (r889 = 0) (fa222 = 0 → ¬ K at221 = 319) := h895
                obtain rfl : v887 = some (.int (nI r889)) := hw886
                have hP : va_P G.1 pCl (mW G h0 a (upd (upd (upd (upd (upd (upd (upd F 15 (nI fa222)) 16 pl862) 27 (nI ((nd20 + 1) + 1))) 31 (nI wr863)) 64 (nI at888)) 65 (nI ne)) 66 (nI lk21)) (updA (stR (stR X864 13 nd20 (nI (nd20 + 1))) 13 nd (nI nd20)) 2 K)) _ := mW_to (F := F) (l1 := [(15, (nI fa222)), (16, pl862), (27, (nI ((nd20 + 1) + 1))), (31, (nI wr863)), (64, (nI at221)), (65, (nI ne)), (66, (nI lk21)), (15, (nI fa222)), (64, (nI at888))]) (l2 := [(15, (nI fa222)), (16, pl862), (27, (nI ((nd20 + 1) + 1))), (31, (nI wr863)), (64, (nI at888)), (65, (nI ne)), (66, (nI lk21))]) (V := [(nI fa222), pl862, (nI ((nd20 + 1) + 1)), (nI wr863), (nI at888), (nI ne), (nI lk21), (nI fa222), (nI at888), (nI fa222), pl862, (nI ((nd20 + 1) + 1)), (nI wr863), (nI at888), (nI ne), (nI lk21)]) rfl rfl (show (updA (updA (stR (stR X864 13 nd20 (nI (nd20 + 1))) 13 nd (nI nd20)) 2 K) 2 K) = (updA (stR (stR X864 13 nd20 (nI (nd20 + 1))) 13 nd (nI nd20)) 2 K) from updsA_eq2 (F := X864) (l1 := [(13, (upd (X864 13) nd20 (nI (nd20 + 1)))), (13, (upd ((stR X864 13 nd20 (nI (nd20 + 1))) 13) nd (nI nd20))), (2, K), (2, K)]) (l2 := [(13, (upd (X864 13) nd20 (nI (nd20 + 1)))), (13, (upd ((stR X864 13 nd20 (nI (nd20 + 1))) 13) nd (nI nd20))), (2, K)]) (V := [(upd ((stR X864 13 nd20 (nI (nd20 + 1))) 13) nd (nI nd20)), (upd ((stR X864 13 nd20 (nI (nd20 + 1))) 13) nd (nI nd20)), K, K, (upd ((stR X864 13 nd20 (nI (nd20 + 1))) 13) nd (nI nd20)), (upd ((stR X864 13 nd20 (nI (nd20 + 1))) 13) nd (nI nd20)), K]) rfl rfl) hP
                have hD : va_D A (mW G h0 a (upd (upd (upd (upd (upd (upd (upd F 15 (nI fa222)) 16 pl862) 27 (nI ((nd20 + 1) + 1))) 31 (nI wr863)) 64 (nI at888)) 65 (nI ne)) 66 (nI lk21)) (updA (stR (stR X864 13 nd20 (nI (nd20 + 1))) 13 nd (nI nd20)) 2 K)) := mW_D hD
                refine W.widen (k := 0) (n := 0) (Nat.le_of_ble_eq_true rfl) (Nat.le_of_ble_eq_true rfl) ?_
                refine W.eq (g2 := F0 m 174 ls [.int (nI r889)]) rfl ?_
                obtain rfl : at221 = at888 := (by omega)
                refine lv_if_eq (tgt := 187) hx hb dX12_attempt_174 (by decide) (fun c896 => ?_) (fun c896 => (by have n897 : ¬ (r889 = 0) := fun h9 => c896 ((nI_eq (a := r889) (b := 0) (by omega) (by omega)).mpr h9); omega))
                refine lv_iload_n hx hb dX12_attempt_187 rfl (lv_at hl 5 rfl) ?_
                have hz898 : at0 ≤ at221 := (by omega)
                have hz899 : at221 ≤ T := (by omega)
                have hz900 : fa222 ≤ 100 := (by omega)
                have hz901 : nd ≤ ((nd20 + 1) + 1) := (by omega)
                have hz902 : ((nd20 + 1) + 1) + 2 * at0 ≤ nd + 2 * at221 + 100000 * fa222 := (by omega)
                have hz903 : ((nd20 + 1) + 1) + 2 * at0 ≤ nd + 2 * at221 + (60 * (21 - ne) + 40) := (by omega)
                have hz904 : wr ≤ wr863 := (by omega)
                have hz905 : wr863 + at0 ≤ wr + at221 := (by omega)
                have hz906 : lk ≤ lk21 := (by omega)
                have hz907 : lk21 ≤ 60 + 100 * fa222 := (by omega)
                have hz908 : at0 + 1 ≤ at221 + fa222 := (by omega)
                have hz909 : nd ≤ ((nd20 + 1) + 1) := (by omega)
                have hz910 : Kp B (stR (stR X864 13 nd20 (nI (nd20 + 1))) 13 nd (nI nd20)) wr863 T := hkp871
                have hz911 : If (fa222 = 0) (Low B (stR (stR X864 13 nd20 (nI (nd20 + 1))) 13 nd (nI nd20)) nd wr ∧ Frs K T wr863 (stR (stR X864 13 nd20 (nI (nd20 + 1))) 13 nd (nI nd20)) nd ((nd20 + 1) + 1) 20000 [(nd, (280 + 4 * (21 - ne)))] ∧ kcl 3 ((stR (stR X864 13 nd20 (nI (nd20 + 1))) 13 nd (nI nd20)) 9 nd) = true) := (fun e => absurd e (by omega))
                have hP : va_P G.1 pCl (mW G h0 a (upd (upd (upd (upd (upd (upd (upd F 15 (nI fa222)) 16 pl862) 27 (nI ((nd20 + 1) + 1))) 31 (nI wr863)) 64 (nI at221)) 65 (nI ne)) 66 (nI lk21)) (updA (stR (stR X864 13 nd20 (nI (nd20 + 1))) 13 nd (nI nd20)) 2 K)) _ := hP
                have hD : va_D A (mW G h0 a (upd (upd (upd (upd (upd (upd (upd F 15 (nI fa222)) 16 pl862) 27 (nI ((nd20 + 1) + 1))) 31 (nI wr863)) 64 (nI at221)) 65 (nI ne)) 66 (nI lk21)) (updA (stR (stR X864 13 nd20 (nI (nd20 + 1))) 13 nd (nI nd20)) 2 K)) := mW_D hD
                exact W.iret (v := (nI nd)) hx hb hr (fun t9 ht9 hW9 => ⟨⟨_, (at221, fa222, pl862, ((nd20 + 1) + 1), lk21, wr863, nd, (stR (stR X864 13 nd20 (nI (nd20 + 1))) 13 nd (nI nd20))), rfl, ⟨rfl, hz898, hz899, hz900, hz901, hz902, hz903, hz904, hz905, hz906, hz907, hz908, hz909, hz910, hz911⟩, by rw [ht9]; exact hP, hD⟩, hS.F ht9⟩) hS.2.2 dX12_attempt_188
            · have e217 := e217
              refine lv_istore (lv' := [(5, .int (nI at191)), (4, .int (nI at176)), (3, .int (nI (at160 - 1))), (2, .int (-1)), (1, .int (nI nd)), (0, .ref h0)]) hx hb dX12_attempt_104 hl (by decide) rfl (fun ls hl => ?_)
              refine lv_aload_n hx hb dX12_attempt_106 rfl (lv_at hl 5 rfl) ?_
              refine lv_bipush (v := 41) hx hb dX12_attempt_107 (by decide) ?_
              have hP : va_P G.1 pCl (mW G h0 a (upd (upd (upd (upd (upd (upd (upd (upd (upd F 15 (nI fa207)) 16 pl208) 27 (nI nd20)) 31 (nI wr22)) 64 (nI at206)) 65 (nI ne)) 66 (nI lk21)) 15 (nI fa207)) 64 (nI at206)) (updA (updA (stR X24 12 nd (nI r23)) 2 K) 2 K)) _ := mW_to (F := F) (l1 := [(15, (nI fa207)), (16, pl208), (27, (nI nd20)), (31, (nI wr22)), (64, (nI at206)), (65, (nI ne)), (66, (nI lk21))]) (l2 := [(15, (nI fa207)), (16, pl208), (27, (nI nd20)), (31, (nI wr22)), (64, (nI at206)), (65, (nI ne)), (66, (nI lk21)), (15, (nI fa207)), (64, (nI at206))]) (V := [(nI fa207), pl208, (nI nd20), (nI wr22), (nI at206), (nI ne), (nI lk21), (nI fa207), pl208, (nI nd20), (nI wr22), (nI at206), (nI ne), (nI lk21), (nI fa207), (nI at206)]) rfl rfl (show (updA (stR X24 12 nd (nI r23)) 2 K) = (updA (updA (stR X24 12 nd (nI r23)) 2 K) 2 K) from updsA_eq2 (F := X24) (l1 := [(12, (upd (X24 12) nd (nI r23))), (2, K)]) (l2 := [(12, (upd (X24 12) nd (nI r23))), (2, K), (2, K)]) (V := [(upd (X24 12) nd (nI r23)), K, (upd (X24 12) nd (nI r23)), K, K]) rfl rfl) hP
              have hD : va_D A (mW G h0 a (upd (upd (upd (upd (upd (upd (upd (upd (upd F 15 (nI fa207)) 16 pl208) 27 (nI nd20)) 31 (nI wr22)) 64 (nI at206)) 65 (nI ne)) 66 (nI lk21)) 15 (nI fa207)) 64 (nI at206)) (updA (updA (stR X24 12 nd (nI r23)) 2 K) 2 K)) := mW_D hD
              refine pc_V0 (G := G) (As := [.int 41]) (rest := []) hx hb hml hown hq hE hX pX0_al hP hD hS hA hl.1 (R_take l G h0 a (upd (upd (upd (upd (upd (upd (upd F 15 (nI fa207)) 16 pl208) 27 (nI nd20)) 31 (nI wr22)) 64 (nI at206)) 65 (nI ne)) 66 (nI lk21)) (updA (stR X24 12 nd (nI r23)) 2 K) at206 T fa207 K 41 (by omega) (by omega) hK (by omega) (by decide) (by decide)) (gV pw_1614 pw_1615 pw_1616 pw_1523 pw_1601) hV_X12_take 0 9 rfl rfl rfl rfl (Nat.le_of_ble_eq_true rfl) dX12_attempt_109 ⟨Nat.le_of_ble_eq_true rfl, Nat.le_of_ble_eq_true rfl⟩ ⟨(by show 4 + 1 ≤ (26 * n + 43); omega), (by show 8 + (2 + 11) + 103 ≤ (2000 * n + 4300); omega)⟩ (fun v914 u912 H locs hw913 hP hD hS => ?_)
              obtain ⟨at915, fa916, pl917⟩ := u912
              obtain ⟨hw913, h918, h919, h920, h921, h922, h923, h924, h925⟩ := hw913
              have h918 : at206 ≤ at915 := h918
              have h919 : at915 ≤ T := h919
              have h920 : fa207 ≤ fa916 := h920
              have h921 : fa916 ≤ 100 := h921
              have h922 : If (0 < fa207) (at915 = at206 ∧ fa916 = fa207) := h922
              have h923 : at915 ≤ at206 + 1 := h923
              have h924 : at206 + 1 ≤ at915 + fa916 := h924
              have h925 : If (fa916 = 0) (K at206 = 41) := h925
              obtain rfl : v914 = none := hw913
              have hP : va_P G.1 pCl (mW G h0 a (upd (upd (upd (upd (upd (upd (upd F 15 (nI fa916)) 16 pl917) 27 (nI nd20)) 31 (nI wr22)) 64 (nI at915)) 65 (nI ne)) 66 (nI lk21)) (updA (stR X24 12 nd (nI r23)) 2 K)) _ := mW_to (F := F) (l1 := [(15, (nI fa207)), (16, pl208), (27, (nI nd20)), (31, (nI wr22)), (64, (nI at206)), (65, (nI ne)), (66, (nI lk21)), (15, (nI fa916)), (16, pl917), (64, (nI at915))]) (l2 := [(15, (nI fa916)), (16, pl917), (27, (nI nd20)), (31, (nI wr22)), (64, (nI at915)), (65, (nI ne)), (66, (nI lk21))]) (V := [(nI fa916), pl917, (nI nd20), (nI wr22), (nI at915), (nI ne), (nI lk21), (nI fa916), pl917, (nI at915), (nI fa916), pl917, (nI nd20), (nI wr22), (nI at915), (nI ne), (nI lk21)]) rfl rfl (show (updA (updA (stR X24 12 nd (nI r23)) 2 K) 2 K) = (updA (stR X24 12 nd (nI r23)) 2 K) from updsA_eq2 (F := X24) (l1 := [(12, (upd (X24 12) nd (nI r23))), (2, K), (2, K)]) (l2 := [(12, (upd (X24 12) nd (nI r23))), (2, K)]) (V := [(upd (X24 12) nd (nI r23)), K, K, (upd (X24 12) nd (nI r23)), K]) rfl rfl) hP
              have hD : va_D A (mW G h0 a (upd (upd (upd (upd (upd (upd (upd F 15 (nI fa916)) 16 pl917) 27 (nI nd20)) 31 (nI wr22)) 64 (nI at915)) 65 (nI ne)) 66 (nI lk21)) (updA (stR X24 12 nd (nI r23)) 2 K)) := mW_D hD
              refine W.widen (k := 0) (n := 0) (Nat.le_of_ble_eq_true rfl) (Nat.le_of_ble_eq_true rfl) ?_
              refine W.eq (g2 := F0 m 112 ls []) rfl ?_
              obtain ⟨n927, n926⟩ := h922 e217
              replace n927 := n927.symm
              subst n927
              replace n926 := n926.symm
              subst n926
              refine lv_aload_n hx hb dX12_attempt_112 rfl (lv_at hl 5 rfl) ?_
              refine lv_bipush (v := 44) hx hb dX12_attempt_113 (by decide) ?_
              refine lv_iload_n hx hb dX12_attempt_115 rfl (lv_at hl 2 rfl) ?_
              refine lv_iload hx hb dX12_attempt_116 (lv_at hl 0 rfl) ?_
              refine lv_iload hx hb dX12_attempt_118 (lv_at hl 1 rfl) ?_
              refine lv_iconst (v := (-1)) hx hb dX12_attempt_120 (by decide) ?_
              have hP : va_P G.1 pCl (mW G h0 a (upd (upd (upd (upd (upd (upd (upd (upd F 15 (nI fa207)) 16 pl917) 27 (nI nd20)) 31 (nI wr22)) 64 (nI at206)) 65 (nI ne)) 66 (nI lk21)) 27 (nI nd20)) (updA (stR X24 12 nd (nI r23)) 2 K)) _ := hP
              have hD : va_D A (mW G h0 a (upd (upd (upd (upd (upd (upd (upd (upd F 15 (nI fa207)) 16 pl917) 27 (nI nd20)) 31 (nI wr22)) 64 (nI at206)) 65 (nI ne)) 66 (nI lk21)) 27 (nI nd20)) (updA (stR X24 12 nd (nI r23)) 2 K)) := mW_D hD
              refine pc_V0 (G := G) (As := [.int 44, .int (nI (at160 - 1)), .int (nI at191), .int (nI at176), .int (-1)]) (rest := []) hx hb hml hown hq hE hX pX0_al hP hD hS hA hl.1 (R_nodeB l G h0 a (upd (upd (upd (upd (upd (upd (upd F 15 (nI fa207)) 16 pl917) 27 (nI nd20)) 31 (nI wr22)) 64 (nI at206)) 65 (nI ne)) 66 (nI lk21)) (stR X24 12 nd (nI r23)) 44 (nI (at160 - 1)) (nI at191) (nI at176) (-1) nd20 K (by omega)) (gV pw_1650 pw_1651 pw_1652 pw_1523 pw_1589) hV_X12_node 0 9 rfl rfl rfl rfl (Nat.le_of_ble_eq_true rfl) dX12_attempt_121 ⟨Nat.le_of_ble_eq_true rfl, Nat.le_of_ble_eq_true rfl⟩ ⟨(by show 2 + 1 ≤ (26 * n + 43); omega), (by show 8 + (7 + 11) + 60 ≤ (2000 * n + 4300); omega)⟩ (fun v930 u928 H locs hw929 hP hD hS => ?_)
              obtain ⟨X931, rfl⟩ : ∃ z, z = u928 := ⟨_, rfl⟩
              obtain ⟨hw929, h932⟩ := hw929
              have h932 : NewN (stR X24 12 nd (nI r23)) X931 nd20 44 (nI (at160 - 1)) (nI at191) (nI at176) (-1) := h932
              obtain rfl : v930 = some (.int (nI nd20)) := hw929
              have hP : va_P G.1 pCl (mW G h0 a (upd (upd (upd (upd (upd (upd (upd F 15 (nI fa207)) 16 pl917) 27 (nI (nd20 + 1))) 31 (nI wr22)) 64 (nI at206)) 65 (nI ne)) 66 (nI lk21)) (updA X931 2 K)) _ := mW_to (F := F) (l1 := [(15, (nI fa207)), (16, pl917), (27, (nI nd20)), (31, (nI wr22)), (64, (nI at206)), (65, (nI ne)), (66, (nI lk21)), (27, (nI (nd20 + 1)))]) (l2 := [(15, (nI fa207)), (16, pl917), (27, (nI (nd20 + 1))), (31, (nI wr22)), (64, (nI at206)), (65, (nI ne)), (66, (nI lk21))]) (V := [(nI fa207), pl917, (nI (nd20 + 1)), (nI wr22), (nI at206), (nI ne), (nI lk21), (nI (nd20 + 1)), (nI fa207), pl917, (nI (nd20 + 1)), (nI wr22), (nI at206), (nI ne), (nI lk21)]) rfl rfl rfl hP
              have hD : va_D A (mW G h0 a (upd (upd (upd (upd (upd (upd (upd F 15 (nI fa207)) 16 pl917) 27 (nI (nd20 + 1))) 31 (nI wr22)) 64 (nI at206)) 65 (nI ne)) 66 (nI lk21)) (updA X931 2 K)) := mW_D hD
              refine W.widen (k := 0) (n := 0) (Nat.le_of_ble_eq_true rfl) (Nat.le_of_ble_eq_true rfl) ?_
              refine W.eq (g2 := F0 m 124 ls [.int (nI nd20)]) rfl ?_
              have hkp933 : Kp B X931 wr22 T := (Kp.new hkp48 h932)
              refine lv_istore (lv' := [(6, .int (nI nd20)), (5, .int (nI at191)), (4, .int (nI at176)), (3, .int (nI (at160 - 1))), (2, .int (-1)), (1, .int (nI nd)), (0, .ref h0)]) hx hb dX12_attempt_124 hl (by decide) rfl (fun ls hl => ?_)
              refine lv_aload_n hx hb dX12_attempt_126 rfl (lv_at hl 6 rfl) ?_
              refine r_get (v := .ref (a 13)) hx hb hown hq hE hP 21 50 tFX12_21 (by decide) pw_1443 rfl dX12_attempt_127 ?_
              refine lv_iload hx hb dX12_attempt_130 (lv_at hl 0 rfl) ?_
              refine lv_aload_n hx hb dX12_attempt_132 rfl (lv_at hl 6 rfl) ?_
              have hP : va_P G.1 pCl (mW G h0 a (upd (upd (upd (upd (upd (upd (upd (upd (upd (upd (upd F 15 (nI fa207)) 16 pl917) 27 (nI (nd20 + 1))) 31 (nI wr22)) 64 (nI at206)) 65 (nI ne)) 66 (nI lk21)) 15 (nI fa207)) 27 (nI (nd20 + 1))) 31 (nI wr22)) 64 (nI at206)) (updA X931 2 K)) _ := mW_to (F := F) (l1 := [(15, (nI fa207)), (16, pl917), (27, (nI (nd20 + 1))), (31, (nI wr22)), (64, (nI at206)), (65, (nI ne)), (66, (nI lk21))]) (l2 := [(15, (nI fa207)), (16, pl917), (27, (nI (nd20 + 1))), (31, (nI wr22)), (64, (nI at206)), (65, (nI ne)), (66, (nI lk21)), (15, (nI fa207)), (27, (nI (nd20 + 1))), (31, (nI wr22)), (64, (nI at206))]) (V := [(nI fa207), pl917, (nI (nd20 + 1)), (nI wr22), (nI at206), (nI ne), (nI lk21), (nI fa207), pl917, (nI (nd20 + 1)), (nI wr22), (nI at206), (nI ne), (nI lk21), (nI fa207), (nI (nd20 + 1)), (nI wr22), (nI at206)]) rfl rfl rfl hP
              have hD : va_D A (mW G h0 a (upd (upd (upd (upd (upd (upd (upd (upd (upd (upd (upd F 15 (nI fa207)) 16 pl917) 27 (nI (nd20 + 1))) 31 (nI wr22)) 64 (nI at206)) 65 (nI ne)) 66 (nI lk21)) 15 (nI fa207)) 27 (nI (nd20 + 1))) 31 (nI wr22)) 64 (nI at206)) (updA X931 2 K)) := mW_D hD
              refine pc_V0 (G := G) (As := []) (rest := [.int (nI nd20), .ref (a 13)]) hx hb hml hown hq hE hX pX0_al hP hD hS hA hl.1 (RF_block l G h0 a (upd (upd (upd (upd (upd (upd (upd F 15 (nI fa207)) 16 pl917) 27 (nI (nd20 + 1))) 31 (nI wr22)) 64 (nI at206)) 65 (nI ne)) 66 (nI lk21)) X931 at206 T fa207 (nd20 + 1) wr22 K (by omega) (by omega) hK (by omega) e217 (by omega) (by omega) (hkp933).2) (gV pw_1685 pw_1686 pw_1687 pw_1523 pw_1688) hV_X12_block 0 9 rfl rfl rfl rfl (Nat.le_of_ble_eq_true rfl) dX12_attempt_133 ⟨Nat.le_of_ble_eq_true rfl, Nat.le_of_ble_eq_true rfl⟩ ⟨(by show 5 + 1 ≤ (26 * n + 43); omega), (by show 8 + (4 + 11) + 124 ≤ (2000 * n + 4300); omega)⟩ (fun v936 u934 H locs hw935 hP hD hS => ?_)
              obtain ⟨pl937, wr938, X939⟩ := u934
              obtain ⟨hw935, h940, h941, h942⟩ := hw935
              have h940 : wr22 ≤ wr938 := h940
              have h941 : wr938 ≤ wr22 := h941
              have h942 : Kp X931 X939 wr938 T := h942
              obtain rfl : v936 = some (.int (nI (nd20 + 1))) := hw935
              have hP : va_P G.1 pCl (mW G h0 a (upd (upd (upd (upd (upd (upd (upd F 15 (nI fa207)) 16 pl937) 27 (nI ((nd20 + 1) + 1))) 31 (nI wr938)) 64 (nI at206)) 65 (nI ne)) 66 (nI lk21)) (updA X939 2 K)) _ := mW_to (F := F) (l1 := [(15, (nI fa207)), (16, pl917), (27, (nI (nd20 + 1))), (31, (nI wr22)), (64, (nI at206)), (65, (nI ne)), (66, (nI lk21)), (15, (nI fa207)), (16, pl937), (27, (nI ((nd20 + 1) + 1))), (31, (nI wr938)), (64, (nI at206))]) (l2 := [(15, (nI fa207)), (16, pl937), (27, (nI ((nd20 + 1) + 1))), (31, (nI wr938)), (64, (nI at206)), (65, (nI ne)), (66, (nI lk21))]) (V := [(nI fa207), pl937, (nI ((nd20 + 1) + 1)), (nI wr938), (nI at206), (nI ne), (nI lk21), (nI fa207), pl937, (nI ((nd20 + 1) + 1)), (nI wr938), (nI at206), (nI fa207), pl937, (nI ((nd20 + 1) + 1)), (nI wr938), (nI at206), (nI ne), (nI lk21)]) rfl rfl rfl hP
              have hD : va_D A (mW G h0 a (upd (upd (upd (upd (upd (upd (upd F 15 (nI fa207)) 16 pl937) 27 (nI ((nd20 + 1) + 1))) 31 (nI wr938)) 64 (nI at206)) 65 (nI ne)) 66 (nI lk21)) (updA X939 2 K)) := mW_D hD
              refine W.widen (k := 0) (n := 0) (Nat.le_of_ble_eq_true rfl) (Nat.le_of_ble_eq_true rfl) ?_
              refine W.eq (g2 := F0 m 136 ls [.int (nI (nd20 + 1)), .int (nI nd20), .ref (a 13)]) rfl ?_
              have hkp943 : Kp B X939 wr938 T := (Kp.trans hkp933 h942)
              refine r_sti (f := (X939 13)) (j := nd20) hx hb hE hP hD hS 13 (ma_13 G a _) rfl (mas_13 G a _) (by omega) (by decide) dX12_attempt_136 (fun H locs hP hD hS => ?_)
              have hP : va_P G.1 pCl (mW G h0 a (upd (upd (upd (upd (upd (upd (upd F 15 (nI fa207)) 16 pl937) 27 (nI ((nd20 + 1) + 1))) 31 (nI wr938)) 64 (nI at206)) 65 (nI ne)) 66 (nI lk21)) (updA (stR X939 13 nd20 (nI (nd20 + 1))) 2 K)) _ := mW_to (F := F) (l1 := [(15, (nI fa207)), (16, pl937), (27, (nI ((nd20 + 1) + 1))), (31, (nI wr938)), (64, (nI at206)), (65, (nI ne)), (66, (nI lk21))]) (l2 := [(15, (nI fa207)), (16, pl937), (27, (nI ((nd20 + 1) + 1))), (31, (nI wr938)), (64, (nI at206)), (65, (nI ne)), (66, (nI lk21))]) (V := [(nI fa207), pl937, (nI ((nd20 + 1) + 1)), (nI wr938), (nI at206), (nI ne), (nI lk21), (nI fa207), pl937, (nI ((nd20 + 1) + 1)), (nI wr938), (nI at206), (nI ne), (nI lk21)]) rfl rfl (show (updA (updA X939 2 K) 13 (upd (X939 13) nd20 (nI (nd20 + 1)))) = (updA (stR X939 13 nd20 (nI (nd20 + 1))) 2 K) from updsA_eq2 (F := X939) (l1 := [(2, K), (13, (upd (X939 13) nd20 (nI (nd20 + 1))))]) (l2 := [(13, (upd (X939 13) nd20 (nI (nd20 + 1)))), (2, K)]) (V := [K, (upd (X939 13) nd20 (nI (nd20 + 1))), (upd (X939 13) nd20 (nI (nd20 + 1))), K]) rfl rfl) hP
              have hD : va_D A (mW G h0 a (upd (upd (upd (upd (upd (upd (upd F 15 (nI fa207)) 16 pl937) 27 (nI ((nd20 + 1) + 1))) 31 (nI wr938)) 64 (nI at206)) 65 (nI ne)) 66 (nI lk21)) (updA (stR X939 13 nd20 (nI (nd20 + 1))) 2 K)) := mW_D hD
              have hkp944 : Kp B (stR X939 13 nd20 (nI (nd20 + 1))) wr938 T := (Kp.row hkp943 (by omega))
              refine lv_iload_n hx hb dX12_attempt_137 rfl (lv_at hl 4 rfl) ?_
              refine lv_iconst (v := (-1)) hx hb dX12_attempt_138 (by decide) ?_
              refine lv_icmp_ne (tgt := 153) hx hb dX12_attempt_139 (by decide) (fun c945 => absurd c945 (by decide)) (fun c945 => ?_)
              refine lv_aload_n hx hb dX12_attempt_142 rfl (lv_at hl 6 rfl) ?_
              refine r_get (v := .ref (a 13)) hx hb hown hq hE hP 21 50 tFX12_21 (by decide) pw_1443 rfl dX12_attempt_143 ?_
              refine lv_iload_n hx hb dX12_attempt_146 rfl (lv_at hl 5 rfl) ?_
              refine lv_iload hx hb dX12_attempt_147 (lv_at hl 0 rfl) ?_
              refine r_sti (f := ((stR X939 13 nd20 (nI (nd20 + 1))) 13)) (j := nd) hx hb hE hP hD hS 13 (ma_13 G a _) rfl (mas_13 G a _) (by omega) (by decide) dX12_attempt_149 (fun H locs hP hD hS => ?_)
              have hP : va_P G.1 pCl (mW G h0 a (upd (upd (upd (upd (upd (upd (upd F 15 (nI fa207)) 16 pl937) 27 (nI ((nd20 + 1) + 1))) 31 (nI wr938)) 64 (nI at206)) 65 (nI ne)) 66 (nI lk21)) (updA (stR (stR X939 13 nd20 (nI (nd20 + 1))) 13 nd (nI nd20)) 2 K)) _ := mW_to (F := F) (l1 := [(15, (nI fa207)), (16, pl937), (27, (nI ((nd20 + 1) + 1))), (31, (nI wr938)), (64, (nI at206)), (65, (nI ne)), (66, (nI lk21))]) (l2 := [(15, (nI fa207)), (16, pl937), (27, (nI ((nd20 + 1) + 1))), (31, (nI wr938)), (64, (nI at206)), (65, (nI ne)), (66, (nI lk21))]) (V := [(nI fa207), pl937, (nI ((nd20 + 1) + 1)), (nI wr938), (nI at206), (nI ne), (nI lk21), (nI fa207), pl937, (nI ((nd20 + 1) + 1)), (nI wr938), (nI at206), (nI ne), (nI lk21)]) rfl rfl (show (updA (updA (stR X939 13 nd20 (nI (nd20 + 1))) 2 K) 13 (upd ((stR X939 13 nd20 (nI (nd20 + 1))) 13) nd (nI nd20))) = (updA (stR (stR X939 13 nd20 (nI (nd20 + 1))) 13 nd (nI nd20)) 2 K) from updsA_eq2 (F := X939) (l1 := [(13, (upd (X939 13) nd20 (nI (nd20 + 1)))), (2, K), (13, (upd ((stR X939 13 nd20 (nI (nd20 + 1))) 13) nd (nI nd20)))]) (l2 := [(13, (upd (X939 13) nd20 (nI (nd20 + 1)))), (13, (upd ((stR X939 13 nd20 (nI (nd20 + 1))) 13) nd (nI nd20))), (2, K)]) (V := [(upd ((stR X939 13 nd20 (nI (nd20 + 1))) 13) nd (nI nd20)), K, (upd ((stR X939 13 nd20 (nI (nd20 + 1))) 13) nd (nI nd20)), (upd ((stR X939 13 nd20 (nI (nd20 + 1))) 13) nd (nI nd20)), (upd ((stR X939 13 nd20 (nI (nd20 + 1))) 13) nd (nI nd20)), K]) rfl rfl) hP
              have hD : va_D A (mW G h0 a (upd (upd (upd (upd (upd (upd (upd F 15 (nI fa207)) 16 pl937) 27 (nI ((nd20 + 1) + 1))) 31 (nI wr938)) 64 (nI at206)) 65 (nI ne)) 66 (nI lk21)) (updA (stR (stR X939 13 nd20 (nI (nd20 + 1))) 13 nd (nI nd20)) 2 K)) := mW_D hD
              have hkp946 : Kp B (stR (stR X939 13 nd20 (nI (nd20 + 1))) 13 nd (nI nd20)) wr938 T := (Kp.row hkp944 (by omega))
              refine lv_goto (tgt := 161) hx hb dX12_attempt_150 (by decide) ?_
              refine lv_iload hx hb dX12_attempt_161 (lv_at hl 0 rfl) ?_
              refine lv_istore_n (lv' := [(2, .int (nI nd20)), (6, .int (nI nd20)), (5, .int (nI at191)), (4, .int (nI at176)), (3, .int (nI (at160 - 1))), (1, .int (nI nd)), (0, .ref h0)]) hx hb dX12_attempt_163 rfl hl (by decide) rfl (fun ls hl => ?_)
              refine lv_goto (tgt := 71) hx hb dX12_attempt_164 (by decide) ?_
              refine lv_aload_n hx hb dX12_attempt_71 rfl (lv_at hl 6 rfl) ?_
              refine lv_sipush (v := 313) hx hb dX12_attempt_72 (by decide) ?_
              have hP : va_P G.1 pCl (mW G h0 a (upd (upd (upd (upd (upd (upd (upd (upd (upd F 15 (nI fa207)) 16 pl937) 27 (nI ((nd20 + 1) + 1))) 31 (nI wr938)) 64 (nI at206)) 65 (nI ne)) 66 (nI lk21)) 15 (nI fa207)) 64 (nI at206)) (updA (updA (stR (stR X939 13 nd20 (nI (nd20 + 1))) 13 nd (nI nd20)) 2 K) 2 K)) _ := mW_to (F := F) (l1 := [(15, (nI fa207)), (16, pl937), (27, (nI ((nd20 + 1) + 1))), (31, (nI wr938)), (64, (nI at206)), (65, (nI ne)), (66, (nI lk21))]) (l2 := [(15, (nI fa207)), (16, pl937), (27, (nI ((nd20 + 1) + 1))), (31, (nI wr938)), (64, (nI at206)), (65, (nI ne)), (66, (nI lk21)), (15, (nI fa207)), (64, (nI at206))]) (V := [(nI fa207), pl937, (nI ((nd20 + 1) + 1)), (nI wr938), (nI at206), (nI ne), (nI lk21), (nI fa207), pl937, (nI ((nd20 + 1) + 1)), (nI wr938), (nI at206), (nI ne), (nI lk21), (nI fa207), (nI at206)]) rfl rfl (show (updA (stR (stR X939 13 nd20 (nI (nd20 + 1))) 13 nd (nI nd20)) 2 K) = (updA (updA (stR (stR X939 13 nd20 (nI (nd20 + 1))) 13 nd (nI nd20)) 2 K) 2 K) from updsA_eq2 (F := X939) (l1 := [(13, (upd (X939 13) nd20 (nI (nd20 + 1)))), (13, (upd ((stR X939 13 nd20 (nI (nd20 + 1))) 13) nd (nI nd20))), (2, K)]) (l2 := [(13, (upd (X939 13) nd20 (nI (nd20 + 1)))), (13, (upd ((stR X939 13 nd20 (nI (nd20 + 1))) 13) nd (nI nd20))), (2, K), (2, K)]) (V := [(upd ((stR X939 13 nd20 (nI (nd20 + 1))) 13) nd (nI nd20)), (upd ((stR X939 13 nd20 (nI (nd20 + 1))) 13) nd (nI nd20)), K, (upd ((stR X939 13 nd20 (nI (nd20 + 1))) 13) nd (nI nd20)), (upd ((stR X939 13 nd20 (nI (nd20 + 1))) 13) nd (nI nd20)), K, K]) rfl rfl) hP
              have hD : va_D A (mW G h0 a (upd (upd (upd (upd (upd (upd (upd (upd (upd F 15 (nI fa207)) 16 pl937) 27 (nI ((nd20 + 1) + 1))) 31 (nI wr938)) 64 (nI at206)) 65 (nI ne)) 66 (nI lk21)) 15 (nI fa207)) 64 (nI at206)) (updA (updA (stR (stR X939 13 nd20 (nI (nd20 + 1))) 13 nd (nI nd20)) 2 K) 2 K)) := mW_D hD
              refine pc_V0 (G := G) (As := [.int 313]) (rest := []) hx hb hml hown hq hE hX pX0_al hP hD hS hA hl.1 (R_may l G h0 a (upd (upd (upd (upd (upd (upd (upd F 15 (nI fa207)) 16 pl937) 27 (nI ((nd20 + 1) + 1))) 31 (nI wr938)) 64 (nI at206)) 65 (nI ne)) 66 (nI lk21)) (updA (stR (stR X939 13 nd20 (nI (nd20 + 1))) 13 nd (nI nd20)) 2 K) at206 T fa207 K 313 (by omega) (by omega) hK (by omega) (by decide) (by decide)) (gV pw_1621 pw_1622 pw_1623 pw_1523 pw_1605) hV_X12_may 0 9 rfl rfl rfl rfl (Nat.le_of_ble_eq_true rfl) dX12_attempt_75 ⟨Nat.le_of_ble_eq_true rfl, Nat.le_of_ble_eq_true rfl⟩ ⟨(by show 3 + 1 ≤ (26 * n + 43); omega), (by show 8 + (3 + 11) + 81 ≤ (2000 * n + 4300); omega)⟩ (fun v949 u947 H locs hw948 hP hD hS => ?_)
              obtain ⟨at950, r951⟩ := u947
              obtain ⟨hw948, h952, h953, h954, h955, h956, h957⟩ := hw948
              have h952 : r951 ≤ 1 := h952
              have h953 : fa207 + 100 * r951 ≤ 100 := h953
              have h954 : at950 = at206 + r951 := h954
              have h955 : at950 ≤ T := h955
              have h956 : If (r951 = 1) (K at206 = 313) := h956
              have h957 : If (r951 = 0) (fa207 = 0 → ¬ K at206 = 313) := h957
              obtain rfl : v949 = some (.int (nI r951)) := hw948
              have hP : va_P G.1 pCl (mW G h0 a (upd (upd (upd (upd (upd (upd (upd F 15 (nI fa207)) 16 pl937) 27 (nI ((nd20 + 1) + 1))) 31 (nI wr938)) 64 (nI at950)) 65 (nI ne)) 66 (nI lk21)) (updA (stR (stR X939 13 nd20 (nI (nd20 + 1))) 13 nd (nI nd20)) 2 K)) _ := mW_to (F := F) (l1 := [(15, (nI fa207)), (16, pl937), (27, (nI ((nd20 + 1) + 1))), (31, (nI wr938)), (64, (nI at206)), (65, (nI ne)), (66, (nI lk21)), (15, (nI fa207)), (64, (nI at950))]) (l2 := [(15, (nI fa207)), (16, pl937), (27, (nI ((nd20 + 1) + 1))), (31, (nI wr938)), (64, (nI at950)), (65, (nI ne)), (66, (nI lk21))]) (V := [(nI fa207), pl937, (nI ((nd20 + 1) + 1)), (nI wr938), (nI at950), (nI ne), (nI lk21), (nI fa207), (nI at950), (nI fa207), pl937, (nI ((nd20 + 1) + 1)), (nI wr938), (nI at950), (nI ne), (nI lk21)]) rfl rfl (show (updA (updA (stR (stR X939 13 nd20 (nI (nd20 + 1))) 13 nd (nI nd20)) 2 K) 2 K) = (updA (stR (stR X939 13 nd20 (nI (nd20 + 1))) 13 nd (nI nd20)) 2 K) from updsA_eq2 (F := X939) (l1 := [(13, (upd (X939 13) nd20 (nI (nd20 + 1)))), (13, (upd ((stR X939 13 nd20 (nI (nd20 + 1))) 13) nd (nI nd20))), (2, K), (2, K)]) (l2 := [(13, (upd (X939 13) nd20 (nI (nd20 + 1)))), (13, (upd ((stR X939 13 nd20 (nI (nd20 + 1))) 13) nd (nI nd20))), (2, K)]) (V := [(upd ((stR X939 13 nd20 (nI (nd20 + 1))) 13) nd (nI nd20)), (upd ((stR X939 13 nd20 (nI (nd20 + 1))) 13) nd (nI nd20)), K, K, (upd ((stR X939 13 nd20 (nI (nd20 + 1))) 13) nd (nI nd20)), (upd ((stR X939 13 nd20 (nI (nd20 + 1))) 13) nd (nI nd20)), K]) rfl rfl) hP
              have hD : va_D A (mW G h0 a (upd (upd (upd (upd (upd (upd (upd F 15 (nI fa207)) 16 pl937) 27 (nI ((nd20 + 1) + 1))) 31 (nI wr938)) 64 (nI at950)) 65 (nI ne)) 66 (nI lk21)) (updA (stR (stR X939 13 nd20 (nI (nd20 + 1))) 13 nd (nI nd20)) 2 K)) := mW_D hD
              refine W.widen (k := 0) (n := 0) (Nat.le_of_ble_eq_true rfl) (Nat.le_of_ble_eq_true rfl) ?_
              refine W.eq (g2 := F0 m 78 ls [.int (nI r951)]) rfl ?_
              obtain rfl : at206 = at950 := (by omega)
              refine lv_if_eq (tgt := 167) hx hb dX12_attempt_78 (by decide) (fun c958 => ?_) (fun c958 => (by have n959 : ¬ (r951 = 0) := fun h9 => c958 ((nI_eq (a := r951) (b := 0) (by omega) (by omega)).mpr h9); omega))
              refine lv_aload_n hx hb dX12_attempt_167 rfl (lv_at hl 6 rfl) ?_
              refine lv_sipush (v := 319) hx hb dX12_attempt_168 (by decide) ?_
              have hP : va_P G.1 pCl (mW G h0 a (upd (upd (upd (upd (upd (upd (upd (upd (upd F 15 (nI fa207)) 16 pl937) 27 (nI ((nd20 + 1) + 1))) 31 (nI wr938)) 64 (nI at206)) 65 (nI ne)) 66 (nI lk21)) 15 (nI fa207)) 64 (nI at206)) (updA (updA (stR (stR X939 13 nd20 (nI (nd20 + 1))) 13 nd (nI nd20)) 2 K) 2 K)) _ := hP
              have hD : va_D A (mW G h0 a (upd (upd (upd (upd (upd (upd (upd (upd (upd F 15 (nI fa207)) 16 pl937) 27 (nI ((nd20 + 1) + 1))) 31 (nI wr938)) 64 (nI at206)) 65 (nI ne)) 66 (nI lk21)) 15 (nI fa207)) 64 (nI at206)) (updA (updA (stR (stR X939 13 nd20 (nI (nd20 + 1))) 13 nd (nI nd20)) 2 K) 2 K)) := mW_D hD
              refine pc_V0 (G := G) (As := [.int 319]) (rest := []) hx hb hml hown hq hE hX pX0_al hP hD hS hA hl.1 (R_may l G h0 a (upd (upd (upd (upd (upd (upd (upd F 15 (nI fa207)) 16 pl937) 27 (nI ((nd20 + 1) + 1))) 31 (nI wr938)) 64 (nI at206)) 65 (nI ne)) 66 (nI lk21)) (updA (stR (stR X939 13 nd20 (nI (nd20 + 1))) 13 nd (nI nd20)) 2 K) at206 T fa207 K 319 (by omega) (by omega) hK (by omega) (by decide) (by decide)) (gV pw_1621 pw_1622 pw_1623 pw_1523 pw_1605) hV_X12_may 0 9 rfl rfl rfl rfl (Nat.le_of_ble_eq_true rfl) dX12_attempt_171 ⟨Nat.le_of_ble_eq_true rfl, Nat.le_of_ble_eq_true rfl⟩ ⟨(by show 3 + 1 ≤ (26 * n + 43); omega), (by show 8 + (3 + 11) + 81 ≤ (2000 * n + 4300); omega)⟩ (fun v962 u960 H locs hw961 hP hD hS => ?_)
              obtain ⟨at963, r964⟩ := u960
              obtain ⟨hw961, h965, h966, h967, h968, h969, h970⟩ := hw961
              have h965 : r964 ≤ 1 := h965
              have h966 : fa207 + 100 * r964 ≤ 100 := h966
              have h967 : at963 = at206 + r964 := h967
              have h968 : at963 ≤ T := h968
              have h969 : If (r964 = 1) (K at206 = 319) := h969
              have h970 : If (r964 = 0) (fa207 = 0 → ¬ K at206 = 319) := h970
              obtain rfl : v962 = some (.int (nI r964)) := hw961
              have hP : va_P G.1 pCl (mW G h0 a (upd (upd (upd (upd (upd (upd (upd F 15 (nI fa207)) 16 pl937) 27 (nI ((nd20 + 1) + 1))) 31 (nI wr938)) 64 (nI at963)) 65 (nI ne)) 66 (nI lk21)) (updA (stR (stR X939 13 nd20 (nI (nd20 + 1))) 13 nd (nI nd20)) 2 K)) _ := mW_to (F := F) (l1 := [(15, (nI fa207)), (16, pl937), (27, (nI ((nd20 + 1) + 1))), (31, (nI wr938)), (64, (nI at206)), (65, (nI ne)), (66, (nI lk21)), (15, (nI fa207)), (64, (nI at963))]) (l2 := [(15, (nI fa207)), (16, pl937), (27, (nI ((nd20 + 1) + 1))), (31, (nI wr938)), (64, (nI at963)), (65, (nI ne)), (66, (nI lk21))]) (V := [(nI fa207), pl937, (nI ((nd20 + 1) + 1)), (nI wr938), (nI at963), (nI ne), (nI lk21), (nI fa207), (nI at963), (nI fa207), pl937, (nI ((nd20 + 1) + 1)), (nI wr938), (nI at963), (nI ne), (nI lk21)]) rfl rfl (show (updA (updA (stR (stR X939 13 nd20 (nI (nd20 + 1))) 13 nd (nI nd20)) 2 K) 2 K) = (updA (stR (stR X939 13 nd20 (nI (nd20 + 1))) 13 nd (nI nd20)) 2 K) from updsA_eq2 (F := X939) (l1 := [(13, (upd (X939 13) nd20 (nI (nd20 + 1)))), (13, (upd ((stR X939 13 nd20 (nI (nd20 + 1))) 13) nd (nI nd20))), (2, K), (2, K)]) (l2 := [(13, (upd (X939 13) nd20 (nI (nd20 + 1)))), (13, (upd ((stR X939 13 nd20 (nI (nd20 + 1))) 13) nd (nI nd20))), (2, K)]) (V := [(upd ((stR X939 13 nd20 (nI (nd20 + 1))) 13) nd (nI nd20)), (upd ((stR X939 13 nd20 (nI (nd20 + 1))) 13) nd (nI nd20)), K, K, (upd ((stR X939 13 nd20 (nI (nd20 + 1))) 13) nd (nI nd20)), (upd ((stR X939 13 nd20 (nI (nd20 + 1))) 13) nd (nI nd20)), K]) rfl rfl) hP
              have hD : va_D A (mW G h0 a (upd (upd (upd (upd (upd (upd (upd F 15 (nI fa207)) 16 pl937) 27 (nI ((nd20 + 1) + 1))) 31 (nI wr938)) 64 (nI at963)) 65 (nI ne)) 66 (nI lk21)) (updA (stR (stR X939 13 nd20 (nI (nd20 + 1))) 13 nd (nI nd20)) 2 K)) := mW_D hD
              refine W.widen (k := 0) (n := 0) (Nat.le_of_ble_eq_true rfl) (Nat.le_of_ble_eq_true rfl) ?_
              refine W.eq (g2 := F0 m 174 ls [.int (nI r964)]) rfl ?_
              obtain rfl : at206 = at963 := (by omega)
              refine lv_if_eq (tgt := 187) hx hb dX12_attempt_174 (by decide) (fun c971 => ?_) (fun c971 => (by have n972 : ¬ (r964 = 0) := fun h9 => c971 ((nI_eq (a := r964) (b := 0) (by omega) (by omega)).mpr h9); omega))
              refine lv_iload_n hx hb dX12_attempt_187 rfl (lv_at hl 5 rfl) ?_
              have hz973 : at0 ≤ at206 := (by omega)
              have hz974 : at206 ≤ T := (by omega)
              have hz975 : fa207 ≤ 100 := (by omega)
              have hz976 : nd ≤ ((nd20 + 1) + 1) := (by omega)
              have hz977 : ((nd20 + 1) + 1) + 2 * at0 ≤ nd + 2 * at206 + 100000 * fa207 := (by omega)
              have hz978 : ((nd20 + 1) + 1) + 2 * at0 ≤ nd + 2 * at206 + (60 * (21 - ne) + 40) := (by omega)
              have hz979 : wr ≤ wr938 := (by omega)
              have hz980 : wr938 + at0 ≤ wr + at206 := (by omega)
              have hz981 : lk ≤ lk21 := (by omega)
              have hz982 : lk21 ≤ 60 + 100 * fa207 := (by omega)
              have hz983 : at0 + 1 ≤ at206 + fa207 := (by omega)
              have hz984 : nd ≤ ((nd20 + 1) + 1) := (by omega)
              have hz985 : Kp B (stR (stR X939 13 nd20 (nI (nd20 + 1))) 13 nd (nI nd20)) wr938 T := hkp946
              have hz986 : If (fa207 = 0) (Low B (stR (stR X939 13 nd20 (nI (nd20 + 1))) 13 nd (nI nd20)) nd wr ∧ Frs K T wr938 (stR (stR X939 13 nd20 (nI (nd20 + 1))) 13 nd (nI nd20)) nd ((nd20 + 1) + 1) 20000 [(nd, (280 + 4 * (21 - ne)))] ∧ kcl 3 ((stR (stR X939 13 nd20 (nI (nd20 + 1))) 13 nd (nI nd20)) 9 nd) = true) := (fun e => absurd e (by omega))
              have hP : va_P G.1 pCl (mW G h0 a (upd (upd (upd (upd (upd (upd (upd F 15 (nI fa207)) 16 pl937) 27 (nI ((nd20 + 1) + 1))) 31 (nI wr938)) 64 (nI at206)) 65 (nI ne)) 66 (nI lk21)) (updA (stR (stR X939 13 nd20 (nI (nd20 + 1))) 13 nd (nI nd20)) 2 K)) _ := hP
              have hD : va_D A (mW G h0 a (upd (upd (upd (upd (upd (upd (upd F 15 (nI fa207)) 16 pl937) 27 (nI ((nd20 + 1) + 1))) 31 (nI wr938)) 64 (nI at206)) 65 (nI ne)) 66 (nI lk21)) (updA (stR (stR X939 13 nd20 (nI (nd20 + 1))) 13 nd (nI nd20)) 2 K)) := mW_D hD
              exact W.iret (v := (nI nd)) hx hb hr (fun t9 ht9 hW9 => ⟨⟨_, (at206, fa207, pl937, ((nd20 + 1) + 1), lk21, wr938, nd, (stR (stR X939 13 nd20 (nI (nd20 + 1))) 13 nd (nI nd20))), rfl, ⟨rfl, hz973, hz974, hz975, hz976, hz977, hz978, hz979, hz980, hz981, hz982, hz983, hz984, hz985, hz986⟩, by rw [ht9]; exact hP, hD⟩, hS.F ht9⟩) hS.2.2 dX12_attempt_188
          · have e202 := e202
            refine lv_istore (lv' := [(4, .int (nI at176)), (3, .int (nI (at160 - 1))), (2, .int (-1)), (1, .int (nI nd)), (0, .ref h0)]) hx hb dX12_attempt_98 hl (by decide) rfl (fun ls hl => ?_)
            refine lv_aload_n hx hb dX12_attempt_100 rfl (lv_at hl 4 rfl) ?_
            have hP : va_P G.1 pCl (mW G h0 a (upd (upd (upd (upd (upd (upd (upd (upd (upd F 15 (nI fa192)) 16 pl193) 27 (nI nd20)) 31 (nI wr22)) 64 (nI at191)) 65 (nI ne)) 66 (nI lk21)) 15 (nI fa192)) 64 (nI at191)) (updA (updA (stR X24 12 nd (nI r23)) 2 K) 2 K)) _ := mW_to (F := F) (l1 := [(15, (nI fa192)), (16, pl193), (27, (nI nd20)), (31, (nI wr22)), (64, (nI at191)), (65, (nI ne)), (66, (nI lk21))]) (l2 := [(15, (nI fa192)), (16, pl193), (27, (nI nd20)), (31, (nI wr22)), (64, (nI at191)), (65, (nI ne)), (66, (nI lk21)), (15, (nI fa192)), (64, (nI at191))]) (V := [(nI fa192), pl193, (nI nd20), (nI wr22), (nI at191), (nI ne), (nI lk21), (nI fa192), pl193, (nI nd20), (nI wr22), (nI at191), (nI ne), (nI lk21), (nI fa192), (nI at191)]) rfl rfl (show (updA (stR X24 12 nd (nI r23)) 2 K) = (updA (updA (stR X24 12 nd (nI r23)) 2 K) 2 K) from updsA_eq2 (F := X24) (l1 := [(12, (upd (X24 12) nd (nI r23))), (2, K)]) (l2 := [(12, (upd (X24 12) nd (nI r23))), (2, K), (2, K)]) (V := [(upd (X24 12) nd (nI r23)), K, (upd (X24 12) nd (nI r23)), K, K]) rfl rfl) hP
            have hD : va_D A (mW G h0 a (upd (upd (upd (upd (upd (upd (upd (upd (upd F 15 (nI fa192)) 16 pl193) 27 (nI nd20)) 31 (nI wr22)) 64 (nI at191)) 65 (nI ne)) 66 (nI lk21)) 15 (nI fa192)) 64 (nI at191)) (updA (updA (stR X24 12 nd (nI r23)) 2 K) 2 K)) := mW_D hD
            refine pc_V0 (G := G) (As := []) (rest := []) hx hb hml hown hq hE hX pX0_al hP hD hS hA hl.1 (R_name l G h0 a (upd (upd (upd (upd (upd (upd (upd F 15 (nI fa192)) 16 pl193) 27 (nI nd20)) 31 (nI wr22)) 64 (nI at191)) 65 (nI ne)) 66 (nI lk21)) (updA (stR X24 12 nd (nI r23)) 2 K) at191 T fa192 K (by omega) (by omega) hK (by omega)) (gV pw_1618 pw_1619 pw_1620 pw_1523 pw_1613) hV_X12_name 0 9 rfl rfl rfl rfl (Nat.le_of_ble_eq_true rfl) dX12_attempt_101 ⟨Nat.le_of_ble_eq_true rfl, Nat.le_of_ble_eq_true rfl⟩ ⟨(by show 5 + 1 ≤ (26 * n + 43); omega), (by show 8 + (2 + 11) + 124 ≤ (2000 * n + 4300); omega)⟩ (fun v989 u987 H locs hw988 hP hD hS => ?_)
            obtain ⟨at990, fa991, pl992⟩ := u987
            obtain ⟨hw988, h993, h994, h995, h996, h997, h998, h999, h1000⟩ := hw988
            have h993 : at191 ≤ at990 := h993
            have h994 : at990 ≤ T := h994
            have h995 : fa192 ≤ fa991 := h995
            have h996 : fa991 ≤ 100 := h996
            have h997 : If (0 < fa192) (at990 = at191 ∧ fa991 = fa192) := h997
            have h998 : at990 ≤ at191 + 1 := h998
            have h999 : at191 + 1 ≤ at990 + fa991 := h999
            have h1000 : If (fa991 = 0) (K at191 = 1) := h1000
            obtain rfl : v989 = some (.int (nI at191)) := hw988
            have hP : va_P G.1 pCl (mW G h0 a (upd (upd (upd (upd (upd (upd (upd F 15 (nI fa991)) 16 pl992) 27 (nI nd20)) 31 (nI wr22)) 64 (nI at990)) 65 (nI ne)) 66 (nI lk21)) (updA (stR X24 12 nd (nI r23)) 2 K)) _ := mW_to (F := F) (l1 := [(15, (nI fa192)), (16, pl193), (27, (nI nd20)), (31, (nI wr22)), (64, (nI at191)), (65, (nI ne)), (66, (nI lk21)), (15, (nI fa991)), (16, pl992), (64, (nI at990))]) (l2 := [(15, (nI fa991)), (16, pl992), (27, (nI nd20)), (31, (nI wr22)), (64, (nI at990)), (65, (nI ne)), (66, (nI lk21))]) (V := [(nI fa991), pl992, (nI nd20), (nI wr22), (nI at990), (nI ne), (nI lk21), (nI fa991), pl992, (nI at990), (nI fa991), pl992, (nI nd20), (nI wr22), (nI at990), (nI ne), (nI lk21)]) rfl rfl (show (updA (updA (stR X24 12 nd (nI r23)) 2 K) 2 K) = (updA (stR X24 12 nd (nI r23)) 2 K) from updsA_eq2 (F := X24) (l1 := [(12, (upd (X24 12) nd (nI r23))), (2, K), (2, K)]) (l2 := [(12, (upd (X24 12) nd (nI r23))), (2, K)]) (V := [(upd (X24 12) nd (nI r23)), K, K, (upd (X24 12) nd (nI r23)), K]) rfl rfl) hP
            have hD : va_D A (mW G h0 a (upd (upd (upd (upd (upd (upd (upd F 15 (nI fa991)) 16 pl992) 27 (nI nd20)) 31 (nI wr22)) 64 (nI at990)) 65 (nI ne)) 66 (nI lk21)) (updA (stR X24 12 nd (nI r23)) 2 K)) := mW_D hD
            refine W.widen (k := 0) (n := 0) (Nat.le_of_ble_eq_true rfl) (Nat.le_of_ble_eq_true rfl) ?_
            refine W.eq (g2 := F0 m 104 ls [.int (nI at191)]) rfl ?_
            obtain ⟨n1002, n1001⟩ := h997 e202
            replace n1002 := n1002.symm
            subst n1002
            replace n1001 := n1001.symm
            subst n1001
            refine lv_istore (lv' := [(5, .int (nI at191)), (4, .int (nI at176)), (3, .int (nI (at160 - 1))), (2, .int (-1)), (1, .int (nI nd)), (0, .ref h0)]) hx hb dX12_attempt_104 hl (by decide) rfl (fun ls hl => ?_)
            refine lv_aload_n hx hb dX12_attempt_106 rfl (lv_at hl 5 rfl) ?_
            refine lv_bipush (v := 41) hx hb dX12_attempt_107 (by decide) ?_
            have hP : va_P G.1 pCl (mW G h0 a (upd (upd (upd (upd (upd (upd (upd (upd (upd F 15 (nI fa192)) 16 pl992) 27 (nI nd20)) 31 (nI wr22)) 64 (nI at191)) 65 (nI ne)) 66 (nI lk21)) 15 (nI fa192)) 64 (nI at191)) (updA (updA (stR X24 12 nd (nI r23)) 2 K) 2 K)) _ := hP
            have hD : va_D A (mW G h0 a (upd (upd (upd (upd (upd (upd (upd (upd (upd F 15 (nI fa192)) 16 pl992) 27 (nI nd20)) 31 (nI wr22)) 64 (nI at191)) 65 (nI ne)) 66 (nI lk21)) 15 (nI fa192)) 64 (nI at191)) (updA (updA (stR X24 12 nd (nI r23)) 2 K) 2 K)) := mW_D hD
            refine pc_V0 (G := G) (As := [.int 41]) (rest := []) hx hb hml hown hq hE hX pX0_al hP hD hS hA hl.1 (R_take l G h0 a (upd (upd (upd (upd (upd (upd (upd F 15 (nI fa192)) 16 pl992) 27 (nI nd20)) 31 (nI wr22)) 64 (nI at191)) 65 (nI ne)) 66 (nI lk21)) (updA (stR X24 12 nd (nI r23)) 2 K) at191 T fa192 K 41 (by omega) (by omega) hK (by omega) (by decide) (by decide)) (gV pw_1614 pw_1615 pw_1616 pw_1523 pw_1601) hV_X12_take 0 9 rfl rfl rfl rfl (Nat.le_of_ble_eq_true rfl) dX12_attempt_109 ⟨Nat.le_of_ble_eq_true rfl, Nat.le_of_ble_eq_true rfl⟩ ⟨(by show 4 + 1 ≤ (26 * n + 43); omega), (by show 8 + (2 + 11) + 103 ≤ (2000 * n + 4300); omega)⟩ (fun v1005 u1003 H locs hw1004 hP hD hS => ?_)
            obtain ⟨at1006, fa1007, pl1008⟩ := u1003
            obtain ⟨hw1004, h1009, h1010, h1011, h1012, h1013, h1014, h1015, h1016⟩ := hw1004
            have h1009 : at191 ≤ at1006 := h1009
            have h1010 : at1006 ≤ T := h1010
            have h1011 : fa192 ≤ fa1007 := h1011
            have h1012 : fa1007 ≤ 100 := h1012
            have h1013 : If (0 < fa192) (at1006 = at191 ∧ fa1007 = fa192) := h1013
            have h1014 : at1006 ≤ at191 + 1 := h1014
            have h1015 : at191 + 1 ≤ at1006 + fa1007 := h1015
            have h1016 : If (fa1007 = 0) (K at191 = 41) := h1016
            obtain rfl : v1005 = none := hw1004
            have hP : va_P G.1 pCl (mW G h0 a (upd (upd (upd (upd (upd (upd (upd F 15 (nI fa1007)) 16 pl1008) 27 (nI nd20)) 31 (nI wr22)) 64 (nI at1006)) 65 (nI ne)) 66 (nI lk21)) (updA (stR X24 12 nd (nI r23)) 2 K)) _ := mW_to (F := F) (l1 := [(15, (nI fa192)), (16, pl992), (27, (nI nd20)), (31, (nI wr22)), (64, (nI at191)), (65, (nI ne)), (66, (nI lk21)), (15, (nI fa1007)), (16, pl1008), (64, (nI at1006))]) (l2 := [(15, (nI fa1007)), (16, pl1008), (27, (nI nd20)), (31, (nI wr22)), (64, (nI at1006)), (65, (nI ne)), (66, (nI lk21))]) (V := [(nI fa1007), pl1008, (nI nd20), (nI wr22), (nI at1006), (nI ne), (nI lk21), (nI fa1007), pl1008, (nI at1006), (nI fa1007), pl1008, (nI nd20), (nI wr22), (nI at1006), (nI ne), (nI lk21)]) rfl rfl (show (updA (updA (stR X24 12 nd (nI r23)) 2 K) 2 K) = (updA (stR X24 12 nd (nI r23)) 2 K) from updsA_eq2 (F := X24) (l1 := [(12, (upd (X24 12) nd (nI r23))), (2, K), (2, K)]) (l2 := [(12, (upd (X24 12) nd (nI r23))), (2, K)]) (V := [(upd (X24 12) nd (nI r23)), K, K, (upd (X24 12) nd (nI r23)), K]) rfl rfl) hP
            have hD : va_D A (mW G h0 a (upd (upd (upd (upd (upd (upd (upd F 15 (nI fa1007)) 16 pl1008) 27 (nI nd20)) 31 (nI wr22)) 64 (nI at1006)) 65 (nI ne)) 66 (nI lk21)) (updA (stR X24 12 nd (nI r23)) 2 K)) := mW_D hD
            refine W.widen (k := 0) (n := 0) (Nat.le_of_ble_eq_true rfl) (Nat.le_of_ble_eq_true rfl) ?_
            refine W.eq (g2 := F0 m 112 ls []) rfl ?_
            obtain ⟨n1018, n1017⟩ := h1013 e202
            replace n1018 := n1018.symm
            subst n1018
            replace n1017 := n1017.symm
            subst n1017
            refine lv_aload_n hx hb dX12_attempt_112 rfl (lv_at hl 5 rfl) ?_
            refine lv_bipush (v := 44) hx hb dX12_attempt_113 (by decide) ?_
            refine lv_iload_n hx hb dX12_attempt_115 rfl (lv_at hl 2 rfl) ?_
            refine lv_iload hx hb dX12_attempt_116 (lv_at hl 0 rfl) ?_
            refine lv_iload hx hb dX12_attempt_118 (lv_at hl 1 rfl) ?_
            refine lv_iconst (v := (-1)) hx hb dX12_attempt_120 (by decide) ?_
            have hP : va_P G.1 pCl (mW G h0 a (upd (upd (upd (upd (upd (upd (upd (upd F 15 (nI fa192)) 16 pl1008) 27 (nI nd20)) 31 (nI wr22)) 64 (nI at191)) 65 (nI ne)) 66 (nI lk21)) 27 (nI nd20)) (updA (stR X24 12 nd (nI r23)) 2 K)) _ := hP
            have hD : va_D A (mW G h0 a (upd (upd (upd (upd (upd (upd (upd (upd F 15 (nI fa192)) 16 pl1008) 27 (nI nd20)) 31 (nI wr22)) 64 (nI at191)) 65 (nI ne)) 66 (nI lk21)) 27 (nI nd20)) (updA (stR X24 12 nd (nI r23)) 2 K)) := mW_D hD
            refine pc_V0 (G := G) (As := [.int 44, .int (nI (at160 - 1)), .int (nI at191), .int (nI at176), .int (-1)]) (rest := []) hx hb hml hown hq hE hX pX0_al hP hD hS hA hl.1 (R_nodeB l G h0 a (upd (upd (upd (upd (upd (upd (upd F 15 (nI fa192)) 16 pl1008) 27 (nI nd20)) 31 (nI wr22)) 64 (nI at191)) 65 (nI ne)) 66 (nI lk21)) (stR X24 12 nd (nI r23)) 44 (nI (at160 - 1)) (nI at191) (nI at176) (-1) nd20 K (by omega)) (gV pw_1650 pw_1651 pw_1652 pw_1523 pw_1589) hV_X12_node 0 9 rfl rfl rfl rfl (Nat.le_of_ble_eq_true rfl) dX12_attempt_121 ⟨Nat.le_of_ble_eq_true rfl, Nat.le_of_ble_eq_true rfl⟩ ⟨(by show 2 + 1 ≤ (26 * n + 43); omega), (by show 8 + (7 + 11) + 60 ≤ (2000 * n + 4300); omega)⟩ (fun v1021 u1019 H locs hw1020 hP hD hS => ?_)
            obtain ⟨X1022, rfl⟩ : ∃ z, z = u1019 := ⟨_, rfl⟩
            obtain ⟨hw1020, h1023⟩ := hw1020
            have h1023 : NewN (stR X24 12 nd (nI r23)) X1022 nd20 44 (nI (at160 - 1)) (nI at191) (nI at176) (-1) := h1023
            obtain rfl : v1021 = some (.int (nI nd20)) := hw1020
            have hP : va_P G.1 pCl (mW G h0 a (upd (upd (upd (upd (upd (upd (upd F 15 (nI fa192)) 16 pl1008) 27 (nI (nd20 + 1))) 31 (nI wr22)) 64 (nI at191)) 65 (nI ne)) 66 (nI lk21)) (updA X1022 2 K)) _ := mW_to (F := F) (l1 := [(15, (nI fa192)), (16, pl1008), (27, (nI nd20)), (31, (nI wr22)), (64, (nI at191)), (65, (nI ne)), (66, (nI lk21)), (27, (nI (nd20 + 1)))]) (l2 := [(15, (nI fa192)), (16, pl1008), (27, (nI (nd20 + 1))), (31, (nI wr22)), (64, (nI at191)), (65, (nI ne)), (66, (nI lk21))]) (V := [(nI fa192), pl1008, (nI (nd20 + 1)), (nI wr22), (nI at191), (nI ne), (nI lk21), (nI (nd20 + 1)), (nI fa192), pl1008, (nI (nd20 + 1)), (nI wr22), (nI at191), (nI ne), (nI lk21)]) rfl rfl rfl hP
            have hD : va_D A (mW G h0 a (upd (upd (upd (upd (upd (upd (upd F 15 (nI fa192)) 16 pl1008) 27 (nI (nd20 + 1))) 31 (nI wr22)) 64 (nI at191)) 65 (nI ne)) 66 (nI lk21)) (updA X1022 2 K)) := mW_D hD
            refine W.widen (k := 0) (n := 0) (Nat.le_of_ble_eq_true rfl) (Nat.le_of_ble_eq_true rfl) ?_
            refine W.eq (g2 := F0 m 124 ls [.int (nI nd20)]) rfl ?_
            have hkp1024 : Kp B X1022 wr22 T := (Kp.new hkp48 h1023)
            refine lv_istore (lv' := [(6, .int (nI nd20)), (5, .int (nI at191)), (4, .int (nI at176)), (3, .int (nI (at160 - 1))), (2, .int (-1)), (1, .int (nI nd)), (0, .ref h0)]) hx hb dX12_attempt_124 hl (by decide) rfl (fun ls hl => ?_)
            refine lv_aload_n hx hb dX12_attempt_126 rfl (lv_at hl 6 rfl) ?_
            refine r_get (v := .ref (a 13)) hx hb hown hq hE hP 21 50 tFX12_21 (by decide) pw_1443 rfl dX12_attempt_127 ?_
            refine lv_iload hx hb dX12_attempt_130 (lv_at hl 0 rfl) ?_
            refine lv_aload_n hx hb dX12_attempt_132 rfl (lv_at hl 6 rfl) ?_
            have hP : va_P G.1 pCl (mW G h0 a (upd (upd (upd (upd (upd (upd (upd (upd (upd (upd (upd F 15 (nI fa192)) 16 pl1008) 27 (nI (nd20 + 1))) 31 (nI wr22)) 64 (nI at191)) 65 (nI ne)) 66 (nI lk21)) 15 (nI fa192)) 27 (nI (nd20 + 1))) 31 (nI wr22)) 64 (nI at191)) (updA X1022 2 K)) _ := mW_to (F := F) (l1 := [(15, (nI fa192)), (16, pl1008), (27, (nI (nd20 + 1))), (31, (nI wr22)), (64, (nI at191)), (65, (nI ne)), (66, (nI lk21))]) (l2 := [(15, (nI fa192)), (16, pl1008), (27, (nI (nd20 + 1))), (31, (nI wr22)), (64, (nI at191)), (65, (nI ne)), (66, (nI lk21)), (15, (nI fa192)), (27, (nI (nd20 + 1))), (31, (nI wr22)), (64, (nI at191))]) (V := [(nI fa192), pl1008, (nI (nd20 + 1)), (nI wr22), (nI at191), (nI ne), (nI lk21), (nI fa192), pl1008, (nI (nd20 + 1)), (nI wr22), (nI at191), (nI ne), (nI lk21), (nI fa192), (nI (nd20 + 1)), (nI wr22), (nI at191)]) rfl rfl rfl hP
            have hD : va_D A (mW G h0 a (upd (upd (upd (upd (upd (upd (upd (upd (upd (upd (upd F 15 (nI fa192)) 16 pl1008) 27 (nI (nd20 + 1))) 31 (nI wr22)) 64 (nI at191)) 65 (nI ne)) 66 (nI lk21)) 15 (nI fa192)) 27 (nI (nd20 + 1))) 31 (nI wr22)) 64 (nI at191)) (updA X1022 2 K)) := mW_D hD
            refine pc_V0 (G := G) (As := []) (rest := [.int (nI nd20), .ref (a 13)]) hx hb hml hown hq hE hX pX0_al hP hD hS hA hl.1 (RF_block l G h0 a (upd (upd (upd (upd (upd (upd (upd F 15 (nI fa192)) 16 pl1008) 27 (nI (nd20 + 1))) 31 (nI wr22)) 64 (nI at191)) 65 (nI ne)) 66 (nI lk21)) X1022 at191 T fa192 (nd20 + 1) wr22 K (by omega) (by omega) hK (by omega) e202 (by omega) (by omega) (hkp1024).2) (gV pw_1685 pw_1686 pw_1687 pw_1523 pw_1688) hV_X12_block 0 9 rfl rfl rfl rfl (Nat.le_of_ble_eq_true rfl) dX12_attempt_133 ⟨Nat.le_of_ble_eq_true rfl, Nat.le_of_ble_eq_true rfl⟩ ⟨(by show 5 + 1 ≤ (26 * n + 43); omega), (by show 8 + (4 + 11) + 124 ≤ (2000 * n + 4300); omega)⟩ (fun v1027 u1025 H locs hw1026 hP hD hS => ?_)
            obtain ⟨pl1028, wr1029, X1030⟩ := u1025
            obtain ⟨hw1026, h1031, h1032, h1033⟩ := hw1026
            have h1031 : wr22 ≤ wr1029 := h1031
            have h1032 : wr1029 ≤ wr22 := h1032
            have h1033 : Kp X1022 X1030 wr1029 T := h1033
            obtain rfl : v1027 = some (.int (nI (nd20 + 1))) := hw1026
            have hP : va_P G.1 pCl (mW G h0 a (upd (upd (upd (upd (upd (upd (upd F 15 (nI fa192)) 16 pl1028) 27 (nI ((nd20 + 1) + 1))) 31 (nI wr1029)) 64 (nI at191)) 65 (nI ne)) 66 (nI lk21)) (updA X1030 2 K)) _ := mW_to (F := F) (l1 := [(15, (nI fa192)), (16, pl1008), (27, (nI (nd20 + 1))), (31, (nI wr22)), (64, (nI at191)), (65, (nI ne)), (66, (nI lk21)), (15, (nI fa192)), (16, pl1028), (27, (nI ((nd20 + 1) + 1))), (31, (nI wr1029)), (64, (nI at191))]) (l2 := [(15, (nI fa192)), (16, pl1028), (27, (nI ((nd20 + 1) + 1))), (31, (nI wr1029)), (64, (nI at191)), (65, (nI ne)), (66, (nI lk21))]) (V := [(nI fa192), pl1028, (nI ((nd20 + 1) + 1)), (nI wr1029), (nI at191), (nI ne), (nI lk21), (nI fa192), pl1028, (nI ((nd20 + 1) + 1)), (nI wr1029), (nI at191), (nI fa192), pl1028, (nI ((nd20 + 1) + 1)), (nI wr1029), (nI at191), (nI ne), (nI lk21)]) rfl rfl rfl hP
            have hD : va_D A (mW G h0 a (upd (upd (upd (upd (upd (upd (upd F 15 (nI fa192)) 16 pl1028) 27 (nI ((nd20 + 1) + 1))) 31 (nI wr1029)) 64 (nI at191)) 65 (nI ne)) 66 (nI lk21)) (updA X1030 2 K)) := mW_D hD
            refine W.widen (k := 0) (n := 0) (Nat.le_of_ble_eq_true rfl) (Nat.le_of_ble_eq_true rfl) ?_
            refine W.eq (g2 := F0 m 136 ls [.int (nI (nd20 + 1)), .int (nI nd20), .ref (a 13)]) rfl ?_
            have hkp1034 : Kp B X1030 wr1029 T := (Kp.trans hkp1024 h1033)
            refine r_sti (f := (X1030 13)) (j := nd20) hx hb hE hP hD hS 13 (ma_13 G a _) rfl (mas_13 G a _) (by omega) (by decide) dX12_attempt_136 (fun H locs hP hD hS => ?_)
            have hP : va_P G.1 pCl (mW G h0 a (upd (upd (upd (upd (upd (upd (upd F 15 (nI fa192)) 16 pl1028) 27 (nI ((nd20 + 1) + 1))) 31 (nI wr1029)) 64 (nI at191)) 65 (nI ne)) 66 (nI lk21)) (updA (stR X1030 13 nd20 (nI (nd20 + 1))) 2 K)) _ := mW_to (F := F) (l1 := [(15, (nI fa192)), (16, pl1028), (27, (nI ((nd20 + 1) + 1))), (31, (nI wr1029)), (64, (nI at191)), (65, (nI ne)), (66, (nI lk21))]) (l2 := [(15, (nI fa192)), (16, pl1028), (27, (nI ((nd20 + 1) + 1))), (31, (nI wr1029)), (64, (nI at191)), (65, (nI ne)), (66, (nI lk21))]) (V := [(nI fa192), pl1028, (nI ((nd20 + 1) + 1)), (nI wr1029), (nI at191), (nI ne), (nI lk21), (nI fa192), pl1028, (nI ((nd20 + 1) + 1)), (nI wr1029), (nI at191), (nI ne), (nI lk21)]) rfl rfl (show (updA (updA X1030 2 K) 13 (upd (X1030 13) nd20 (nI (nd20 + 1)))) = (updA (stR X1030 13 nd20 (nI (nd20 + 1))) 2 K) from updsA_eq2 (F := X1030) (l1 := [(2, K), (13, (upd (X1030 13) nd20 (nI (nd20 + 1))))]) (l2 := [(13, (upd (X1030 13) nd20 (nI (nd20 + 1)))), (2, K)]) (V := [K, (upd (X1030 13) nd20 (nI (nd20 + 1))), (upd (X1030 13) nd20 (nI (nd20 + 1))), K]) rfl rfl) hP
            have hD : va_D A (mW G h0 a (upd (upd (upd (upd (upd (upd (upd F 15 (nI fa192)) 16 pl1028) 27 (nI ((nd20 + 1) + 1))) 31 (nI wr1029)) 64 (nI at191)) 65 (nI ne)) 66 (nI lk21)) (updA (stR X1030 13 nd20 (nI (nd20 + 1))) 2 K)) := mW_D hD
            have hkp1035 : Kp B (stR X1030 13 nd20 (nI (nd20 + 1))) wr1029 T := (Kp.row hkp1034 (by omega))
            refine lv_iload_n hx hb dX12_attempt_137 rfl (lv_at hl 4 rfl) ?_
            refine lv_iconst (v := (-1)) hx hb dX12_attempt_138 (by decide) ?_
            refine lv_icmp_ne (tgt := 153) hx hb dX12_attempt_139 (by decide) (fun c1036 => absurd c1036 (by decide)) (fun c1036 => ?_)
            refine lv_aload_n hx hb dX12_attempt_142 rfl (lv_at hl 6 rfl) ?_
            refine r_get (v := .ref (a 13)) hx hb hown hq hE hP 21 50 tFX12_21 (by decide) pw_1443 rfl dX12_attempt_143 ?_
            refine lv_iload_n hx hb dX12_attempt_146 rfl (lv_at hl 5 rfl) ?_
            refine lv_iload hx hb dX12_attempt_147 (lv_at hl 0 rfl) ?_
            refine r_sti (f := ((stR X1030 13 nd20 (nI (nd20 + 1))) 13)) (j := nd) hx hb hE hP hD hS 13 (ma_13 G a _) rfl (mas_13 G a _) (by omega) (by decide) dX12_attempt_149 (fun H locs hP hD hS => ?_)
            have hP : va_P G.1 pCl (mW G h0 a (upd (upd (upd (upd (upd (upd (upd F 15 (nI fa192)) 16 pl1028) 27 (nI ((nd20 + 1) + 1))) 31 (nI wr1029)) 64 (nI at191)) 65 (nI ne)) 66 (nI lk21)) (updA (stR (stR X1030 13 nd20 (nI (nd20 + 1))) 13 nd (nI nd20)) 2 K)) _ := mW_to (F := F) (l1 := [(15, (nI fa192)), (16, pl1028), (27, (nI ((nd20 + 1) + 1))), (31, (nI wr1029)), (64, (nI at191)), (65, (nI ne)), (66, (nI lk21))]) (l2 := [(15, (nI fa192)), (16, pl1028), (27, (nI ((nd20 + 1) + 1))), (31, (nI wr1029)), (64, (nI at191)), (65, (nI ne)), (66, (nI lk21))]) (V := [(nI fa192), pl1028, (nI ((nd20 + 1) + 1)), (nI wr1029), (nI at191), (nI ne), (nI lk21), (nI fa192), pl1028, (nI ((nd20 + 1) + 1)), (nI wr1029), (nI at191), (nI ne), (nI lk21)]) rfl rfl (show (updA (updA (stR X1030 13 nd20 (nI (nd20 + 1))) 2 K) 13 (upd ((stR X1030 13 nd20 (nI (nd20 + 1))) 13) nd (nI nd20))) = (updA (stR (stR X1030 13 nd20 (nI (nd20 + 1))) 13 nd (nI nd20)) 2 K) from updsA_eq2 (F := X1030) (l1 := [(13, (upd (X1030 13) nd20 (nI (nd20 + 1)))), (2, K), (13, (upd ((stR X1030 13 nd20 (nI (nd20 + 1))) 13) nd (nI nd20)))]) (l2 := [(13, (upd (X1030 13) nd20 (nI (nd20 + 1)))), (13, (upd ((stR X1030 13 nd20 (nI (nd20 + 1))) 13) nd (nI nd20))), (2, K)]) (V := [(upd ((stR X1030 13 nd20 (nI (nd20 + 1))) 13) nd (nI nd20)), K, (upd ((stR X1030 13 nd20 (nI (nd20 + 1))) 13) nd (nI nd20)), (upd ((stR X1030 13 nd20 (nI (nd20 + 1))) 13) nd (nI nd20)), (upd ((stR X1030 13 nd20 (nI (nd20 + 1))) 13) nd (nI nd20)), K]) rfl rfl) hP
            have hD : va_D A (mW G h0 a (upd (upd (upd (upd (upd (upd (upd F 15 (nI fa192)) 16 pl1028) 27 (nI ((nd20 + 1) + 1))) 31 (nI wr1029)) 64 (nI at191)) 65 (nI ne)) 66 (nI lk21)) (updA (stR (stR X1030 13 nd20 (nI (nd20 + 1))) 13 nd (nI nd20)) 2 K)) := mW_D hD
            have hkp1037 : Kp B (stR (stR X1030 13 nd20 (nI (nd20 + 1))) 13 nd (nI nd20)) wr1029 T := (Kp.row hkp1035 (by omega))
            refine lv_goto (tgt := 161) hx hb dX12_attempt_150 (by decide) ?_
            refine lv_iload hx hb dX12_attempt_161 (lv_at hl 0 rfl) ?_
            refine lv_istore_n (lv' := [(2, .int (nI nd20)), (6, .int (nI nd20)), (5, .int (nI at191)), (4, .int (nI at176)), (3, .int (nI (at160 - 1))), (1, .int (nI nd)), (0, .ref h0)]) hx hb dX12_attempt_163 rfl hl (by decide) rfl (fun ls hl => ?_)
            refine lv_goto (tgt := 71) hx hb dX12_attempt_164 (by decide) ?_
            refine lv_aload_n hx hb dX12_attempt_71 rfl (lv_at hl 6 rfl) ?_
            refine lv_sipush (v := 313) hx hb dX12_attempt_72 (by decide) ?_
            have hP : va_P G.1 pCl (mW G h0 a (upd (upd (upd (upd (upd (upd (upd (upd (upd F 15 (nI fa192)) 16 pl1028) 27 (nI ((nd20 + 1) + 1))) 31 (nI wr1029)) 64 (nI at191)) 65 (nI ne)) 66 (nI lk21)) 15 (nI fa192)) 64 (nI at191)) (updA (updA (stR (stR X1030 13 nd20 (nI (nd20 + 1))) 13 nd (nI nd20)) 2 K) 2 K)) _ := mW_to (F := F) (l1 := [(15, (nI fa192)), (16, pl1028), (27, (nI ((nd20 + 1) + 1))), (31, (nI wr1029)), (64, (nI at191)), (65, (nI ne)), (66, (nI lk21))]) (l2 := [(15, (nI fa192)), (16, pl1028), (27, (nI ((nd20 + 1) + 1))), (31, (nI wr1029)), (64, (nI at191)), (65, (nI ne)), (66, (nI lk21)), (15, (nI fa192)), (64, (nI at191))]) (V := [(nI fa192), pl1028, (nI ((nd20 + 1) + 1)), (nI wr1029), (nI at191), (nI ne), (nI lk21), (nI fa192), pl1028, (nI ((nd20 + 1) + 1)), (nI wr1029), (nI at191), (nI ne), (nI lk21), (nI fa192), (nI at191)]) rfl rfl (show (updA (stR (stR X1030 13 nd20 (nI (nd20 + 1))) 13 nd (nI nd20)) 2 K) = (updA (updA (stR (stR X1030 13 nd20 (nI (nd20 + 1))) 13 nd (nI nd20)) 2 K) 2 K) from updsA_eq2 (F := X1030) (l1 := [(13, (upd (X1030 13) nd20 (nI (nd20 + 1)))), (13, (upd ((stR X1030 13 nd20 (nI (nd20 + 1))) 13) nd (nI nd20))), (2, K)]) (l2 := [(13, (upd (X1030 13) nd20 (nI (nd20 + 1)))), (13, (upd ((stR X1030 13 nd20 (nI (nd20 + 1))) 13) nd (nI nd20))), (2, K), (2, K)]) (V := [(upd ((stR X1030 13 nd20 (nI (nd20 + 1))) 13) nd (nI nd20)), (upd ((stR X1030 13 nd20 (nI (nd20 + 1))) 13) nd (nI nd20)), K, (upd ((stR X1030 13 nd20 (nI (nd20 + 1))) 13) nd (nI nd20)), (upd ((stR X1030 13 nd20 (nI (nd20 + 1))) 13) nd (nI nd20)), K, K]) rfl rfl) hP
            have hD : va_D A (mW G h0 a (upd (upd (upd (upd (upd (upd (upd (upd (upd F 15 (nI fa192)) 16 pl1028) 27 (nI ((nd20 + 1) + 1))) 31 (nI wr1029)) 64 (nI at191)) 65 (nI ne)) 66 (nI lk21)) 15 (nI fa192)) 64 (nI at191)) (updA (updA (stR (stR X1030 13 nd20 (nI (nd20 + 1))) 13 nd (nI nd20)) 2 K) 2 K)) := mW_D hD
            refine pc_V0 (G := G) (As := [.int 313]) (rest := []) hx hb hml hown hq hE hX pX0_al hP hD hS hA hl.1 (R_may l G h0 a (upd (upd (upd (upd (upd (upd (upd F 15 (nI fa192)) 16 pl1028) 27 (nI ((nd20 + 1) + 1))) 31 (nI wr1029)) 64 (nI at191)) 65 (nI ne)) 66 (nI lk21)) (updA (stR (stR X1030 13 nd20 (nI (nd20 + 1))) 13 nd (nI nd20)) 2 K) at191 T fa192 K 313 (by omega) (by omega) hK (by omega) (by decide) (by decide)) (gV pw_1621 pw_1622 pw_1623 pw_1523 pw_1605) hV_X12_may 0 9 rfl rfl rfl rfl (Nat.le_of_ble_eq_true rfl) dX12_attempt_75 ⟨Nat.le_of_ble_eq_true rfl, Nat.le_of_ble_eq_true rfl⟩ ⟨(by show 3 + 1 ≤ (26 * n + 43); omega), (by show 8 + (3 + 11) + 81 ≤ (2000 * n + 4300); omega)⟩ (fun v1040 u1038 H locs hw1039 hP hD hS => ?_)
            obtain ⟨at1041, r1042⟩ := u1038
            obtain ⟨hw1039, h1043, h1044, h1045, h1046, h1047, h1048⟩ := hw1039
            have h1043 : r1042 ≤ 1 := h1043
            have h1044 : fa192 + 100 * r1042 ≤ 100 := h1044
            have h1045 : at1041 = at191 + r1042 := h1045
            have h1046 : at1041 ≤ T := h1046
            have h1047 : If (r1042 = 1) (K at191 = 313) := h1047
            have h1048 : If (r1042 = 0) (fa192 = 0 → ¬ K at191 = 313) := h1048
            obtain rfl : v1040 = some (.int (nI r1042)) := hw1039
            have hP : va_P G.1 pCl (mW G h0 a (upd (upd (upd (upd (upd (upd (upd F 15 (nI fa192)) 16 pl1028) 27 (nI ((nd20 + 1) + 1))) 31 (nI wr1029)) 64 (nI at1041)) 65 (nI ne)) 66 (nI lk21)) (updA (stR (stR X1030 13 nd20 (nI (nd20 + 1))) 13 nd (nI nd20)) 2 K)) _ := mW_to (F := F) (l1 := [(15, (nI fa192)), (16, pl1028), (27, (nI ((nd20 + 1) + 1))), (31, (nI wr1029)), (64, (nI at191)), (65, (nI ne)), (66, (nI lk21)), (15, (nI fa192)), (64, (nI at1041))]) (l2 := [(15, (nI fa192)), (16, pl1028), (27, (nI ((nd20 + 1) + 1))), (31, (nI wr1029)), (64, (nI at1041)), (65, (nI ne)), (66, (nI lk21))]) (V := [(nI fa192), pl1028, (nI ((nd20 + 1) + 1)), (nI wr1029), (nI at1041), (nI ne), (nI lk21), (nI fa192), (nI at1041), (nI fa192), pl1028, (nI ((nd20 + 1) + 1)), (nI wr1029), (nI at1041), (nI ne), (nI lk21)]) rfl rfl (show (updA (updA (stR (stR X1030 13 nd20 (nI (nd20 + 1))) 13 nd (nI nd20)) 2 K) 2 K) = (updA (stR (stR X1030 13 nd20 (nI (nd20 + 1))) 13 nd (nI nd20)) 2 K) from updsA_eq2 (F := X1030) (l1 := [(13, (upd (X1030 13) nd20 (nI (nd20 + 1)))), (13, (upd ((stR X1030 13 nd20 (nI (nd20 + 1))) 13) nd (nI nd20))), (2, K), (2, K)]) (l2 := [(13, (upd (X1030 13) nd20 (nI (nd20 + 1)))), (13, (upd ((stR X1030 13 nd20 (nI (nd20 + 1))) 13) nd (nI nd20))), (2, K)]) (V := [(upd ((stR X1030 13 nd20 (nI (nd20 + 1))) 13) nd (nI nd20)), (upd ((stR X1030 13 nd20 (nI (nd20 + 1))) 13) nd (nI nd20)), K, K, (upd ((stR X1030 13 nd20 (nI (nd20 + 1))) 13) nd (nI nd20)), (upd ((stR X1030 13 nd20 (nI (nd20 + 1))) 13) nd (nI nd20)), K]) rfl rfl) hP
            have hD : va_D A (mW G h0 a (upd (upd (upd (upd (upd (upd (upd F 15 (nI fa192)) 16 pl1028) 27 (nI ((nd20 + 1) + 1))) 31 (nI wr1029)) 64 (nI at1041)) 65 (nI ne)) 66 (nI lk21)) (updA (stR (stR X1030 13 nd20 (nI (nd20 + 1))) 13 nd (nI nd20)) 2 K)) := mW_D hD
            refine W.widen (k := 0) (n := 0) (Nat.le_of_ble_eq_true rfl) (Nat.le_of_ble_eq_true rfl) ?_
            refine W.eq (g2 := F0 m 78 ls [.int (nI r1042)]) rfl ?_
            obtain rfl : at191 = at1041 := (by omega)
            refine lv_if_eq (tgt := 167) hx hb dX12_attempt_78 (by decide) (fun c1049 => ?_) (fun c1049 => (by have n1050 : ¬ (r1042 = 0) := fun h9 => c1049 ((nI_eq (a := r1042) (b := 0) (by omega) (by omega)).mpr h9); omega))
            refine lv_aload_n hx hb dX12_attempt_167 rfl (lv_at hl 6 rfl) ?_
            refine lv_sipush (v := 319) hx hb dX12_attempt_168 (by decide) ?_
            have hP : va_P G.1 pCl (mW G h0 a (upd (upd (upd (upd (upd (upd (upd (upd (upd F 15 (nI fa192)) 16 pl1028) 27 (nI ((nd20 + 1) + 1))) 31 (nI wr1029)) 64 (nI at191)) 65 (nI ne)) 66 (nI lk21)) 15 (nI fa192)) 64 (nI at191)) (updA (updA (stR (stR X1030 13 nd20 (nI (nd20 + 1))) 13 nd (nI nd20)) 2 K) 2 K)) _ := hP
            have hD : va_D A (mW G h0 a (upd (upd (upd (upd (upd (upd (upd (upd (upd F 15 (nI fa192)) 16 pl1028) 27 (nI ((nd20 + 1) + 1))) 31 (nI wr1029)) 64 (nI at191)) 65 (nI ne)) 66 (nI lk21)) 15 (nI fa192)) 64 (nI at191)) (updA (updA (stR (stR X1030 13 nd20 (nI (nd20 + 1))) 13 nd (nI nd20)) 2 K) 2 K)) := mW_D hD
            refine pc_V0 (G := G) (As := [.int 319]) (rest := []) hx hb hml hown hq hE hX pX0_al hP hD hS hA hl.1 (R_may l G h0 a (upd (upd (upd (upd (upd (upd (upd F 15 (nI fa192)) 16 pl1028) 27 (nI ((nd20 + 1) + 1))) 31 (nI wr1029)) 64 (nI at191)) 65 (nI ne)) 66 (nI lk21)) (updA (stR (stR X1030 13 nd20 (nI (nd20 + 1))) 13 nd (nI nd20)) 2 K) at191 T fa192 K 319 (by omega) (by omega) hK (by omega) (by decide) (by decide)) (gV pw_1621 pw_1622 pw_1623 pw_1523 pw_1605) hV_X12_may 0 9 rfl rfl rfl rfl (Nat.le_of_ble_eq_true rfl) dX12_attempt_171 ⟨Nat.le_of_ble_eq_true rfl, Nat.le_of_ble_eq_true rfl⟩ ⟨(by show 3 + 1 ≤ (26 * n + 43); omega), (by show 8 + (3 + 11) + 81 ≤ (2000 * n + 4300); omega)⟩ (fun v1053 u1051 H locs hw1052 hP hD hS => ?_)
            obtain ⟨at1054, r1055⟩ := u1051
            obtain ⟨hw1052, h1056, h1057, h1058, h1059, h1060, h1061⟩ := hw1052
            have h1056 : r1055 ≤ 1 := h1056
            have h1057 : fa192 + 100 * r1055 ≤ 100 := h1057
            have h1058 : at1054 = at191 + r1055 := h1058
            have h1059 : at1054 ≤ T := h1059
            have h1060 : If (r1055 = 1) (K at191 = 319) := h1060
            have h1061 : If (r1055 = 0) (fa192 = 0 → ¬ K at191 = 319) := h1061
            obtain rfl : v1053 = some (.int (nI r1055)) := hw1052
            have hP : va_P G.1 pCl (mW G h0 a (upd (upd (upd (upd (upd (upd (upd F 15 (nI fa192)) 16 pl1028) 27 (nI ((nd20 + 1) + 1))) 31 (nI wr1029)) 64 (nI at1054)) 65 (nI ne)) 66 (nI lk21)) (updA (stR (stR X1030 13 nd20 (nI (nd20 + 1))) 13 nd (nI nd20)) 2 K)) _ := mW_to (F := F) (l1 := [(15, (nI fa192)), (16, pl1028), (27, (nI ((nd20 + 1) + 1))), (31, (nI wr1029)), (64, (nI at191)), (65, (nI ne)), (66, (nI lk21)), (15, (nI fa192)), (64, (nI at1054))]) (l2 := [(15, (nI fa192)), (16, pl1028), (27, (nI ((nd20 + 1) + 1))), (31, (nI wr1029)), (64, (nI at1054)), (65, (nI ne)), (66, (nI lk21))]) (V := [(nI fa192), pl1028, (nI ((nd20 + 1) + 1)), (nI wr1029), (nI at1054), (nI ne), (nI lk21), (nI fa192), (nI at1054), (nI fa192), pl1028, (nI ((nd20 + 1) + 1)), (nI wr1029), (nI at1054), (nI ne), (nI lk21)]) rfl rfl (show (updA (updA (stR (stR X1030 13 nd20 (nI (nd20 + 1))) 13 nd (nI nd20)) 2 K) 2 K) = (updA (stR (stR X1030 13 nd20 (nI (nd20 + 1))) 13 nd (nI nd20)) 2 K) from updsA_eq2 (F := X1030) (l1 := [(13, (upd (X1030 13) nd20 (nI (nd20 + 1)))), (13, (upd ((stR X1030 13 nd20 (nI (nd20 + 1))) 13) nd (nI nd20))), (2, K), (2, K)]) (l2 := [(13, (upd (X1030 13) nd20 (nI (nd20 + 1)))), (13, (upd ((stR X1030 13 nd20 (nI (nd20 + 1))) 13) nd (nI nd20))), (2, K)]) (V := [(upd ((stR X1030 13 nd20 (nI (nd20 + 1))) 13) nd (nI nd20)), (upd ((stR X1030 13 nd20 (nI (nd20 + 1))) 13) nd (nI nd20)), K, K, (upd ((stR X1030 13 nd20 (nI (nd20 + 1))) 13) nd (nI nd20)), (upd ((stR X1030 13 nd20 (nI (nd20 + 1))) 13) nd (nI nd20)), K]) rfl rfl) hP
            have hD : va_D A (mW G h0 a (upd (upd (upd (upd (upd (upd (upd F 15 (nI fa192)) 16 pl1028) 27 (nI ((nd20 + 1) + 1))) 31 (nI wr1029)) 64 (nI at1054)) 65 (nI ne)) 66 (nI lk21)) (updA (stR (stR X1030 13 nd20 (nI (nd20 + 1))) 13 nd (nI nd20)) 2 K)) := mW_D hD
            refine W.widen (k := 0) (n := 0) (Nat.le_of_ble_eq_true rfl) (Nat.le_of_ble_eq_true rfl) ?_
            refine W.eq (g2 := F0 m 174 ls [.int (nI r1055)]) rfl ?_
            obtain rfl : at191 = at1054 := (by omega)
            refine lv_if_eq (tgt := 187) hx hb dX12_attempt_174 (by decide) (fun c1062 => ?_) (fun c1062 => (by have n1063 : ¬ (r1055 = 0) := fun h9 => c1062 ((nI_eq (a := r1055) (b := 0) (by omega) (by omega)).mpr h9); omega))
            refine lv_iload_n hx hb dX12_attempt_187 rfl (lv_at hl 5 rfl) ?_
            have hz1064 : at0 ≤ at191 := (by omega)
            have hz1065 : at191 ≤ T := (by omega)
            have hz1066 : fa192 ≤ 100 := (by omega)
            have hz1067 : nd ≤ ((nd20 + 1) + 1) := (by omega)
            have hz1068 : ((nd20 + 1) + 1) + 2 * at0 ≤ nd + 2 * at191 + 100000 * fa192 := (by omega)
            have hz1069 : ((nd20 + 1) + 1) + 2 * at0 ≤ nd + 2 * at191 + (60 * (21 - ne) + 40) := (by omega)
            have hz1070 : wr ≤ wr1029 := (by omega)
            have hz1071 : wr1029 + at0 ≤ wr + at191 := (by omega)
            have hz1072 : lk ≤ lk21 := (by omega)
            have hz1073 : lk21 ≤ 60 + 100 * fa192 := (by omega)
            have hz1074 : at0 + 1 ≤ at191 + fa192 := (by omega)
            have hz1075 : nd ≤ ((nd20 + 1) + 1) := (by omega)
            have hz1076 : Kp B (stR (stR X1030 13 nd20 (nI (nd20 + 1))) 13 nd (nI nd20)) wr1029 T := hkp1037
            have hz1077 : If (fa192 = 0) (Low B (stR (stR X1030 13 nd20 (nI (nd20 + 1))) 13 nd (nI nd20)) nd wr ∧ Frs K T wr1029 (stR (stR X1030 13 nd20 (nI (nd20 + 1))) 13 nd (nI nd20)) nd ((nd20 + 1) + 1) 20000 [(nd, (280 + 4 * (21 - ne)))] ∧ kcl 3 ((stR (stR X1030 13 nd20 (nI (nd20 + 1))) 13 nd (nI nd20)) 9 nd) = true) := (fun e => absurd e (by omega))
            have hP : va_P G.1 pCl (mW G h0 a (upd (upd (upd (upd (upd (upd (upd F 15 (nI fa192)) 16 pl1028) 27 (nI ((nd20 + 1) + 1))) 31 (nI wr1029)) 64 (nI at191)) 65 (nI ne)) 66 (nI lk21)) (updA (stR (stR X1030 13 nd20 (nI (nd20 + 1))) 13 nd (nI nd20)) 2 K)) _ := hP
            have hD : va_D A (mW G h0 a (upd (upd (upd (upd (upd (upd (upd F 15 (nI fa192)) 16 pl1028) 27 (nI ((nd20 + 1) + 1))) 31 (nI wr1029)) 64 (nI at191)) 65 (nI ne)) 66 (nI lk21)) (updA (stR (stR X1030 13 nd20 (nI (nd20 + 1))) 13 nd (nI nd20)) 2 K)) := mW_D hD
            exact W.iret (v := (nI nd)) hx hb hr (fun t9 ht9 hW9 => ⟨⟨_, (at191, fa192, pl1028, ((nd20 + 1) + 1), lk21, wr1029, nd, (stR (stR X1030 13 nd20 (nI (nd20 + 1))) 13 nd (nI nd20))), rfl, ⟨rfl, hz1064, hz1065, hz1066, hz1067, hz1068, hz1069, hz1070, hz1071, hz1072, hz1073, hz1074, hz1075, hz1076, hz1077⟩, by rw [ht9]; exact hP, hD⟩, hS.F ht9⟩) hS.2.2 dX12_attempt_188
        · have e187 := e187
          refine lv_aload_n hx hb dX12_attempt_94 rfl (lv_at hl 3 rfl) ?_
          have hP : va_P G.1 pCl (mW G h0 a (upd (upd (upd (upd (upd (upd (upd (upd (upd F 15 (nI fa177)) 16 pl178) 27 (nI nd20)) 31 (nI wr22)) 64 (nI at176)) 65 (nI ne)) 66 (nI lk21)) 15 (nI fa177)) 64 (nI at176)) (updA (updA (stR X24 12 nd (nI r23)) 2 K) 2 K)) _ := mW_to (F := F) (l1 := [(15, (nI fa177)), (16, pl178), (27, (nI nd20)), (31, (nI wr22)), (64, (nI at176)), (65, (nI ne)), (66, (nI lk21))]) (l2 := [(15, (nI fa177)), (16, pl178), (27, (nI nd20)), (31, (nI wr22)), (64, (nI at176)), (65, (nI ne)), (66, (nI lk21)), (15, (nI fa177)), (64, (nI at176))]) (V := [(nI fa177), pl178, (nI nd20), (nI wr22), (nI at176), (nI ne), (nI lk21), (nI fa177), pl178, (nI nd20), (nI wr22), (nI at176), (nI ne), (nI lk21), (nI fa177), (nI at176)]) rfl rfl (show (updA (stR X24 12 nd (nI r23)) 2 K) = (updA (updA (stR X24 12 nd (nI r23)) 2 K) 2 K) from updsA_eq2 (F := X24) (l1 := [(12, (upd (X24 12) nd (nI r23))), (2, K)]) (l2 := [(12, (upd (X24 12) nd (nI r23))), (2, K), (2, K)]) (V := [(upd (X24 12) nd (nI r23)), K, (upd (X24 12) nd (nI r23)), K, K]) rfl rfl) hP
          have hD : va_D A (mW G h0 a (upd (upd (upd (upd (upd (upd (upd (upd (upd F 15 (nI fa177)) 16 pl178) 27 (nI nd20)) 31 (nI wr22)) 64 (nI at176)) 65 (nI ne)) 66 (nI lk21)) 15 (nI fa177)) 64 (nI at176)) (updA (updA (stR X24 12 nd (nI r23)) 2 K) 2 K)) := mW_D hD
          refine pc_V0 (G := G) (As := []) (rest := []) hx hb hml hown hq hE hX pX0_al hP hD hS hA hl.1 (R_name l G h0 a (upd (upd (upd (upd (upd (upd (upd F 15 (nI fa177)) 16 pl178) 27 (nI nd20)) 31 (nI wr22)) 64 (nI at176)) 65 (nI ne)) 66 (nI lk21)) (updA (stR X24 12 nd (nI r23)) 2 K) at176 T fa177 K (by omega) (by omega) hK (by omega)) (gV pw_1618 pw_1619 pw_1620 pw_1523 pw_1613) hV_X12_name 0 9 rfl rfl rfl rfl (Nat.le_of_ble_eq_true rfl) dX12_attempt_95 ⟨Nat.le_of_ble_eq_true rfl, Nat.le_of_ble_eq_true rfl⟩ ⟨(by show 5 + 1 ≤ (26 * n + 43); omega), (by show 8 + (2 + 11) + 124 ≤ (2000 * n + 4300); omega)⟩ (fun v1080 u1078 H locs hw1079 hP hD hS => ?_)
          obtain ⟨at1081, fa1082, pl1083⟩ := u1078
          obtain ⟨hw1079, h1084, h1085, h1086, h1087, h1088, h1089, h1090, h1091⟩ := hw1079
          have h1084 : at176 ≤ at1081 := h1084
          have h1085 : at1081 ≤ T := h1085
          have h1086 : fa177 ≤ fa1082 := h1086
          have h1087 : fa1082 ≤ 100 := h1087
          have h1088 : If (0 < fa177) (at1081 = at176 ∧ fa1082 = fa177) := h1088
          have h1089 : at1081 ≤ at176 + 1 := h1089
          have h1090 : at176 + 1 ≤ at1081 + fa1082 := h1090
          have h1091 : If (fa1082 = 0) (K at176 = 1) := h1091
          obtain rfl : v1080 = some (.int (nI at176)) := hw1079
          have hP : va_P G.1 pCl (mW G h0 a (upd (upd (upd (upd (upd (upd (upd F 15 (nI fa1082)) 16 pl1083) 27 (nI nd20)) 31 (nI wr22)) 64 (nI at1081)) 65 (nI ne)) 66 (nI lk21)) (updA (stR X24 12 nd (nI r23)) 2 K)) _ := mW_to (F := F) (l1 := [(15, (nI fa177)), (16, pl178), (27, (nI nd20)), (31, (nI wr22)), (64, (nI at176)), (65, (nI ne)), (66, (nI lk21)), (15, (nI fa1082)), (16, pl1083), (64, (nI at1081))]) (l2 := [(15, (nI fa1082)), (16, pl1083), (27, (nI nd20)), (31, (nI wr22)), (64, (nI at1081)), (65, (nI ne)), (66, (nI lk21))]) (V := [(nI fa1082), pl1083, (nI nd20), (nI wr22), (nI at1081), (nI ne), (nI lk21), (nI fa1082), pl1083, (nI at1081), (nI fa1082), pl1083, (nI nd20), (nI wr22), (nI at1081), (nI ne), (nI lk21)]) rfl rfl (show (updA (updA (stR X24 12 nd (nI r23)) 2 K) 2 K) = (updA (stR X24 12 nd (nI r23)) 2 K) from updsA_eq2 (F := X24) (l1 := [(12, (upd (X24 12) nd (nI r23))), (2, K), (2, K)]) (l2 := [(12, (upd (X24 12) nd (nI r23))), (2, K)]) (V := [(upd (X24 12) nd (nI r23)), K, K, (upd (X24 12) nd (nI r23)), K]) rfl rfl) hP
          have hD : va_D A (mW G h0 a (upd (upd (upd (upd (upd (upd (upd F 15 (nI fa1082)) 16 pl1083) 27 (nI nd20)) 31 (nI wr22)) 64 (nI at1081)) 65 (nI ne)) 66 (nI lk21)) (updA (stR X24 12 nd (nI r23)) 2 K)) := mW_D hD
          refine W.widen (k := 0) (n := 0) (Nat.le_of_ble_eq_true rfl) (Nat.le_of_ble_eq_true rfl) ?_
          refine W.eq (g2 := F0 m 98 ls [.int (nI at176)]) rfl ?_
          obtain ⟨n1093, n1092⟩ := h1088 e187
          replace n1093 := n1093.symm
          subst n1093
          replace n1092 := n1092.symm
          subst n1092
          refine lv_istore (lv' := [(4, .int (nI at176)), (3, .int (nI (at160 - 1))), (2, .int (-1)), (1, .int (nI nd)), (0, .ref h0)]) hx hb dX12_attempt_98 hl (by decide) rfl (fun ls hl => ?_)
          refine lv_aload_n hx hb dX12_attempt_100 rfl (lv_at hl 4 rfl) ?_
          have hP : va_P G.1 pCl (mW G h0 a (upd (upd (upd (upd (upd (upd (upd (upd (upd F 15 (nI fa177)) 16 pl1083) 27 (nI nd20)) 31 (nI wr22)) 64 (nI at176)) 65 (nI ne)) 66 (nI lk21)) 15 (nI fa177)) 64 (nI at176)) (updA (updA (stR X24 12 nd (nI r23)) 2 K) 2 K)) _ := hP
          have hD : va_D A (mW G h0 a (upd (upd (upd (upd (upd (upd (upd (upd (upd F 15 (nI fa177)) 16 pl1083) 27 (nI nd20)) 31 (nI wr22)) 64 (nI at176)) 65 (nI ne)) 66 (nI lk21)) 15 (nI fa177)) 64 (nI at176)) (updA (updA (stR X24 12 nd (nI r23)) 2 K) 2 K)) := mW_D hD
          refine pc_V0 (G := G) (As := []) (rest := []) hx hb hml hown hq hE hX pX0_al hP hD hS hA hl.1 (R_name l G h0 a (upd (upd (upd (upd (upd (upd (upd F 15 (nI fa177)) 16 pl1083) 27 (nI nd20)) 31 (nI wr22)) 64 (nI at176)) 65 (nI ne)) 66 (nI lk21)) (updA (stR X24 12 nd (nI r23)) 2 K) at176 T fa177 K (by omega) (by omega) hK (by omega)) (gV pw_1618 pw_1619 pw_1620 pw_1523 pw_1613) hV_X12_name 0 9 rfl rfl rfl rfl (Nat.le_of_ble_eq_true rfl) dX12_attempt_101 ⟨Nat.le_of_ble_eq_true rfl, Nat.le_of_ble_eq_true rfl⟩ ⟨(by show 5 + 1 ≤ (26 * n + 43); omega), (by show 8 + (2 + 11) + 124 ≤ (2000 * n + 4300); omega)⟩ (fun v1096 u1094 H locs hw1095 hP hD hS => ?_)
          obtain ⟨at1097, fa1098, pl1099⟩ := u1094
          obtain ⟨hw1095, h1100, h1101, h1102, h1103, h1104, h1105, h1106, h1107⟩ := hw1095
          have h1100 : at176 ≤ at1097 := h1100
          have h1101 : at1097 ≤ T := h1101
          have h1102 : fa177 ≤ fa1098 := h1102
          have h1103 : fa1098 ≤ 100 := h1103
          have h1104 : If (0 < fa177) (at1097 = at176 ∧ fa1098 = fa177) := h1104
          have h1105 : at1097 ≤ at176 + 1 := h1105
          have h1106 : at176 + 1 ≤ at1097 + fa1098 := h1106
          have h1107 : If (fa1098 = 0) (K at176 = 1) := h1107
          obtain rfl : v1096 = some (.int (nI at176)) := hw1095
          have hP : va_P G.1 pCl (mW G h0 a (upd (upd (upd (upd (upd (upd (upd F 15 (nI fa1098)) 16 pl1099) 27 (nI nd20)) 31 (nI wr22)) 64 (nI at1097)) 65 (nI ne)) 66 (nI lk21)) (updA (stR X24 12 nd (nI r23)) 2 K)) _ := mW_to (F := F) (l1 := [(15, (nI fa177)), (16, pl1083), (27, (nI nd20)), (31, (nI wr22)), (64, (nI at176)), (65, (nI ne)), (66, (nI lk21)), (15, (nI fa1098)), (16, pl1099), (64, (nI at1097))]) (l2 := [(15, (nI fa1098)), (16, pl1099), (27, (nI nd20)), (31, (nI wr22)), (64, (nI at1097)), (65, (nI ne)), (66, (nI lk21))]) (V := [(nI fa1098), pl1099, (nI nd20), (nI wr22), (nI at1097), (nI ne), (nI lk21), (nI fa1098), pl1099, (nI at1097), (nI fa1098), pl1099, (nI nd20), (nI wr22), (nI at1097), (nI ne), (nI lk21)]) rfl rfl (show (updA (updA (stR X24 12 nd (nI r23)) 2 K) 2 K) = (updA (stR X24 12 nd (nI r23)) 2 K) from updsA_eq2 (F := X24) (l1 := [(12, (upd (X24 12) nd (nI r23))), (2, K), (2, K)]) (l2 := [(12, (upd (X24 12) nd (nI r23))), (2, K)]) (V := [(upd (X24 12) nd (nI r23)), K, K, (upd (X24 12) nd (nI r23)), K]) rfl rfl) hP
          have hD : va_D A (mW G h0 a (upd (upd (upd (upd (upd (upd (upd F 15 (nI fa1098)) 16 pl1099) 27 (nI nd20)) 31 (nI wr22)) 64 (nI at1097)) 65 (nI ne)) 66 (nI lk21)) (updA (stR X24 12 nd (nI r23)) 2 K)) := mW_D hD
          refine W.widen (k := 0) (n := 0) (Nat.le_of_ble_eq_true rfl) (Nat.le_of_ble_eq_true rfl) ?_
          refine W.eq (g2 := F0 m 104 ls [.int (nI at176)]) rfl ?_
          obtain ⟨n1109, n1108⟩ := h1104 e187
          replace n1109 := n1109.symm
          subst n1109
          replace n1108 := n1108.symm
          subst n1108
          refine lv_istore (lv' := [(5, .int (nI at176)), (4, .int (nI at176)), (3, .int (nI (at160 - 1))), (2, .int (-1)), (1, .int (nI nd)), (0, .ref h0)]) hx hb dX12_attempt_104 hl (by decide) rfl (fun ls hl => ?_)
          refine lv_aload_n hx hb dX12_attempt_106 rfl (lv_at hl 5 rfl) ?_
          refine lv_bipush (v := 41) hx hb dX12_attempt_107 (by decide) ?_
          have hP : va_P G.1 pCl (mW G h0 a (upd (upd (upd (upd (upd (upd (upd (upd (upd F 15 (nI fa177)) 16 pl1099) 27 (nI nd20)) 31 (nI wr22)) 64 (nI at176)) 65 (nI ne)) 66 (nI lk21)) 15 (nI fa177)) 64 (nI at176)) (updA (updA (stR X24 12 nd (nI r23)) 2 K) 2 K)) _ := hP
          have hD : va_D A (mW G h0 a (upd (upd (upd (upd (upd (upd (upd (upd (upd F 15 (nI fa177)) 16 pl1099) 27 (nI nd20)) 31 (nI wr22)) 64 (nI at176)) 65 (nI ne)) 66 (nI lk21)) 15 (nI fa177)) 64 (nI at176)) (updA (updA (stR X24 12 nd (nI r23)) 2 K) 2 K)) := mW_D hD
          refine pc_V0 (G := G) (As := [.int 41]) (rest := []) hx hb hml hown hq hE hX pX0_al hP hD hS hA hl.1 (R_take l G h0 a (upd (upd (upd (upd (upd (upd (upd F 15 (nI fa177)) 16 pl1099) 27 (nI nd20)) 31 (nI wr22)) 64 (nI at176)) 65 (nI ne)) 66 (nI lk21)) (updA (stR X24 12 nd (nI r23)) 2 K) at176 T fa177 K 41 (by omega) (by omega) hK (by omega) (by decide) (by decide)) (gV pw_1614 pw_1615 pw_1616 pw_1523 pw_1601) hV_X12_take 0 9 rfl rfl rfl rfl (Nat.le_of_ble_eq_true rfl) dX12_attempt_109 ⟨Nat.le_of_ble_eq_true rfl, Nat.le_of_ble_eq_true rfl⟩ ⟨(by show 4 + 1 ≤ (26 * n + 43); omega), (by show 8 + (2 + 11) + 103 ≤ (2000 * n + 4300); omega)⟩ (fun v1112 u1110 H locs hw1111 hP hD hS => ?_)
          obtain ⟨at1113, fa1114, pl1115⟩ := u1110
          obtain ⟨hw1111, h1116, h1117, h1118, h1119, h1120, h1121, h1122, h1123⟩ := hw1111
          have h1116 : at176 ≤ at1113 := h1116
          have h1117 : at1113 ≤ T := h1117
          have h1118 : fa177 ≤ fa1114 := h1118
          have h1119 : fa1114 ≤ 100 := h1119
          have h1120 : If (0 < fa177) (at1113 = at176 ∧ fa1114 = fa177) := h1120
          have h1121 : at1113 ≤ at176 + 1 := h1121
          have h1122 : at176 + 1 ≤ at1113 + fa1114 := h1122
          have h1123 : If (fa1114 = 0) (K at176 = 41) := h1123
          obtain rfl : v1112 = none := hw1111
          have hP : va_P G.1 pCl (mW G h0 a (upd (upd (upd (upd (upd (upd (upd F 15 (nI fa1114)) 16 pl1115) 27 (nI nd20)) 31 (nI wr22)) 64 (nI at1113)) 65 (nI ne)) 66 (nI lk21)) (updA (stR X24 12 nd (nI r23)) 2 K)) _ := mW_to (F := F) (l1 := [(15, (nI fa177)), (16, pl1099), (27, (nI nd20)), (31, (nI wr22)), (64, (nI at176)), (65, (nI ne)), (66, (nI lk21)), (15, (nI fa1114)), (16, pl1115), (64, (nI at1113))]) (l2 := [(15, (nI fa1114)), (16, pl1115), (27, (nI nd20)), (31, (nI wr22)), (64, (nI at1113)), (65, (nI ne)), (66, (nI lk21))]) (V := [(nI fa1114), pl1115, (nI nd20), (nI wr22), (nI at1113), (nI ne), (nI lk21), (nI fa1114), pl1115, (nI at1113), (nI fa1114), pl1115, (nI nd20), (nI wr22), (nI at1113), (nI ne), (nI lk21)]) rfl rfl (show (updA (updA (stR X24 12 nd (nI r23)) 2 K) 2 K) = (updA (stR X24 12 nd (nI r23)) 2 K) from updsA_eq2 (F := X24) (l1 := [(12, (upd (X24 12) nd (nI r23))), (2, K), (2, K)]) (l2 := [(12, (upd (X24 12) nd (nI r23))), (2, K)]) (V := [(upd (X24 12) nd (nI r23)), K, K, (upd (X24 12) nd (nI r23)), K]) rfl rfl) hP
          have hD : va_D A (mW G h0 a (upd (upd (upd (upd (upd (upd (upd F 15 (nI fa1114)) 16 pl1115) 27 (nI nd20)) 31 (nI wr22)) 64 (nI at1113)) 65 (nI ne)) 66 (nI lk21)) (updA (stR X24 12 nd (nI r23)) 2 K)) := mW_D hD
          refine W.widen (k := 0) (n := 0) (Nat.le_of_ble_eq_true rfl) (Nat.le_of_ble_eq_true rfl) ?_
          refine W.eq (g2 := F0 m 112 ls []) rfl ?_
          obtain ⟨n1125, n1124⟩ := h1120 e187
          replace n1125 := n1125.symm
          subst n1125
          replace n1124 := n1124.symm
          subst n1124
          refine lv_aload_n hx hb dX12_attempt_112 rfl (lv_at hl 5 rfl) ?_
          refine lv_bipush (v := 44) hx hb dX12_attempt_113 (by decide) ?_
          refine lv_iload_n hx hb dX12_attempt_115 rfl (lv_at hl 2 rfl) ?_
          refine lv_iload hx hb dX12_attempt_116 (lv_at hl 0 rfl) ?_
          refine lv_iload hx hb dX12_attempt_118 (lv_at hl 1 rfl) ?_
          refine lv_iconst (v := (-1)) hx hb dX12_attempt_120 (by decide) ?_
          have hP : va_P G.1 pCl (mW G h0 a (upd (upd (upd (upd (upd (upd (upd (upd F 15 (nI fa177)) 16 pl1115) 27 (nI nd20)) 31 (nI wr22)) 64 (nI at176)) 65 (nI ne)) 66 (nI lk21)) 27 (nI nd20)) (updA (stR X24 12 nd (nI r23)) 2 K)) _ := hP
          have hD : va_D A (mW G h0 a (upd (upd (upd (upd (upd (upd (upd (upd F 15 (nI fa177)) 16 pl1115) 27 (nI nd20)) 31 (nI wr22)) 64 (nI at176)) 65 (nI ne)) 66 (nI lk21)) 27 (nI nd20)) (updA (stR X24 12 nd (nI r23)) 2 K)) := mW_D hD
          refine pc_V0 (G := G) (As := [.int 44, .int (nI (at160 - 1)), .int (nI at176), .int (nI at176), .int (-1)]) (rest := []) hx hb hml hown hq hE hX pX0_al hP hD hS hA hl.1 (R_nodeB l G h0 a (upd (upd (upd (upd (upd (upd (upd F 15 (nI fa177)) 16 pl1115) 27 (nI nd20)) 31 (nI wr22)) 64 (nI at176)) 65 (nI ne)) 66 (nI lk21)) (stR X24 12 nd (nI r23)) 44 (nI (at160 - 1)) (nI at176) (nI at176) (-1) nd20 K (by omega)) (gV pw_1650 pw_1651 pw_1652 pw_1523 pw_1589) hV_X12_node 0 9 rfl rfl rfl rfl (Nat.le_of_ble_eq_true rfl) dX12_attempt_121 ⟨Nat.le_of_ble_eq_true rfl, Nat.le_of_ble_eq_true rfl⟩ ⟨(by show 2 + 1 ≤ (26 * n + 43); omega), (by show 8 + (7 + 11) + 60 ≤ (2000 * n + 4300); omega)⟩ (fun v1128 u1126 H locs hw1127 hP hD hS => ?_)
          obtain ⟨X1129, rfl⟩ : ∃ z, z = u1126 := ⟨_, rfl⟩
          obtain ⟨hw1127, h1130⟩ := hw1127
          have h1130 : NewN (stR X24 12 nd (nI r23)) X1129 nd20 44 (nI (at160 - 1)) (nI at176) (nI at176) (-1) := h1130
          obtain rfl : v1128 = some (.int (nI nd20)) := hw1127
          have hP : va_P G.1 pCl (mW G h0 a (upd (upd (upd (upd (upd (upd (upd F 15 (nI fa177)) 16 pl1115) 27 (nI (nd20 + 1))) 31 (nI wr22)) 64 (nI at176)) 65 (nI ne)) 66 (nI lk21)) (updA X1129 2 K)) _ := mW_to (F := F) (l1 := [(15, (nI fa177)), (16, pl1115), (27, (nI nd20)), (31, (nI wr22)), (64, (nI at176)), (65, (nI ne)), (66, (nI lk21)), (27, (nI (nd20 + 1)))]) (l2 := [(15, (nI fa177)), (16, pl1115), (27, (nI (nd20 + 1))), (31, (nI wr22)), (64, (nI at176)), (65, (nI ne)), (66, (nI lk21))]) (V := [(nI fa177), pl1115, (nI (nd20 + 1)), (nI wr22), (nI at176), (nI ne), (nI lk21), (nI (nd20 + 1)), (nI fa177), pl1115, (nI (nd20 + 1)), (nI wr22), (nI at176), (nI ne), (nI lk21)]) rfl rfl rfl hP
          have hD : va_D A (mW G h0 a (upd (upd (upd (upd (upd (upd (upd F 15 (nI fa177)) 16 pl1115) 27 (nI (nd20 + 1))) 31 (nI wr22)) 64 (nI at176)) 65 (nI ne)) 66 (nI lk21)) (updA X1129 2 K)) := mW_D hD
          refine W.widen (k := 0) (n := 0) (Nat.le_of_ble_eq_true rfl) (Nat.le_of_ble_eq_true rfl) ?_
          refine W.eq (g2 := F0 m 124 ls [.int (nI nd20)]) rfl ?_
          have hkp1131 : Kp B X1129 wr22 T := (Kp.new hkp48 h1130)
          refine lv_istore (lv' := [(6, .int (nI nd20)), (5, .int (nI at176)), (4, .int (nI at176)), (3, .int (nI (at160 - 1))), (2, .int (-1)), (1, .int (nI nd)), (0, .ref h0)]) hx hb dX12_attempt_124 hl (by decide) rfl (fun ls hl => ?_)
          refine lv_aload_n hx hb dX12_attempt_126 rfl (lv_at hl 6 rfl) ?_
          refine r_get (v := .ref (a 13)) hx hb hown hq hE hP 21 50 tFX12_21 (by decide) pw_1443 rfl dX12_attempt_127 ?_
          refine lv_iload hx hb dX12_attempt_130 (lv_at hl 0 rfl) ?_
          refine lv_aload_n hx hb dX12_attempt_132 rfl (lv_at hl 6 rfl) ?_
          have hP : va_P G.1 pCl (mW G h0 a (upd (upd (upd (upd (upd (upd (upd (upd (upd (upd (upd F 15 (nI fa177)) 16 pl1115) 27 (nI (nd20 + 1))) 31 (nI wr22)) 64 (nI at176)) 65 (nI ne)) 66 (nI lk21)) 15 (nI fa177)) 27 (nI (nd20 + 1))) 31 (nI wr22)) 64 (nI at176)) (updA X1129 2 K)) _ := mW_to (F := F) (l1 := [(15, (nI fa177)), (16, pl1115), (27, (nI (nd20 + 1))), (31, (nI wr22)), (64, (nI at176)), (65, (nI ne)), (66, (nI lk21))]) (l2 := [(15, (nI fa177)), (16, pl1115), (27, (nI (nd20 + 1))), (31, (nI wr22)), (64, (nI at176)), (65, (nI ne)), (66, (nI lk21)), (15, (nI fa177)), (27, (nI (nd20 + 1))), (31, (nI wr22)), (64, (nI at176))]) (V := [(nI fa177), pl1115, (nI (nd20 + 1)), (nI wr22), (nI at176), (nI ne), (nI lk21), (nI fa177), pl1115, (nI (nd20 + 1)), (nI wr22), (nI at176), (nI ne), (nI lk21), (nI fa177), (nI (nd20 + 1)), (nI wr22), (nI at176)]) rfl rfl rfl hP
          have hD : va_D A (mW G h0 a (upd (upd (upd (upd (upd (upd (upd (upd (upd (upd (upd F 15 (nI fa177)) 16 pl1115) 27 (nI (nd20 + 1))) 31 (nI wr22)) 64 (nI at176)) 65 (nI ne)) 66 (nI lk21)) 15 (nI fa177)) 27 (nI (nd20 + 1))) 31 (nI wr22)) 64 (nI at176)) (updA X1129 2 K)) := mW_D hD
          refine pc_V0 (G := G) (As := []) (rest := [.int (nI nd20), .ref (a 13)]) hx hb hml hown hq hE hX pX0_al hP hD hS hA hl.1 (RF_block l G h0 a (upd (upd (upd (upd (upd (upd (upd F 15 (nI fa177)) 16 pl1115) 27 (nI (nd20 + 1))) 31 (nI wr22)) 64 (nI at176)) 65 (nI ne)) 66 (nI lk21)) X1129 at176 T fa177 (nd20 + 1) wr22 K (by omega) (by omega) hK (by omega) e187 (by omega) (by omega) (hkp1131).2) (gV pw_1685 pw_1686 pw_1687 pw_1523 pw_1688) hV_X12_block 0 9 rfl rfl rfl rfl (Nat.le_of_ble_eq_true rfl) dX12_attempt_133 ⟨Nat.le_of_ble_eq_true rfl, Nat.le_of_ble_eq_true rfl⟩ ⟨(by show 5 + 1 ≤ (26 * n + 43); omega), (by show 8 + (4 + 11) + 124 ≤ (2000 * n + 4300); omega)⟩ (fun v1134 u1132 H locs hw1133 hP hD hS => ?_)
          obtain ⟨pl1135, wr1136, X1137⟩ := u1132
          obtain ⟨hw1133, h1138, h1139, h1140⟩ := hw1133
          have h1138 : wr22 ≤ wr1136 := h1138
          have h1139 : wr1136 ≤ wr22 := h1139
          have h1140 : Kp X1129 X1137 wr1136 T := h1140
          obtain rfl : v1134 = some (.int (nI (nd20 + 1))) := hw1133
          have hP : va_P G.1 pCl (mW G h0 a (upd (upd (upd (upd (upd (upd (upd F 15 (nI fa177)) 16 pl1135) 27 (nI ((nd20 + 1) + 1))) 31 (nI wr1136)) 64 (nI at176)) 65 (nI ne)) 66 (nI lk21)) (updA X1137 2 K)) _ := mW_to (F := F) (l1 := [(15, (nI fa177)), (16, pl1115), (27, (nI (nd20 + 1))), (31, (nI wr22)), (64, (nI at176)), (65, (nI ne)), (66, (nI lk21)), (15, (nI fa177)), (16, pl1135), (27, (nI ((nd20 + 1) + 1))), (31, (nI wr1136)), (64, (nI at176))]) (l2 := [(15, (nI fa177)), (16, pl1135), (27, (nI ((nd20 + 1) + 1))), (31, (nI wr1136)), (64, (nI at176)), (65, (nI ne)), (66, (nI lk21))]) (V := [(nI fa177), pl1135, (nI ((nd20 + 1) + 1)), (nI wr1136), (nI at176), (nI ne), (nI lk21), (nI fa177), pl1135, (nI ((nd20 + 1) + 1)), (nI wr1136), (nI at176), (nI fa177), pl1135, (nI ((nd20 + 1) + 1)), (nI wr1136), (nI at176), (nI ne), (nI lk21)]) rfl rfl rfl hP
          have hD : va_D A (mW G h0 a (upd (upd (upd (upd (upd (upd (upd F 15 (nI fa177)) 16 pl1135) 27 (nI ((nd20 + 1) + 1))) 31 (nI wr1136)) 64 (nI at176)) 65 (nI ne)) 66 (nI lk21)) (updA X1137 2 K)) := mW_D hD
          refine W.widen (k := 0) (n := 0) (Nat.le_of_ble_eq_true rfl) (Nat.le_of_ble_eq_true rfl) ?_
          refine W.eq (g2 := F0 m 136 ls [.int (nI (nd20 + 1)), .int (nI nd20), .ref (a 13)]) rfl ?_
          have hkp1141 : Kp B X1137 wr1136 T := (Kp.trans hkp1131 h1140)
          refine r_sti (f := (X1137 13)) (j := nd20) hx hb hE hP hD hS 13 (ma_13 G a _) rfl (mas_13 G a _) (by omega) (by decide) dX12_attempt_136 (fun H locs hP hD hS => ?_)
          have hP : va_P G.1 pCl (mW G h0 a (upd (upd (upd (upd (upd (upd (upd F 15 (nI fa177)) 16 pl1135) 27 (nI ((nd20 + 1) + 1))) 31 (nI wr1136)) 64 (nI at176)) 65 (nI ne)) 66 (nI lk21)) (updA (stR X1137 13 nd20 (nI (nd20 + 1))) 2 K)) _ := mW_to (F := F) (l1 := [(15, (nI fa177)), (16, pl1135), (27, (nI ((nd20 + 1) + 1))), (31, (nI wr1136)), (64, (nI at176)), (65, (nI ne)), (66, (nI lk21))]) (l2 := [(15, (nI fa177)), (16, pl1135), (27, (nI ((nd20 + 1) + 1))), (31, (nI wr1136)), (64, (nI at176)), (65, (nI ne)), (66, (nI lk21))]) (V := [(nI fa177), pl1135, (nI ((nd20 + 1) + 1)), (nI wr1136), (nI at176), (nI ne), (nI lk21), (nI fa177), pl1135, (nI ((nd20 + 1) + 1)), (nI wr1136), (nI at176), (nI ne), (nI lk21)]) rfl rfl (show (updA (updA X1137 2 K) 13 (upd (X1137 13) nd20 (nI (nd20 + 1)))) = (updA (stR X1137 13 nd20 (nI (nd20 + 1))) 2 K) from updsA_eq2 (F := X1137) (l1 := [(2, K), (13, (upd (X1137 13) nd20 (nI (nd20 + 1))))]) (l2 := [(13, (upd (X1137 13) nd20 (nI (nd20 + 1)))), (2, K)]) (V := [K, (upd (X1137 13) nd20 (nI (nd20 + 1))), (upd (X1137 13) nd20 (nI (nd20 + 1))), K]) rfl rfl) hP
          have hD : va_D A (mW G h0 a (upd (upd (upd (upd (upd (upd (upd F 15 (nI fa177)) 16 pl1135) 27 (nI ((nd20 + 1) + 1))) 31 (nI wr1136)) 64 (nI at176)) 65 (nI ne)) 66 (nI lk21)) (updA (stR X1137 13 nd20 (nI (nd20 + 1))) 2 K)) := mW_D hD
          have hkp1142 : Kp B (stR X1137 13 nd20 (nI (nd20 + 1))) wr1136 T := (Kp.row hkp1141 (by omega))
          refine lv_iload_n hx hb dX12_attempt_137 rfl (lv_at hl 4 rfl) ?_
          refine lv_iconst (v := (-1)) hx hb dX12_attempt_138 (by decide) ?_
          refine lv_icmp_ne (tgt := 153) hx hb dX12_attempt_139 (by decide) (fun c1143 => absurd c1143 (by decide)) (fun c1143 => ?_)
          refine lv_aload_n hx hb dX12_attempt_142 rfl (lv_at hl 6 rfl) ?_
          refine r_get (v := .ref (a 13)) hx hb hown hq hE hP 21 50 tFX12_21 (by decide) pw_1443 rfl dX12_attempt_143 ?_
          refine lv_iload_n hx hb dX12_attempt_146 rfl (lv_at hl 5 rfl) ?_
          refine lv_iload hx hb dX12_attempt_147 (lv_at hl 0 rfl) ?_
          refine r_sti (f := ((stR X1137 13 nd20 (nI (nd20 + 1))) 13)) (j := nd) hx hb hE hP hD hS 13 (ma_13 G a _) rfl (mas_13 G a _) (by omega) (by decide) dX12_attempt_149 (fun H locs hP hD hS => ?_)
          have hP : va_P G.1 pCl (mW G h0 a (upd (upd (upd (upd (upd (upd (upd F 15 (nI fa177)) 16 pl1135) 27 (nI ((nd20 + 1) + 1))) 31 (nI wr1136)) 64 (nI at176)) 65 (nI ne)) 66 (nI lk21)) (updA (stR (stR X1137 13 nd20 (nI (nd20 + 1))) 13 nd (nI nd20)) 2 K)) _ := mW_to (F := F) (l1 := [(15, (nI fa177)), (16, pl1135), (27, (nI ((nd20 + 1) + 1))), (31, (nI wr1136)), (64, (nI at176)), (65, (nI ne)), (66, (nI lk21))]) (l2 := [(15, (nI fa177)), (16, pl1135), (27, (nI ((nd20 + 1) + 1))), (31, (nI wr1136)), (64, (nI at176)), (65, (nI ne)), (66, (nI lk21))]) (V := [(nI fa177), pl1135, (nI ((nd20 + 1) + 1)), (nI wr1136), (nI at176), (nI ne), (nI lk21), (nI fa177), pl1135, (nI ((nd20 + 1) + 1)), (nI wr1136), (nI at176), (nI ne), (nI lk21)]) rfl rfl (show (updA (updA (stR X1137 13 nd20 (nI (nd20 + 1))) 2 K) 13 (upd ((stR X1137 13 nd20 (nI (nd20 + 1))) 13) nd (nI nd20))) = (updA (stR (stR X1137 13 nd20 (nI (nd20 + 1))) 13 nd (nI nd20)) 2 K) from updsA_eq2 (F := X1137) (l1 := [(13, (upd (X1137 13) nd20 (nI (nd20 + 1)))), (2, K), (13, (upd ((stR X1137 13 nd20 (nI (nd20 + 1))) 13) nd (nI nd20)))]) (l2 := [(13, (upd (X1137 13) nd20 (nI (nd20 + 1)))), (13, (upd ((stR X1137 13 nd20 (nI (nd20 + 1))) 13) nd (nI nd20))), (2, K)]) (V := [(upd ((stR X1137 13 nd20 (nI (nd20 + 1))) 13) nd (nI nd20)), K, (upd ((stR X1137 13 nd20 (nI (nd20 + 1))) 13) nd (nI nd20)), (upd ((stR X1137 13 nd20 (nI (nd20 + 1))) 13) nd (nI nd20)), (upd ((stR X1137 13 nd20 (nI (nd20 + 1))) 13) nd (nI nd20)), K]) rfl rfl) hP
          have hD : va_D A (mW G h0 a (upd (upd (upd (upd (upd (upd (upd F 15 (nI fa177)) 16 pl1135) 27 (nI ((nd20 + 1) + 1))) 31 (nI wr1136)) 64 (nI at176)) 65 (nI ne)) 66 (nI lk21)) (updA (stR (stR X1137 13 nd20 (nI (nd20 + 1))) 13 nd (nI nd20)) 2 K)) := mW_D hD
          have hkp1144 : Kp B (stR (stR X1137 13 nd20 (nI (nd20 + 1))) 13 nd (nI nd20)) wr1136 T := (Kp.row hkp1142 (by omega))
          refine lv_goto (tgt := 161) hx hb dX12_attempt_150 (by decide) ?_
          refine lv_iload hx hb dX12_attempt_161 (lv_at hl 0 rfl) ?_
          refine lv_istore_n (lv' := [(2, .int (nI nd20)), (6, .int (nI nd20)), (5, .int (nI at176)), (4, .int (nI at176)), (3, .int (nI (at160 - 1))), (1, .int (nI nd)), (0, .ref h0)]) hx hb dX12_attempt_163 rfl hl (by decide) rfl (fun ls hl => ?_)
          refine lv_goto (tgt := 71) hx hb dX12_attempt_164 (by decide) ?_
          refine lv_aload_n hx hb dX12_attempt_71 rfl (lv_at hl 6 rfl) ?_
          refine lv_sipush (v := 313) hx hb dX12_attempt_72 (by decide) ?_
          have hP : va_P G.1 pCl (mW G h0 a (upd (upd (upd (upd (upd (upd (upd (upd (upd F 15 (nI fa177)) 16 pl1135) 27 (nI ((nd20 + 1) + 1))) 31 (nI wr1136)) 64 (nI at176)) 65 (nI ne)) 66 (nI lk21)) 15 (nI fa177)) 64 (nI at176)) (updA (updA (stR (stR X1137 13 nd20 (nI (nd20 + 1))) 13 nd (nI nd20)) 2 K) 2 K)) _ := mW_to (F := F) (l1 := [(15, (nI fa177)), (16, pl1135), (27, (nI ((nd20 + 1) + 1))), (31, (nI wr1136)), (64, (nI at176)), (65, (nI ne)), (66, (nI lk21))]) (l2 := [(15, (nI fa177)), (16, pl1135), (27, (nI ((nd20 + 1) + 1))), (31, (nI wr1136)), (64, (nI at176)), (65, (nI ne)), (66, (nI lk21)), (15, (nI fa177)), (64, (nI at176))]) (V := [(nI fa177), pl1135, (nI ((nd20 + 1) + 1)), (nI wr1136), (nI at176), (nI ne), (nI lk21), (nI fa177), pl1135, (nI ((nd20 + 1) + 1)), (nI wr1136), (nI at176), (nI ne), (nI lk21), (nI fa177), (nI at176)]) rfl rfl (show (updA (stR (stR X1137 13 nd20 (nI (nd20 + 1))) 13 nd (nI nd20)) 2 K) = (updA (updA (stR (stR X1137 13 nd20 (nI (nd20 + 1))) 13 nd (nI nd20)) 2 K) 2 K) from updsA_eq2 (F := X1137) (l1 := [(13, (upd (X1137 13) nd20 (nI (nd20 + 1)))), (13, (upd ((stR X1137 13 nd20 (nI (nd20 + 1))) 13) nd (nI nd20))), (2, K)]) (l2 := [(13, (upd (X1137 13) nd20 (nI (nd20 + 1)))), (13, (upd ((stR X1137 13 nd20 (nI (nd20 + 1))) 13) nd (nI nd20))), (2, K), (2, K)]) (V := [(upd ((stR X1137 13 nd20 (nI (nd20 + 1))) 13) nd (nI nd20)), (upd ((stR X1137 13 nd20 (nI (nd20 + 1))) 13) nd (nI nd20)), K, (upd ((stR X1137 13 nd20 (nI (nd20 + 1))) 13) nd (nI nd20)), (upd ((stR X1137 13 nd20 (nI (nd20 + 1))) 13) nd (nI nd20)), K, K]) rfl rfl) hP
          have hD : va_D A (mW G h0 a (upd (upd (upd (upd (upd (upd (upd (upd (upd F 15 (nI fa177)) 16 pl1135) 27 (nI ((nd20 + 1) + 1))) 31 (nI wr1136)) 64 (nI at176)) 65 (nI ne)) 66 (nI lk21)) 15 (nI fa177)) 64 (nI at176)) (updA (updA (stR (stR X1137 13 nd20 (nI (nd20 + 1))) 13 nd (nI nd20)) 2 K) 2 K)) := mW_D hD
          refine pc_V0 (G := G) (As := [.int 313]) (rest := []) hx hb hml hown hq hE hX pX0_al hP hD hS hA hl.1 (R_may l G h0 a (upd (upd (upd (upd (upd (upd (upd F 15 (nI fa177)) 16 pl1135) 27 (nI ((nd20 + 1) + 1))) 31 (nI wr1136)) 64 (nI at176)) 65 (nI ne)) 66 (nI lk21)) (updA (stR (stR X1137 13 nd20 (nI (nd20 + 1))) 13 nd (nI nd20)) 2 K) at176 T fa177 K 313 (by omega) (by omega) hK (by omega) (by decide) (by decide)) (gV pw_1621 pw_1622 pw_1623 pw_1523 pw_1605) hV_X12_may 0 9 rfl rfl rfl rfl (Nat.le_of_ble_eq_true rfl) dX12_attempt_75 ⟨Nat.le_of_ble_eq_true rfl, Nat.le_of_ble_eq_true rfl⟩ ⟨(by show 3 + 1 ≤ (26 * n + 43); omega), (by show 8 + (3 + 11) + 81 ≤ (2000 * n + 4300); omega)⟩ (fun v1147 u1145 H locs hw1146 hP hD hS => ?_)
          obtain ⟨at1148, r1149⟩ := u1145
          obtain ⟨hw1146, h1150, h1151, h1152, h1153, h1154, h1155⟩ := hw1146
          have h1150 : r1149 ≤ 1 := h1150
          have h1151 : fa177 + 100 * r1149 ≤ 100 := h1151
          have h1152 : at1148 = at176 + r1149 := h1152
          have h1153 : at1148 ≤ T := h1153
          have h1154 : If (r1149 = 1) (K at176 = 313) := h1154
          have h1155 : If (r1149 = 0) (fa177 = 0 → ¬ K at176 = 313) := h1155
          obtain rfl : v1147 = some (.int (nI r1149)) := hw1146
          have hP : va_P G.1 pCl (mW G h0 a (upd (upd (upd (upd (upd (upd (upd F 15 (nI fa177)) 16 pl1135) 27 (nI ((nd20 + 1) + 1))) 31 (nI wr1136)) 64 (nI at1148)) 65 (nI ne)) 66 (nI lk21)) (updA (stR (stR X1137 13 nd20 (nI (nd20 + 1))) 13 nd (nI nd20)) 2 K)) _ := mW_to (F := F) (l1 := [(15, (nI fa177)), (16, pl1135), (27, (nI ((nd20 + 1) + 1))), (31, (nI wr1136)), (64, (nI at176)), (65, (nI ne)), (66, (nI lk21)), (15, (nI fa177)), (64, (nI at1148))]) (l2 := [(15, (nI fa177)), (16, pl1135), (27, (nI ((nd20 + 1) + 1))), (31, (nI wr1136)), (64, (nI at1148)), (65, (nI ne)), (66, (nI lk21))]) (V := [(nI fa177), pl1135, (nI ((nd20 + 1) + 1)), (nI wr1136), (nI at1148), (nI ne), (nI lk21), (nI fa177), (nI at1148), (nI fa177), pl1135, (nI ((nd20 + 1) + 1)), (nI wr1136), (nI at1148), (nI ne), (nI lk21)]) rfl rfl (show (updA (updA (stR (stR X1137 13 nd20 (nI (nd20 + 1))) 13 nd (nI nd20)) 2 K) 2 K) = (updA (stR (stR X1137 13 nd20 (nI (nd20 + 1))) 13 nd (nI nd20)) 2 K) from updsA_eq2 (F := X1137) (l1 := [(13, (upd (X1137 13) nd20 (nI (nd20 + 1)))), (13, (upd ((stR X1137 13 nd20 (nI (nd20 + 1))) 13) nd (nI nd20))), (2, K), (2, K)]) (l2 := [(13, (upd (X1137 13) nd20 (nI (nd20 + 1)))), (13, (upd ((stR X1137 13 nd20 (nI (nd20 + 1))) 13) nd (nI nd20))), (2, K)]) (V := [(upd ((stR X1137 13 nd20 (nI (nd20 + 1))) 13) nd (nI nd20)), (upd ((stR X1137 13 nd20 (nI (nd20 + 1))) 13) nd (nI nd20)), K, K, (upd ((stR X1137 13 nd20 (nI (nd20 + 1))) 13) nd (nI nd20)), (upd ((stR X1137 13 nd20 (nI (nd20 + 1))) 13) nd (nI nd20)), K]) rfl rfl) hP
          have hD : va_D A (mW G h0 a (upd (upd (upd (upd (upd (upd (upd F 15 (nI fa177)) 16 pl1135) 27 (nI ((nd20 + 1) + 1))) 31 (nI wr1136)) 64 (nI at1148)) 65 (nI ne)) 66 (nI lk21)) (updA (stR (stR X1137 13 nd20 (nI (nd20 + 1))) 13 nd (nI nd20)) 2 K)) := mW_D hD
          refine W.widen (k := 0) (n := 0) (Nat.le_of_ble_eq_true rfl) (Nat.le_of_ble_eq_true rfl) ?_
          refine W.eq (g2 := F0 m 78 ls [.int (nI r1149)]) rfl ?_
          obtain rfl : at176 = at1148 := (by omega)
          refine lv_if_eq (tgt := 167) hx hb dX12_attempt_78 (by decide) (fun c1156 => ?_) (fun c1156 => (by have n1157 : ¬ (r1149 = 0) := fun h9 => c1156 ((nI_eq (a := r1149) (b := 0) (by omega) (by omega)).mpr h9); omega))
          refine lv_aload_n hx hb dX12_attempt_167 rfl (lv_at hl 6 rfl) ?_
          refine lv_sipush (v := 319) hx hb dX12_attempt_168 (by decide) ?_
          have hP : va_P G.1 pCl (mW G h0 a (upd (upd (upd (upd (upd (upd (upd (upd (upd F 15 (nI fa177)) 16 pl1135) 27 (nI ((nd20 + 1) + 1))) 31 (nI wr1136)) 64 (nI at176)) 65 (nI ne)) 66 (nI lk21)) 15 (nI fa177)) 64 (nI at176)) (updA (updA (stR (stR X1137 13 nd20 (nI (nd20 + 1))) 13 nd (nI nd20)) 2 K) 2 K)) _ := hP
          have hD : va_D A (mW G h0 a (upd (upd (upd (upd (upd (upd (upd (upd (upd F 15 (nI fa177)) 16 pl1135) 27 (nI ((nd20 + 1) + 1))) 31 (nI wr1136)) 64 (nI at176)) 65 (nI ne)) 66 (nI lk21)) 15 (nI fa177)) 64 (nI at176)) (updA (updA (stR (stR X1137 13 nd20 (nI (nd20 + 1))) 13 nd (nI nd20)) 2 K) 2 K)) := mW_D hD
          refine pc_V0 (G := G) (As := [.int 319]) (rest := []) hx hb hml hown hq hE hX pX0_al hP hD hS hA hl.1 (R_may l G h0 a (upd (upd (upd (upd (upd (upd (upd F 15 (nI fa177)) 16 pl1135) 27 (nI ((nd20 + 1) + 1))) 31 (nI wr1136)) 64 (nI at176)) 65 (nI ne)) 66 (nI lk21)) (updA (stR (stR X1137 13 nd20 (nI (nd20 + 1))) 13 nd (nI nd20)) 2 K) at176 T fa177 K 319 (by omega) (by omega) hK (by omega) (by decide) (by decide)) (gV pw_1621 pw_1622 pw_1623 pw_1523 pw_1605) hV_X12_may 0 9 rfl rfl rfl rfl (Nat.le_of_ble_eq_true rfl) dX12_attempt_171 ⟨Nat.le_of_ble_eq_true rfl, Nat.le_of_ble_eq_true rfl⟩ ⟨(by show 3 + 1 ≤ (26 * n + 43); omega), (by show 8 + (3 + 11) + 81 ≤ (2000 * n + 4300); omega)⟩ (fun v1160 u1158 H locs hw1159 hP hD hS => ?_)
          obtain ⟨at1161, r1162⟩ := u1158
          obtain ⟨hw1159, h1163, h1164, h1165, h1166, h1167, h1168⟩ := hw1159
          have h1163 : r1162 ≤ 1 := h1163
          have h1164 : fa177 + 100 * r1162 ≤ 100 := h1164
          have h1165 : at1161 = at176 + r1162 := h1165
          have h1166 : at1161 ≤ T := h1166
          have h1167 : If (r1162 = 1) (K at176 = 319) := h1167
          have h1168 : If (r1162 = 0) (fa177 = 0 → ¬ K at176 = 319) := h1168
          obtain rfl : v1160 = some (.int (nI r1162)) := hw1159
          have hP : va_P G.1 pCl (mW G h0 a (upd (upd (upd (upd (upd (upd (upd F 15 (nI fa177)) 16 pl1135) 27 (nI ((nd20 + 1) + 1))) 31 (nI wr1136)) 64 (nI at1161)) 65 (nI ne)) 66 (nI lk21)) (updA (stR (stR X1137 13 nd20 (nI (nd20 + 1))) 13 nd (nI nd20)) 2 K)) _ := mW_to (F := F) (l1 := [(15, (nI fa177)), (16, pl1135), (27, (nI ((nd20 + 1) + 1))), (31, (nI wr1136)), (64, (nI at176)), (65, (nI ne)), (66, (nI lk21)), (15, (nI fa177)), (64, (nI at1161))]) (l2 := [(15, (nI fa177)), (16, pl1135), (27, (nI ((nd20 + 1) + 1))), (31, (nI wr1136)), (64, (nI at1161)), (65, (nI ne)), (66, (nI lk21))]) (V := [(nI fa177), pl1135, (nI ((nd20 + 1) + 1)), (nI wr1136), (nI at1161), (nI ne), (nI lk21), (nI fa177), (nI at1161), (nI fa177), pl1135, (nI ((nd20 + 1) + 1)), (nI wr1136), (nI at1161), (nI ne), (nI lk21)]) rfl rfl (show (updA (updA (stR (stR X1137 13 nd20 (nI (nd20 + 1))) 13 nd (nI nd20)) 2 K) 2 K) = (updA (stR (stR X1137 13 nd20 (nI (nd20 + 1))) 13 nd (nI nd20)) 2 K) from updsA_eq2 (F := X1137) (l1 := [(13, (upd (X1137 13) nd20 (nI (nd20 + 1)))), (13, (upd ((stR X1137 13 nd20 (nI (nd20 + 1))) 13) nd (nI nd20))), (2, K), (2, K)]) (l2 := [(13, (upd (X1137 13) nd20 (nI (nd20 + 1)))), (13, (upd ((stR X1137 13 nd20 (nI (nd20 + 1))) 13) nd (nI nd20))), (2, K)]) (V := [(upd ((stR X1137 13 nd20 (nI (nd20 + 1))) 13) nd (nI nd20)), (upd ((stR X1137 13 nd20 (nI (nd20 + 1))) 13) nd (nI nd20)), K, K, (upd ((stR X1137 13 nd20 (nI (nd20 + 1))) 13) nd (nI nd20)), (upd ((stR X1137 13 nd20 (nI (nd20 + 1))) 13) nd (nI nd20)), K]) rfl rfl) hP
          have hD : va_D A (mW G h0 a (upd (upd (upd (upd (upd (upd (upd F 15 (nI fa177)) 16 pl1135) 27 (nI ((nd20 + 1) + 1))) 31 (nI wr1136)) 64 (nI at1161)) 65 (nI ne)) 66 (nI lk21)) (updA (stR (stR X1137 13 nd20 (nI (nd20 + 1))) 13 nd (nI nd20)) 2 K)) := mW_D hD
          refine W.widen (k := 0) (n := 0) (Nat.le_of_ble_eq_true rfl) (Nat.le_of_ble_eq_true rfl) ?_
          refine W.eq (g2 := F0 m 174 ls [.int (nI r1162)]) rfl ?_
          obtain rfl : at176 = at1161 := (by omega)
          refine lv_if_eq (tgt := 187) hx hb dX12_attempt_174 (by decide) (fun c1169 => ?_) (fun c1169 => (by have n1170 : ¬ (r1162 = 0) := fun h9 => c1169 ((nI_eq (a := r1162) (b := 0) (by omega) (by omega)).mpr h9); omega))
          refine lv_iload_n hx hb dX12_attempt_187 rfl (lv_at hl 5 rfl) ?_
          have hz1171 : at0 ≤ at176 := (by omega)
          have hz1172 : at176 ≤ T := (by omega)
          have hz1173 : fa177 ≤ 100 := (by omega)
          have hz1174 : nd ≤ ((nd20 + 1) + 1) := (by omega)
          have hz1175 : ((nd20 + 1) + 1) + 2 * at0 ≤ nd + 2 * at176 + 100000 * fa177 := (by omega)
          have hz1176 : ((nd20 + 1) + 1) + 2 * at0 ≤ nd + 2 * at176 + (60 * (21 - ne) + 40) := (by omega)
          have hz1177 : wr ≤ wr1136 := (by omega)
          have hz1178 : wr1136 + at0 ≤ wr + at176 := (by omega)
          have hz1179 : lk ≤ lk21 := (by omega)
          have hz1180 : lk21 ≤ 60 + 100 * fa177 := (by omega)
          have hz1181 : at0 + 1 ≤ at176 + fa177 := (by omega)
          have hz1182 : nd ≤ ((nd20 + 1) + 1) := (by omega)
          have hz1183 : Kp B (stR (stR X1137 13 nd20 (nI (nd20 + 1))) 13 nd (nI nd20)) wr1136 T := hkp1144
          have hz1184 : If (fa177 = 0) (Low B (stR (stR X1137 13 nd20 (nI (nd20 + 1))) 13 nd (nI nd20)) nd wr ∧ Frs K T wr1136 (stR (stR X1137 13 nd20 (nI (nd20 + 1))) 13 nd (nI nd20)) nd ((nd20 + 1) + 1) 20000 [(nd, (280 + 4 * (21 - ne)))] ∧ kcl 3 ((stR (stR X1137 13 nd20 (nI (nd20 + 1))) 13 nd (nI nd20)) 9 nd) = true) := (fun e => absurd e (by omega))
          have hP : va_P G.1 pCl (mW G h0 a (upd (upd (upd (upd (upd (upd (upd F 15 (nI fa177)) 16 pl1135) 27 (nI ((nd20 + 1) + 1))) 31 (nI wr1136)) 64 (nI at176)) 65 (nI ne)) 66 (nI lk21)) (updA (stR (stR X1137 13 nd20 (nI (nd20 + 1))) 13 nd (nI nd20)) 2 K)) _ := hP
          have hD : va_D A (mW G h0 a (upd (upd (upd (upd (upd (upd (upd F 15 (nI fa177)) 16 pl1135) 27 (nI ((nd20 + 1) + 1))) 31 (nI wr1136)) 64 (nI at176)) 65 (nI ne)) 66 (nI lk21)) (updA (stR (stR X1137 13 nd20 (nI (nd20 + 1))) 13 nd (nI nd20)) 2 K)) := mW_D hD
          exact W.iret (v := (nI nd)) hx hb hr (fun t9 ht9 hW9 => ⟨⟨_, (at176, fa177, pl1135, ((nd20 + 1) + 1), lk21, wr1136, nd, (stR (stR X1137 13 nd20 (nI (nd20 + 1))) 13 nd (nI nd20))), rfl, ⟨rfl, hz1171, hz1172, hz1173, hz1174, hz1175, hz1176, hz1177, hz1178, hz1179, hz1180, hz1181, hz1182, hz1183, hz1184⟩, by rw [ht9]; exact hP, hD⟩, hS.F ht9⟩) hS.2.2 dX12_attempt_188
    · refine lv_aload_n hx hb dX12_attempt_54 rfl (lv_at hl 1 rfl) ?_
      have hP : va_P G.1 pCl (mW G h0 a (upd (upd (upd (upd (upd (upd (upd (upd (upd F 15 0) 16 pl19) 27 (nI nd20)) 31 (nI wr22)) 64 (nI at17)) 65 (nI ne)) 66 (nI lk21)) 15 (nI 0)) 64 (nI at17)) (updA (updA (stR X24 12 nd (nI r23)) 2 K) 2 K)) _ := mW_to (F := F) (l1 := [(15, 0), (16, pl19), (27, (nI nd20)), (31, (nI wr22)), (64, (nI at17)), (65, (nI ne)), (66, (nI lk21))]) (l2 := [(15, 0), (16, pl19), (27, (nI nd20)), (31, (nI wr22)), (64, (nI at17)), (65, (nI ne)), (66, (nI lk21)), (15, (nI 0)), (64, (nI at17))]) (V := [(nI 0), pl19, (nI nd20), (nI wr22), (nI at17), (nI ne), (nI lk21), (nI 0), pl19, (nI nd20), (nI wr22), (nI at17), (nI ne), (nI lk21), (nI 0), (nI at17)]) rfl rfl (show (updA (stR X24 12 nd (nI r23)) 2 K) = (updA (updA (stR X24 12 nd (nI r23)) 2 K) 2 K) from updsA_eq2 (F := X24) (l1 := [(12, (upd (X24 12) nd (nI r23))), (2, K)]) (l2 := [(12, (upd (X24 12) nd (nI r23))), (2, K), (2, K)]) (V := [(upd (X24 12) nd (nI r23)), K, (upd (X24 12) nd (nI r23)), K, K]) rfl rfl) hP
      have hD : va_D A (mW G h0 a (upd (upd (upd (upd (upd (upd (upd (upd (upd F 15 0) 16 pl19) 27 (nI nd20)) 31 (nI wr22)) 64 (nI at17)) 65 (nI ne)) 66 (nI lk21)) 15 (nI 0)) 64 (nI at17)) (updA (updA (stR X24 12 nd (nI r23)) 2 K) 2 K)) := mW_D hD
      refine pc_V0 (G := G) (As := []) (rest := []) hx hb hml hown hq hE hX pX0_al hP hD hS hA hl.1 (R_kind l G h0 a (upd (upd (upd (upd (upd (upd (upd F 15 0) 16 pl19) 27 (nI nd20)) 31 (nI wr22)) 64 (nI at17)) 65 (nI ne)) 66 (nI lk21)) (updA (stR X24 12 nd (nI r23)) 2 K) at17 T 0 K (by omega) (by omega) hK (by omega)) (gV pw_1626 pw_1627 pw_1628 pw_1523 pw_1591) hV_X12_kind 0 9 rfl rfl rfl rfl (Nat.le_of_ble_eq_true rfl) dX12_attempt_55 ⟨Nat.le_of_ble_eq_true rfl, Nat.le_of_ble_eq_true rfl⟩ ⟨(by show 2 + 1 ≤ (26 * n + 43); omega), (by show 8 + (1 + 11) + 60 ≤ (2000 * n + 4300); omega)⟩ (fun v1187 u1185 H locs hw1186 hP hD hS => ?_)
      obtain rfl : v1187 = some (.int (K at17)) := hw1186
      have hP : va_P G.1 pCl (mW G h0 a (upd (upd (upd (upd (upd (upd (upd F 15 0) 16 pl19) 27 (nI nd20)) 31 (nI wr22)) 64 (nI at17)) 65 (nI ne)) 66 (nI lk21)) (updA (stR X24 12 nd (nI r23)) 2 K)) _ := mW_to (F := F) (l1 := [(15, 0), (16, pl19), (27, (nI nd20)), (31, (nI wr22)), (64, (nI at17)), (65, (nI ne)), (66, (nI lk21)), (15, (nI 0)), (64, (nI at17))]) (l2 := [(15, 0), (16, pl19), (27, (nI nd20)), (31, (nI wr22)), (64, (nI at17)), (65, (nI ne)), (66, (nI lk21))]) (V := [0, pl19, (nI nd20), (nI wr22), (nI at17), (nI ne), (nI lk21), 0, (nI at17), 0, pl19, (nI nd20), (nI wr22), (nI at17), (nI ne), (nI lk21)]) rfl rfl (show (updA (updA (stR X24 12 nd (nI r23)) 2 K) 2 K) = (updA (stR X24 12 nd (nI r23)) 2 K) from updsA_eq2 (F := X24) (l1 := [(12, (upd (X24 12) nd (nI r23))), (2, K), (2, K)]) (l2 := [(12, (upd (X24 12) nd (nI r23))), (2, K)]) (V := [(upd (X24 12) nd (nI r23)), K, K, (upd (X24 12) nd (nI r23)), K]) rfl rfl) hP
      have hD : va_D A (mW G h0 a (upd (upd (upd (upd (upd (upd (upd F 15 0) 16 pl19) 27 (nI nd20)) 31 (nI wr22)) 64 (nI at17)) 65 (nI ne)) 66 (nI lk21)) (updA (stR X24 12 nd (nI r23)) 2 K)) := mW_D hD
      refine W.widen (k := 0) (n := 0) (Nat.le_of_ble_eq_true rfl) (Nat.le_of_ble_eq_true rfl) ?_
      refine W.eq (g2 := F0 m 58 ls [.int (K at17)]) rfl ?_
      refine lv_sipush (v := 319) hx hb dX12_attempt_58 (by decide) ?_
      refine lv_icmp_eq (tgt := 69) hx hb dX12_attempt_61 (by decide) (fun c1188 => ?_) (fun c1188 => ?_)
      · have cut_a : ∀ (at2 : Nat) (nd2 : Nat) (wr2 : Nat) (lk2 : Nat) (pl2 : Int32) (X2 : Nat → Nat → Int32) (xa3 : Int32) (xb3 : Int32) (H : Heap) (locs : List Loc) (ls : Array Slot), (at0 + 1 ≤ at2) → (nd ≤ nd2) → (nd2 + 2 * at0 ≤ nd + 2 * at2) → (wr ≤ wr2) → (wr2 + at0 ≤ wr + at2) → (lk ≤ lk2) → (lk2 ≤ 60) → (at2 ≤ T) → (nd + 1 ≤ nd2) → (Kp B X2 wr2 T) → (Low B X2 nd wr) → (Frs K T wr2 X2 nd nd2 20000 [(nd, (280 + 4 * (21 - ne)))]) → (Nd X2 nd 41 xa3 xb3 (-1) (-1)) → va_P G.1 pCl (mW G h0 a (upd (upd (upd (upd (upd (upd (upd F 15 0) 16 pl2) 27 (nI nd2)) 31 (nI wr2)) 64 (nI at2)) 65 (nI ne)) 66 (nI lk2)) (updA X2 2 K)) H → va_D A (mW G h0 a (upd (upd (upd (upd (upd (upd (upd F 15 0) 16 pl2) 27 (nI nd2)) 31 (nI wr2)) 64 (nI at2)) 65 (nI ne)) 66 (nI lk2)) (updA X2 2 K)) → va_S A s.heap H locs → lv_has ls 7 [(1, .int (nI nd)), (0, .ref h0)] → W p l e (headSpec (Cond.code yX12_attempt cX12_attempt 7 (some .int) :: pw) ({ frames := (26 * n + 43), cells := 0, slots := 0, locals := (2000 * n + 4300) } : Room)).room s m ([.ref h0] : List Value).toArray below meth c H locs 0 0 (MQ below (pQ G A (fun (v : Option Value) (u : Nat × Nat × Int32 × Nat × Nat × Nat × Nat × (Nat → Nat → Int32)) => v = some (.int (nI u.2.2.2.2.2.2.1)) ∧ (at0 ≤ u.1) ∧ (u.1 ≤ T) ∧ (u.2.1 ≤ 100) ∧ (nd ≤ u.2.2.2.1) ∧ (u.2.2.2.1 + 2 * at0 ≤ nd + 2 * u.1 + 100000 * u.2.1) ∧ (u.2.2.2.1 + 2 * at0 ≤ nd + 2 * u.1 + (60 * (21 - ne) + 40)) ∧ (wr ≤ u.2.2.2.2.2.1) ∧ (u.2.2.2.2.2.1 + at0 ≤ wr + u.1) ∧ (lk ≤ u.2.2.2.2.1) ∧ (u.2.2.2.2.1 ≤ 60 + 100 * u.2.1) ∧ (at0 + 1 ≤ u.1 + u.2.1) ∧ (u.2.2.2.2.2.2.1 ≤ u.2.2.2.1) ∧ (Kp B u.2.2.2.2.2.2.2 u.2.2.2.2.2.1 T) ∧ (If (u.2.1 = 0) (Low B u.2.2.2.2.2.2.2 nd wr ∧ Frs K T u.2.2.2.2.2.1 u.2.2.2.2.2.2.2 nd u.2.2.2.1 20000 [(u.2.2.2.2.2.2.1, (280 + 4 * (21 - ne)))] ∧ kcl 3 (u.2.2.2.2.2.2.2 9 u.2.2.2.2.2.2.1) = true))) (fun u => (mW G h0 a (upd (upd (upd (upd (upd (upd (upd F 15 (nI u.2.1)) 16 u.2.2.1) 27 (nI u.2.2.2.1)) 31 (nI u.2.2.2.2.2.1)) 64 (nI u.1)) 65 (nI ne)) 66 (nI u.2.2.2.2.1)) (updA u.2.2.2.2.2.2.2 2 K)))) ([.ref h0] : List Value).toArray s ({ frames := (26 * n + 43), cells := 0, slots := 0, locals := (2000 * n + 4300) } : Room).cells ({ frames := (26 * n + 43), cells := 0, slots := 0, locals := (2000 * n + 4300) } : Room).slots A) (F0 m 167 ls []) := by
          intro at2 nd2 wr2 lk2 pl2 X2 xa3 xb3 H locs ls hl1 hl3 hl4 hl5 hl6 hl7 hl8 ha2 hnd2 hkp2 hlo2 hf2 hn2 hP hD hS hl
          refine lv_aload_n hx hb dX12_attempt_167 rfl (lv_at hl 1 rfl) ?_
          refine lv_sipush (v := 319) hx hb dX12_attempt_168 (by decide) ?_
          have hP : va_P G.1 pCl (mW G h0 a (upd (upd (upd (upd (upd (upd (upd (upd (upd F 15 0) 16 pl2) 27 (nI nd2)) 31 (nI wr2)) 64 (nI at2)) 65 (nI ne)) 66 (nI lk2)) 15 (nI 0)) 64 (nI at2)) (updA (updA X2 2 K) 2 K)) _ := mW_to (F := F) (l1 := [(15, 0), (16, pl2), (27, (nI nd2)), (31, (nI wr2)), (64, (nI at2)), (65, (nI ne)), (66, (nI lk2))]) (l2 := [(15, 0), (16, pl2), (27, (nI nd2)), (31, (nI wr2)), (64, (nI at2)), (65, (nI ne)), (66, (nI lk2)), (15, (nI 0)), (64, (nI at2))]) (V := [(nI 0), pl2, (nI nd2), (nI wr2), (nI at2), (nI ne), (nI lk2), (nI 0), pl2, (nI nd2), (nI wr2), (nI at2), (nI ne), (nI lk2), (nI 0), (nI at2)]) rfl rfl (show (updA X2 2 K) = (updA (updA X2 2 K) 2 K) from updsA_eq2 (F := X2) (l1 := [(2, K)]) (l2 := [(2, K), (2, K)]) (V := [K, K, K]) rfl rfl) hP
          have hD : va_D A (mW G h0 a (upd (upd (upd (upd (upd (upd (upd (upd (upd F 15 0) 16 pl2) 27 (nI nd2)) 31 (nI wr2)) 64 (nI at2)) 65 (nI ne)) 66 (nI lk2)) 15 (nI 0)) 64 (nI at2)) (updA (updA X2 2 K) 2 K)) := mW_D hD
          refine pc_V0 (G := G) (As := [.int 319]) (rest := []) hx hb hml hown hq hE hX pX0_al hP hD hS hA hl.1 (R_may l G h0 a (upd (upd (upd (upd (upd (upd (upd F 15 0) 16 pl2) 27 (nI nd2)) 31 (nI wr2)) 64 (nI at2)) 65 (nI ne)) 66 (nI lk2)) (updA X2 2 K) at2 T 0 K 319 (by omega) (by omega) hK (by omega) (by decide) (by decide)) (gV pw_1621 pw_1622 pw_1623 pw_1523 pw_1605) hV_X12_may 0 9 rfl rfl rfl rfl (Nat.le_of_ble_eq_true rfl) dX12_attempt_171 ⟨Nat.le_of_ble_eq_true rfl, Nat.le_of_ble_eq_true rfl⟩ ⟨(by show 3 + 1 ≤ (26 * n + 43); omega), (by show 8 + (3 + 11) + 81 ≤ (2000 * n + 4300); omega)⟩ (fun v1191 u1189 H locs hw1190 hP hD hS => ?_)
          obtain ⟨at1192, r1193⟩ := u1189
          obtain ⟨hw1190, h1194, h1195, h1196, h1197, h1198, h1199⟩ := hw1190
          have h1194 : r1193 ≤ 1 := h1194
          have h1195 : 0 + 100 * r1193 ≤ 100 := h1195
          have h1196 : at1192 = at2 + r1193 := h1196
          have h1197 : at1192 ≤ T := h1197
          have h1198 : If (r1193 = 1) (K at2 = 319) := h1198
          have h1199 : If (r1193 = 0) (0 = 0 → ¬ K at2 = 319) := h1199
          obtain rfl : v1191 = some (.int (nI r1193)) := hw1190
          have hP : va_P G.1 pCl (mW G h0 a (upd (upd (upd (upd (upd (upd (upd F 15 0) 16 pl2) 27 (nI nd2)) 31 (nI wr2)) 64 (nI at1192)) 65 (nI ne)) 66 (nI lk2)) (updA X2 2 K)) _ := mW_to (F := F) (l1 := [(15, 0), (16, pl2), (27, (nI nd2)), (31, (nI wr2)), (64, (nI at2)), (65, (nI ne)), (66, (nI lk2)), (15, (nI 0)), (64, (nI at1192))]) (l2 := [(15, 0), (16, pl2), (27, (nI nd2)), (31, (nI wr2)), (64, (nI at1192)), (65, (nI ne)), (66, (nI lk2))]) (V := [0, pl2, (nI nd2), (nI wr2), (nI at1192), (nI ne), (nI lk2), 0, (nI at1192), 0, pl2, (nI nd2), (nI wr2), (nI at1192), (nI ne), (nI lk2)]) rfl rfl (show (updA (updA X2 2 K) 2 K) = (updA X2 2 K) from updsA_eq2 (F := X2) (l1 := [(2, K), (2, K)]) (l2 := [(2, K)]) (V := [K, K, K]) rfl rfl) hP
          have hD : va_D A (mW G h0 a (upd (upd (upd (upd (upd (upd (upd F 15 0) 16 pl2) 27 (nI nd2)) 31 (nI wr2)) 64 (nI at1192)) 65 (nI ne)) 66 (nI lk2)) (updA X2 2 K)) := mW_D hD
          refine W.widen (k := 0) (n := 0) (Nat.le_of_ble_eq_true rfl) (Nat.le_of_ble_eq_true rfl) ?_
          refine W.eq (g2 := F0 m 174 ls [.int (nI r1193)]) rfl ?_
          refine lv_if_eq (tgt := 187) hx hb dX12_attempt_174 (by decide) (fun c1200 => ?_) (fun c1200 => ?_)
          · have n1201 : r1193 = 0 := (nI_eq (a := r1193) (b := 0) (by omega) (by omega)).mp c1200
            refine lv_iload_n hx hb dX12_attempt_187 rfl (lv_at hl 0 rfl) ?_
            have hz1202 : at0 ≤ at1192 := (by omega)
            have hz1203 : at1192 ≤ T := (by omega)
            have hz1204 : 0 ≤ 100 := (by omega)
            have hz1205 : nd ≤ nd2 := (by omega)
            have hz1206 : nd2 + 2 * at0 ≤ nd + 2 * at1192 + 100000 * 0 := (by omega)
            have hz1207 : nd2 + 2 * at0 ≤ nd + 2 * at1192 + (60 * (21 - ne) + 40) := (by omega)
            have hz1208 : wr ≤ wr2 := (by omega)
            have hz1209 : wr2 + at0 ≤ wr + at1192 := (by omega)
            have hz1210 : lk ≤ lk2 := (by omega)
            have hz1211 : lk2 ≤ 60 + 100 * 0 := (by omega)
            have hz1212 : at0 + 1 ≤ at1192 + 0 := (by omega)
            have hz1213 : nd ≤ nd2 := (by omega)
            have hz1214 : Kp B X2 wr2 T := hkp2
            have hz1215 : If (0 = 0) (Low B X2 nd wr ∧ Frs K T wr2 X2 nd nd2 20000 [(nd, (280 + 4 * (21 - ne)))] ∧ kcl 3 (X2 9 nd) = true) := (fun _ => ⟨hlo2, Frs.up hf2 (by omega), (by rw [hn2.1]; decide)⟩)
            have hP : va_P G.1 pCl (mW G h0 a (upd (upd (upd (upd (upd (upd (upd F 15 (nI 0)) 16 pl2) 27 (nI nd2)) 31 (nI wr2)) 64 (nI at1192)) 65 (nI ne)) 66 (nI lk2)) (updA X2 2 K)) _ := mW_to (F := F) (l1 := [(15, 0), (16, pl2), (27, (nI nd2)), (31, (nI wr2)), (64, (nI at1192)), (65, (nI ne)), (66, (nI lk2))]) (l2 := [(15, (nI 0)), (16, pl2), (27, (nI nd2)), (31, (nI wr2)), (64, (nI at1192)), (65, (nI ne)), (66, (nI lk2))]) (V := [(nI 0), pl2, (nI nd2), (nI wr2), (nI at1192), (nI ne), (nI lk2), (nI 0), pl2, (nI nd2), (nI wr2), (nI at1192), (nI ne), (nI lk2)]) rfl rfl rfl hP
            have hD : va_D A (mW G h0 a (upd (upd (upd (upd (upd (upd (upd F 15 (nI 0)) 16 pl2) 27 (nI nd2)) 31 (nI wr2)) 64 (nI at1192)) 65 (nI ne)) 66 (nI lk2)) (updA X2 2 K)) := mW_D hD
            exact W.iret (v := (nI nd)) hx hb hr (fun t9 ht9 hW9 => ⟨⟨_, (at1192, 0, pl2, nd2, lk2, wr2, nd, X2), rfl, ⟨rfl, hz1202, hz1203, hz1204, hz1205, hz1206, hz1207, hz1208, hz1209, hz1210, hz1211, hz1212, hz1213, hz1214, hz1215⟩, by rw [ht9]; exact hP, hD⟩, hS.F ht9⟩) hS.2.2 dX12_attempt_188
          · have n1216 : ¬ (r1193 = 0) := fun h9 => c1200 ((nI_eq (a := r1193) (b := 0) (by omega) (by omega)).mpr h9)
            refine lv_aload_n hx hb dX12_attempt_177 rfl (lv_at hl 1 rfl) ?_
            refine r_get (v := .ref (a 14)) hx hb hown hq hE hP 22 53 tFX12_22 (by decide) pw_1444 rfl dX12_attempt_178 ?_
            refine lv_iload_n hx hb dX12_attempt_181 rfl (lv_at hl 0 rfl) ?_
            refine lv_aload_n hx hb dX12_attempt_182 rfl (lv_at hl 1 rfl) ?_
            have hP : va_P G.1 pCl (mW G h0 a (upd (upd (upd (upd (upd (upd (upd (upd (upd (upd (upd (upd (upd F 15 0) 16 pl2) 27 (nI nd2)) 31 (nI wr2)) 64 (nI at1192)) 65 (nI ne)) 66 (nI lk2)) 15 0) 27 (nI nd2)) 31 (nI wr2)) 64 (nI at1192)) 65 (nI ne)) 66 (nI lk2)) (updA X2 2 K)) _ := mW_to (F := F) (l1 := [(15, 0), (16, pl2), (27, (nI nd2)), (31, (nI wr2)), (64, (nI at1192)), (65, (nI ne)), (66, (nI lk2))]) (l2 := [(15, 0), (16, pl2), (27, (nI nd2)), (31, (nI wr2)), (64, (nI at1192)), (65, (nI ne)), (66, (nI lk2)), (15, 0), (27, (nI nd2)), (31, (nI wr2)), (64, (nI at1192)), (65, (nI ne)), (66, (nI lk2))]) (V := [0, pl2, (nI nd2), (nI wr2), (nI at1192), (nI ne), (nI lk2), 0, pl2, (nI nd2), (nI wr2), (nI at1192), (nI ne), (nI lk2), 0, (nI nd2), (nI wr2), (nI at1192), (nI ne), (nI lk2)]) rfl rfl rfl hP
            have hD : va_D A (mW G h0 a (upd (upd (upd (upd (upd (upd (upd (upd (upd (upd (upd (upd (upd F 15 0) 16 pl2) 27 (nI nd2)) 31 (nI wr2)) 64 (nI at1192)) 65 (nI ne)) 66 (nI lk2)) 15 0) 27 (nI nd2)) 31 (nI wr2)) 64 (nI at1192)) 65 (nI ne)) 66 (nI lk2)) (updA X2 2 K)) := mW_D hD
            refine pc_V0 (G := G) (As := []) (rest := [.int (nI nd), .ref (a 14)]) hx hb hml hown hq hE hX pX0_al hP hD hS hA hl.1 (hBk h0 a (upd (upd (upd (upd (upd (upd (upd F 15 0) 16 pl2) 27 (nI nd2)) 31 (nI wr2)) 64 (nI at1192)) 65 (nI ne)) 66 (nI lk2)) X2 at1192 T ne nd2 wr2 lk2 K (by omega) (by omega) hK (by omega) (by omega) (by omega) (by omega) (hkp2).2 (by omega)) (gV pw_1685 pw_1686 pw_1687 pw_1523 pw_1688) hV_X12_block 0 9 rfl rfl rfl rfl (Nat.le_of_ble_eq_true rfl) dX12_attempt_183 ⟨Nat.le_of_ble_eq_true rfl, Nat.le_of_ble_eq_true rfl⟩ ⟨(by show (26 * n + 42) + 1 ≤ (26 * n + 43); omega), (by show 8 + (4 + 11) + (2000 * n + 4200) ≤ (2000 * n + 4300); omega)⟩ (fun v1219 u1217 H locs hw1218 hP hD hS => ?_)
            obtain ⟨at1220, fa1221, pl1222, nd1223, lk1224, wr1225, r1226, X1227⟩ := u1217
            obtain ⟨hw1218, h1228, h1229, h1230, h1231, h1232, h1233, h1234, h1235, h1236, h1237, h1238, h1239, h1240, h1241⟩ := hw1218
            have h1228 : at1192 ≤ at1220 := h1228
            have h1229 : at1220 ≤ T := h1229
            have h1230 : fa1221 ≤ 100 := h1230
            have h1231 : nd2 ≤ nd1223 := h1231
            have h1232 : nd1223 + 2 * at1192 ≤ nd2 + 2 * at1220 + 100000 * fa1221 := h1232
            have h1233 : nd1223 + 2 * at1192 ≤ nd2 + 2 * at1220 + (60 * (20 - ne) + 50) := h1233
            have h1234 : wr2 ≤ wr1225 := h1234
            have h1235 : wr1225 + at1192 ≤ wr2 + at1220 := h1235
            have h1236 : lk2 ≤ lk1224 := h1236
            have h1237 : lk1224 ≤ lk2 := h1237
            have h1238 : at1192 + 1 ≤ at1220 + fa1221 := h1238
            have h1239 : r1226 ≤ nd1223 := h1239
            have h1240 : Kp X2 X1227 wr1225 T := h1240
            have h1241 : If (fa1221 = 0) (Low X2 X1227 nd2 wr2 ∧ Frs K T wr1225 X1227 nd2 nd1223 20000 [(r1226, (281 + 4 * (20 - ne)))] ∧ kcl 10 (X1227 9 r1226) = true) := h1241
            obtain rfl : v1219 = some (.int (nI r1226)) := hw1218
            have hP : va_P G.1 pCl (mW G h0 a (upd (upd (upd (upd (upd (upd (upd F 15 (nI fa1221)) 16 pl1222) 27 (nI nd1223)) 31 (nI wr1225)) 64 (nI at1220)) 65 (nI ne)) 66 (nI lk1224)) (updA X1227 2 K)) _ := mW_to (F := F) (l1 := [(15, 0), (16, pl2), (27, (nI nd2)), (31, (nI wr2)), (64, (nI at1192)), (65, (nI ne)), (66, (nI lk2)), (15, (nI fa1221)), (16, pl1222), (27, (nI nd1223)), (31, (nI wr1225)), (64, (nI at1220)), (65, (nI ne)), (66, (nI lk1224))]) (l2 := [(15, (nI fa1221)), (16, pl1222), (27, (nI nd1223)), (31, (nI wr1225)), (64, (nI at1220)), (65, (nI ne)), (66, (nI lk1224))]) (V := [(nI fa1221), pl1222, (nI nd1223), (nI wr1225), (nI at1220), (nI ne), (nI lk1224), (nI fa1221), pl1222, (nI nd1223), (nI wr1225), (nI at1220), (nI ne), (nI lk1224), (nI fa1221), pl1222, (nI nd1223), (nI wr1225), (nI at1220), (nI ne), (nI lk1224)]) rfl rfl rfl hP
            have hD : va_D A (mW G h0 a (upd (upd (upd (upd (upd (upd (upd F 15 (nI fa1221)) 16 pl1222) 27 (nI nd1223)) 31 (nI wr1225)) 64 (nI at1220)) 65 (nI ne)) 66 (nI lk1224)) (updA X1227 2 K)) := mW_D hD
            refine W.widen (k := 0) (n := 0) (Nat.le_of_ble_eq_true rfl) (Nat.le_of_ble_eq_true rfl) ?_
            refine W.eq (g2 := F0 m 186 ls [.int (nI r1226), .int (nI nd), .ref (a 14)]) rfl ?_
            have hkp1242 : Kp B X1227 wr1225 T := (Kp.trans hkp2 h1240)
            rcases Nat.eq_zero_or_pos fa1221 with e1243 | e1243
            · subst e1243
              have hP : va_P G.1 pCl (mW G h0 a (upd (upd (upd (upd (upd (upd (upd F 15 0) 16 pl1222) 27 (nI nd1223)) 31 (nI wr1225)) 64 (nI at1220)) 65 (nI ne)) 66 (nI lk1224)) (updA X1227 2 K)) _ := hP
              have hD : va_D A (mW G h0 a (upd (upd (upd (upd (upd (upd (upd F 15 0) 16 pl1222) 27 (nI nd1223)) 31 (nI wr1225)) 64 (nI at1220)) 65 (nI ne)) 66 (nI lk1224)) (updA X1227 2 K)) := mW_D hD
              obtain ⟨hlw1244, hf1245, hc1246⟩ := h1241 rfl
              have hlo1247 : Low B X1227 nd wr := (Low.trans hlo2 hlw1244 (by omega) (by omega))
              have hf1248 : Frs K T wr1225 X1227 nd nd2 20000 [(nd, (280 + 4 * (21 - ne)))] := (Frs.same hf2 (by omega) (fun j i q1 q2 q3 q4 => (hlw1244.1 j i q1 (by omega) (by omega))))
              have hn1249 : Nd X1227 nd 41 xa3 xb3 (-1) (-1) := (Nd.low hn2 hlw1244 (by omega))
              have hm1250 := Frs.mem hf1245
              refine r_sti (f := (X1227 14)) (j := nd) hx hb hE hP hD hS 14 (ma_14 G a _) rfl (mas_14 G a _) (by omega) (by decide) dX12_attempt_186 (fun H locs hP hD hS => ?_)
              have hP : va_P G.1 pCl (mW G h0 a (upd (upd (upd (upd (upd (upd (upd F 15 0) 16 pl1222) 27 (nI nd1223)) 31 (nI wr1225)) 64 (nI at1220)) 65 (nI ne)) 66 (nI lk1224)) (updA (stR X1227 14 nd (nI r1226)) 2 K)) _ := mW_to (F := F) (l1 := [(15, 0), (16, pl1222), (27, (nI nd1223)), (31, (nI wr1225)), (64, (nI at1220)), (65, (nI ne)), (66, (nI lk1224))]) (l2 := [(15, 0), (16, pl1222), (27, (nI nd1223)), (31, (nI wr1225)), (64, (nI at1220)), (65, (nI ne)), (66, (nI lk1224))]) (V := [0, pl1222, (nI nd1223), (nI wr1225), (nI at1220), (nI ne), (nI lk1224), 0, pl1222, (nI nd1223), (nI wr1225), (nI at1220), (nI ne), (nI lk1224)]) rfl rfl (show (updA (updA X1227 2 K) 14 (upd (X1227 14) nd (nI r1226))) = (updA (stR X1227 14 nd (nI r1226)) 2 K) from updsA_eq2 (F := X1227) (l1 := [(2, K), (14, (upd (X1227 14) nd (nI r1226)))]) (l2 := [(14, (upd (X1227 14) nd (nI r1226))), (2, K)]) (V := [K, (upd (X1227 14) nd (nI r1226)), (upd (X1227 14) nd (nI r1226)), K]) rfl rfl) hP
              have hD : va_D A (mW G h0 a (upd (upd (upd (upd (upd (upd (upd F 15 0) 16 pl1222) 27 (nI nd1223)) 31 (nI wr1225)) 64 (nI at1220)) 65 (nI ne)) 66 (nI lk1224)) (updA (stR X1227 14 nd (nI r1226)) 2 K)) := mW_D hD
              have hkp1251 : Kp B (stR X1227 14 nd (nI r1226)) wr1225 T := (Kp.row hkp1242 (by omega))
              have hlo1252 : Low B (stR X1227 14 nd (nI r1226)) nd wr := (Low.st hlo1247 (by omega) (by omega))
              have hf1253 : Frs K T wr1225 X1227 nd nd1223 20000 [(nd, (280 + 4 * (21 - ne))), (r1226, (281 + 4 * (20 - ne)))] := (Frs.join hf1248 hf1245 (by omega) (by omega) (by omega))
              have hn1254 : Nd (stR X1227 14 nd (nI r1226)) nd 41 xa3 xb3 (nI r1226) (-1) := (Nd.st hn1249 (by omega))
              have hc1255 : kcl 10 ((stR X1227 14 nd (nI r1226)) 9 r1226) = true := by rw [st_ne (by omega)]; exact hc1246
              have hf1256 : Frs K T wr1225 (stR X1227 14 nd (nI r1226)) nd nd1223 20000 [(nd, (280 + 4 * (21 - ne)))] := (Frs.set (s := 3) (k := 41) hf1253 (by omega) (by omega) (by simp) (by omega) (by omega) hn1249.2.2.2.1 hn1249.1 (by decide) ⟨by decide, by decide, by decide, hc1246, fun h => absurd h (by decide)⟩ (by omega) (by omega) (by decide) (fun h1 h2 => by omega))
              refine lv_iload_n hx hb dX12_attempt_187 rfl (lv_at hl 0 rfl) ?_
              have hz1257 : at0 ≤ at1220 := (by omega)
              have hz1258 : at1220 ≤ T := (by omega)
              have hz1259 : 0 ≤ 100 := (by omega)
              have hz1260 : nd ≤ nd1223 := (by omega)
              have hz1261 : nd1223 + 2 * at0 ≤ nd + 2 * at1220 + 100000 * 0 := (by omega)
              have hz1262 : nd1223 + 2 * at0 ≤ nd + 2 * at1220 + (60 * (21 - ne) + 40) := (by omega)
              have hz1263 : wr ≤ wr1225 := (by omega)
              have hz1264 : wr1225 + at0 ≤ wr + at1220 := (by omega)
              have hz1265 : lk ≤ lk1224 := (by omega)
              have hz1266 : lk1224 ≤ 60 + 100 * 0 := (by omega)
              have hz1267 : at0 + 1 ≤ at1220 + 0 := (by omega)
              have hz1268 : nd ≤ nd1223 := (by omega)
              have hz1269 : Kp B (stR X1227 14 nd (nI r1226)) wr1225 T := hkp1251
              have hz1270 : If (0 = 0) (Low B (stR X1227 14 nd (nI r1226)) nd wr ∧ Frs K T wr1225 (stR X1227 14 nd (nI r1226)) nd nd1223 20000 [(nd, (280 + 4 * (21 - ne)))] ∧ kcl 3 ((stR X1227 14 nd (nI r1226)) 9 nd) = true) := (fun _ => ⟨hlo1252, Frs.up hf1256 (by omega), (by rw [hn1254.1]; decide)⟩)
              have hP : va_P G.1 pCl (mW G h0 a (upd (upd (upd (upd (upd (upd (upd F 15 (nI 0)) 16 pl1222) 27 (nI nd1223)) 31 (nI wr1225)) 64 (nI at1220)) 65 (nI ne)) 66 (nI lk1224)) (updA (stR X1227 14 nd (nI r1226)) 2 K)) _ := mW_to (F := F) (l1 := [(15, 0), (16, pl1222), (27, (nI nd1223)), (31, (nI wr1225)), (64, (nI at1220)), (65, (nI ne)), (66, (nI lk1224))]) (l2 := [(15, (nI 0)), (16, pl1222), (27, (nI nd1223)), (31, (nI wr1225)), (64, (nI at1220)), (65, (nI ne)), (66, (nI lk1224))]) (V := [(nI 0), pl1222, (nI nd1223), (nI wr1225), (nI at1220), (nI ne), (nI lk1224), (nI 0), pl1222, (nI nd1223), (nI wr1225), (nI at1220), (nI ne), (nI lk1224)]) rfl rfl rfl hP
              have hD : va_D A (mW G h0 a (upd (upd (upd (upd (upd (upd (upd F 15 (nI 0)) 16 pl1222) 27 (nI nd1223)) 31 (nI wr1225)) 64 (nI at1220)) 65 (nI ne)) 66 (nI lk1224)) (updA (stR X1227 14 nd (nI r1226)) 2 K)) := mW_D hD
              exact W.iret (v := (nI nd)) hx hb hr (fun t9 ht9 hW9 => ⟨⟨_, (at1220, 0, pl1222, nd1223, lk1224, wr1225, nd, (stR X1227 14 nd (nI r1226))), rfl, ⟨rfl, hz1257, hz1258, hz1259, hz1260, hz1261, hz1262, hz1263, hz1264, hz1265, hz1266, hz1267, hz1268, hz1269, hz1270⟩, by rw [ht9]; exact hP, hD⟩, hS.F ht9⟩) hS.2.2 dX12_attempt_188
            · have e1243 := e1243
              refine r_sti (f := (X1227 14)) (j := nd) hx hb hE hP hD hS 14 (ma_14 G a _) rfl (mas_14 G a _) (by omega) (by decide) dX12_attempt_186 (fun H locs hP hD hS => ?_)
              have hP : va_P G.1 pCl (mW G h0 a (upd (upd (upd (upd (upd (upd (upd F 15 (nI fa1221)) 16 pl1222) 27 (nI nd1223)) 31 (nI wr1225)) 64 (nI at1220)) 65 (nI ne)) 66 (nI lk1224)) (updA (stR X1227 14 nd (nI r1226)) 2 K)) _ := mW_to (F := F) (l1 := [(15, (nI fa1221)), (16, pl1222), (27, (nI nd1223)), (31, (nI wr1225)), (64, (nI at1220)), (65, (nI ne)), (66, (nI lk1224))]) (l2 := [(15, (nI fa1221)), (16, pl1222), (27, (nI nd1223)), (31, (nI wr1225)), (64, (nI at1220)), (65, (nI ne)), (66, (nI lk1224))]) (V := [(nI fa1221), pl1222, (nI nd1223), (nI wr1225), (nI at1220), (nI ne), (nI lk1224), (nI fa1221), pl1222, (nI nd1223), (nI wr1225), (nI at1220), (nI ne), (nI lk1224)]) rfl rfl (show (updA (updA X1227 2 K) 14 (upd (X1227 14) nd (nI r1226))) = (updA (stR X1227 14 nd (nI r1226)) 2 K) from updsA_eq2 (F := X1227) (l1 := [(2, K), (14, (upd (X1227 14) nd (nI r1226)))]) (l2 := [(14, (upd (X1227 14) nd (nI r1226))), (2, K)]) (V := [K, (upd (X1227 14) nd (nI r1226)), (upd (X1227 14) nd (nI r1226)), K]) rfl rfl) hP
              have hD : va_D A (mW G h0 a (upd (upd (upd (upd (upd (upd (upd F 15 (nI fa1221)) 16 pl1222) 27 (nI nd1223)) 31 (nI wr1225)) 64 (nI at1220)) 65 (nI ne)) 66 (nI lk1224)) (updA (stR X1227 14 nd (nI r1226)) 2 K)) := mW_D hD
              have hkp1271 : Kp B (stR X1227 14 nd (nI r1226)) wr1225 T := (Kp.row hkp1242 (by omega))
              refine lv_iload_n hx hb dX12_attempt_187 rfl (lv_at hl 0 rfl) ?_
              have hz1272 : at0 ≤ at1220 := (by omega)
              have hz1273 : at1220 ≤ T := (by omega)
              have hz1274 : fa1221 ≤ 100 := (by omega)
              have hz1275 : nd ≤ nd1223 := (by omega)
              have hz1276 : nd1223 + 2 * at0 ≤ nd + 2 * at1220 + 100000 * fa1221 := (by omega)
              have hz1277 : nd1223 + 2 * at0 ≤ nd + 2 * at1220 + (60 * (21 - ne) + 40) := (by omega)
              have hz1278 : wr ≤ wr1225 := (by omega)
              have hz1279 : wr1225 + at0 ≤ wr + at1220 := (by omega)
              have hz1280 : lk ≤ lk1224 := (by omega)
              have hz1281 : lk1224 ≤ 60 + 100 * fa1221 := (by omega)
              have hz1282 : at0 + 1 ≤ at1220 + fa1221 := (by omega)
              have hz1283 : nd ≤ nd1223 := (by omega)
              have hz1284 : Kp B (stR X1227 14 nd (nI r1226)) wr1225 T := hkp1271
              have hz1285 : If (fa1221 = 0) (Low B (stR X1227 14 nd (nI r1226)) nd wr ∧ Frs K T wr1225 (stR X1227 14 nd (nI r1226)) nd nd1223 20000 [(nd, (280 + 4 * (21 - ne)))] ∧ kcl 3 ((stR X1227 14 nd (nI r1226)) 9 nd) = true) := (fun e => absurd e (by omega))
              have hP : va_P G.1 pCl (mW G h0 a (upd (upd (upd (upd (upd (upd (upd F 15 (nI fa1221)) 16 pl1222) 27 (nI nd1223)) 31 (nI wr1225)) 64 (nI at1220)) 65 (nI ne)) 66 (nI lk1224)) (updA (stR X1227 14 nd (nI r1226)) 2 K)) _ := hP
              have hD : va_D A (mW G h0 a (upd (upd (upd (upd (upd (upd (upd F 15 (nI fa1221)) 16 pl1222) 27 (nI nd1223)) 31 (nI wr1225)) 64 (nI at1220)) 65 (nI ne)) 66 (nI lk1224)) (updA (stR X1227 14 nd (nI r1226)) 2 K)) := mW_D hD
              exact W.iret (v := (nI nd)) hx hb hr (fun t9 ht9 hW9 => ⟨⟨_, (at1220, fa1221, pl1222, nd1223, lk1224, wr1225, nd, (stR X1227 14 nd (nI r1226))), rfl, ⟨rfl, hz1272, hz1273, hz1274, hz1275, hz1276, hz1277, hz1278, hz1279, hz1280, hz1281, hz1282, hz1283, hz1284, hz1285⟩, by rw [ht9]; exact hP, hD⟩, hS.F ht9⟩) hS.2.2 dX12_attempt_188
        refine lv_iconst (v := (-1)) hx hb dX12_attempt_69 (by decide) ?_
        refine lv_istore_n (lv' := [(2, .int (-1)), (1, .int (nI nd)), (0, .ref h0)]) hx hb dX12_attempt_70 rfl hl (by decide) rfl (fun ls hl => ?_)
        refine lv_aload_n hx hb dX12_attempt_71 rfl (lv_at hl 2 rfl) ?_
        refine lv_sipush (v := 313) hx hb dX12_attempt_72 (by decide) ?_
        have hP : va_P G.1 pCl (mW G h0 a (upd (upd (upd (upd (upd (upd (upd (upd (upd F 15 0) 16 pl19) 27 (nI nd20)) 31 (nI wr22)) 64 (nI at17)) 65 (nI ne)) 66 (nI lk21)) 15 (nI 0)) 64 (nI at17)) (updA (updA (stR X24 12 nd (nI r23)) 2 K) 2 K)) _ := mW_to (F := F) (l1 := [(15, 0), (16, pl19), (27, (nI nd20)), (31, (nI wr22)), (64, (nI at17)), (65, (nI ne)), (66, (nI lk21))]) (l2 := [(15, 0), (16, pl19), (27, (nI nd20)), (31, (nI wr22)), (64, (nI at17)), (65, (nI ne)), (66, (nI lk21)), (15, (nI 0)), (64, (nI at17))]) (V := [(nI 0), pl19, (nI nd20), (nI wr22), (nI at17), (nI ne), (nI lk21), (nI 0), pl19, (nI nd20), (nI wr22), (nI at17), (nI ne), (nI lk21), (nI 0), (nI at17)]) rfl rfl (show (updA (stR X24 12 nd (nI r23)) 2 K) = (updA (updA (stR X24 12 nd (nI r23)) 2 K) 2 K) from updsA_eq2 (F := X24) (l1 := [(12, (upd (X24 12) nd (nI r23))), (2, K)]) (l2 := [(12, (upd (X24 12) nd (nI r23))), (2, K), (2, K)]) (V := [(upd (X24 12) nd (nI r23)), K, (upd (X24 12) nd (nI r23)), K, K]) rfl rfl) hP
        have hD : va_D A (mW G h0 a (upd (upd (upd (upd (upd (upd (upd (upd (upd F 15 0) 16 pl19) 27 (nI nd20)) 31 (nI wr22)) 64 (nI at17)) 65 (nI ne)) 66 (nI lk21)) 15 (nI 0)) 64 (nI at17)) (updA (updA (stR X24 12 nd (nI r23)) 2 K) 2 K)) := mW_D hD
        refine pc_V0 (G := G) (As := [.int 313]) (rest := []) hx hb hml hown hq hE hX pX0_al hP hD hS hA hl.1 (R_may l G h0 a (upd (upd (upd (upd (upd (upd (upd F 15 0) 16 pl19) 27 (nI nd20)) 31 (nI wr22)) 64 (nI at17)) 65 (nI ne)) 66 (nI lk21)) (updA (stR X24 12 nd (nI r23)) 2 K) at17 T 0 K 313 (by omega) (by omega) hK (by omega) (by decide) (by decide)) (gV pw_1621 pw_1622 pw_1623 pw_1523 pw_1605) hV_X12_may 0 9 rfl rfl rfl rfl (Nat.le_of_ble_eq_true rfl) dX12_attempt_75 ⟨Nat.le_of_ble_eq_true rfl, Nat.le_of_ble_eq_true rfl⟩ ⟨(by show 3 + 1 ≤ (26 * n + 43); omega), (by show 8 + (3 + 11) + 81 ≤ (2000 * n + 4300); omega)⟩ (fun v1288 u1286 H locs hw1287 hP hD hS => ?_)
        obtain ⟨at1289, r1290⟩ := u1286
        obtain ⟨hw1287, h1291, h1292, h1293, h1294, h1295, h1296⟩ := hw1287
        have h1291 : r1290 ≤ 1 := h1291
        have h1292 : 0 + 100 * r1290 ≤ 100 := h1292
        have h1293 : at1289 = at17 + r1290 := h1293
        have h1294 : at1289 ≤ T := h1294
        have h1295 : If (r1290 = 1) (K at17 = 313) := h1295
        have h1296 : If (r1290 = 0) (0 = 0 → ¬ K at17 = 313) := h1296
        obtain rfl : v1288 = some (.int (nI r1290)) := hw1287
        have hP : va_P G.1 pCl (mW G h0 a (upd (upd (upd (upd (upd (upd (upd F 15 0) 16 pl19) 27 (nI nd20)) 31 (nI wr22)) 64 (nI at1289)) 65 (nI ne)) 66 (nI lk21)) (updA (stR X24 12 nd (nI r23)) 2 K)) _ := mW_to (F := F) (l1 := [(15, 0), (16, pl19), (27, (nI nd20)), (31, (nI wr22)), (64, (nI at17)), (65, (nI ne)), (66, (nI lk21)), (15, (nI 0)), (64, (nI at1289))]) (l2 := [(15, 0), (16, pl19), (27, (nI nd20)), (31, (nI wr22)), (64, (nI at1289)), (65, (nI ne)), (66, (nI lk21))]) (V := [0, pl19, (nI nd20), (nI wr22), (nI at1289), (nI ne), (nI lk21), 0, (nI at1289), 0, pl19, (nI nd20), (nI wr22), (nI at1289), (nI ne), (nI lk21)]) rfl rfl (show (updA (updA (stR X24 12 nd (nI r23)) 2 K) 2 K) = (updA (stR X24 12 nd (nI r23)) 2 K) from updsA_eq2 (F := X24) (l1 := [(12, (upd (X24 12) nd (nI r23))), (2, K), (2, K)]) (l2 := [(12, (upd (X24 12) nd (nI r23))), (2, K)]) (V := [(upd (X24 12) nd (nI r23)), K, K, (upd (X24 12) nd (nI r23)), K]) rfl rfl) hP
        have hD : va_D A (mW G h0 a (upd (upd (upd (upd (upd (upd (upd F 15 0) 16 pl19) 27 (nI nd20)) 31 (nI wr22)) 64 (nI at1289)) 65 (nI ne)) 66 (nI lk21)) (updA (stR X24 12 nd (nI r23)) 2 K)) := mW_D hD
        refine W.widen (k := 0) (n := 0) (Nat.le_of_ble_eq_true rfl) (Nat.le_of_ble_eq_true rfl) ?_
        refine W.eq (g2 := F0 m 78 ls [.int (nI r1290)]) rfl ?_
        refine lv_if_eq (tgt := 167) hx hb dX12_attempt_78 (by decide) (fun c1297 => ?_) (fun c1297 => ?_)
        · have n1298 : r1290 = 0 := (nI_eq (a := r1290) (b := 0) (by omega) (by omega)).mp c1297
          have hP : va_P G.1 pCl (mW G h0 a (upd (upd (upd (upd (upd (upd (upd F 15 0) 16 pl19) 27 (nI nd20)) 31 (nI wr22)) 64 (nI at1289)) 65 (nI ne)) 66 (nI lk21)) (updA (stR X24 12 nd (nI r23)) 2 K)) _ := hP
          have hD : va_D A (mW G h0 a (upd (upd (upd (upd (upd (upd (upd F 15 0) 16 pl19) 27 (nI nd20)) 31 (nI wr22)) 64 (nI at1289)) 65 (nI ne)) 66 (nI lk21)) (updA (stR X24 12 nd (nI r23)) 2 K)) := mW_D hD
          exact cut_a at1289 nd20 wr22 lk21 pl19 (stR X24 12 nd (nI r23)) (nI r23) (-1) _ _ _ (by omega) (by omega) (by omega) (by omega) (by omega) (by omega) (by omega) (by omega) (by omega) hkp48 hlo49 (Frs.up hf54 (by omega)) hn51 hP hD hS (lv_sub hl [1, 2] rfl)
        · have n1299 : ¬ (r1290 = 0) := fun h9 => c1297 ((nI_eq (a := r1290) (b := 0) (by omega) (by omega)).mpr h9)
          refine lv_aload_n hx hb dX12_attempt_81 rfl (lv_at hl 2 rfl) ?_
          refine r_get (v := .int (nI at1289)) hx hb hown hq hE hP 64 343 tFX12_64 (by decide) pw_1592 rfl dX12_attempt_82 ?_
          refine lv_iconst (v := 1) hx hb dX12_attempt_85 (by decide) ?_
          refine lv_isub hx hb dX12_attempt_86 ?_
          refine lv_topi (fun x1300 e1301 => ?_)
          obtain rfl : x1300 = nI (at1289 - 1) := e1301.trans (nI_subN (a := 1) (b := at1289) (by omega))
          refine lv_istore_n (lv' := [(3, .int (nI (at1289 - 1))), (2, .int (-1)), (1, .int (nI nd)), (0, .ref h0)]) hx hb dX12_attempt_87 rfl hl (by decide) rfl (fun ls hl => ?_)
          refine lv_aload_n hx hb dX12_attempt_88 rfl (lv_at hl 3 rfl) ?_
          refine lv_bipush (v := 40) hx hb dX12_attempt_89 (by decide) ?_
          have hP : va_P G.1 pCl (mW G h0 a (upd (upd (upd (upd (upd (upd (upd (upd (upd F 15 0) 16 pl19) 27 (nI nd20)) 31 (nI wr22)) 64 (nI at1289)) 65 (nI ne)) 66 (nI lk21)) 15 (nI 0)) 64 (nI at1289)) (updA (updA (stR X24 12 nd (nI r23)) 2 K) 2 K)) _ := mW_to (F := F) (l1 := [(15, 0), (16, pl19), (27, (nI nd20)), (31, (nI wr22)), (64, (nI at1289)), (65, (nI ne)), (66, (nI lk21))]) (l2 := [(15, 0), (16, pl19), (27, (nI nd20)), (31, (nI wr22)), (64, (nI at1289)), (65, (nI ne)), (66, (nI lk21)), (15, (nI 0)), (64, (nI at1289))]) (V := [(nI 0), pl19, (nI nd20), (nI wr22), (nI at1289), (nI ne), (nI lk21), (nI 0), pl19, (nI nd20), (nI wr22), (nI at1289), (nI ne), (nI lk21), (nI 0), (nI at1289)]) rfl rfl (show (updA (stR X24 12 nd (nI r23)) 2 K) = (updA (updA (stR X24 12 nd (nI r23)) 2 K) 2 K) from updsA_eq2 (F := X24) (l1 := [(12, (upd (X24 12) nd (nI r23))), (2, K)]) (l2 := [(12, (upd (X24 12) nd (nI r23))), (2, K), (2, K)]) (V := [(upd (X24 12) nd (nI r23)), K, (upd (X24 12) nd (nI r23)), K, K]) rfl rfl) hP
          have hD : va_D A (mW G h0 a (upd (upd (upd (upd (upd (upd (upd (upd (upd F 15 0) 16 pl19) 27 (nI nd20)) 31 (nI wr22)) 64 (nI at1289)) 65 (nI ne)) 66 (nI lk21)) 15 (nI 0)) 64 (nI at1289)) (updA (updA (stR X24 12 nd (nI r23)) 2 K) 2 K)) := mW_D hD
          refine pc_V0 (G := G) (As := [.int 40]) (rest := []) hx hb hml hown hq hE hX pX0_al hP hD hS hA hl.1 (R_take l G h0 a (upd (upd (upd (upd (upd (upd (upd F 15 0) 16 pl19) 27 (nI nd20)) 31 (nI wr22)) 64 (nI at1289)) 65 (nI ne)) 66 (nI lk21)) (updA (stR X24 12 nd (nI r23)) 2 K) at1289 T 0 K 40 (by omega) (by omega) hK (by omega) (by decide) (by decide)) (gV pw_1614 pw_1615 pw_1616 pw_1523 pw_1601) hV_X12_take 0 9 rfl rfl rfl rfl (Nat.le_of_ble_eq_true rfl) dX12_attempt_91 ⟨Nat.le_of_ble_eq_true rfl, Nat.le_of_ble_eq_true rfl⟩ ⟨(by show 4 + 1 ≤ (26 * n + 43); omega), (by show 8 + (2 + 11) + 103 ≤ (2000 * n + 4300); omega)⟩ (fun v1304 u1302 H locs hw1303 hP hD hS => ?_)
          obtain ⟨at1305, fa1306, pl1307⟩ := u1302
          obtain ⟨hw1303, h1308, h1309, h1310, h1311, h1312, h1313, h1314, h1315⟩ := hw1303
          have h1308 : at1289 ≤ at1305 := h1308
          have h1309 : at1305 ≤ T := h1309
          have h1310 : 0 ≤ fa1306 := h1310
          have h1311 : fa1306 ≤ 100 := h1311
          have h1312 : If (0 < 0) (at1305 = at1289 ∧ fa1306 = 0) := h1312
          have h1313 : at1305 ≤ at1289 + 1 := h1313
          have h1314 : at1289 + 1 ≤ at1305 + fa1306 := h1314
          have h1315 : If (fa1306 = 0) (K at1289 = 40) := h1315
          obtain rfl : v1304 = none := hw1303
          have hP : va_P G.1 pCl (mW G h0 a (upd (upd (upd (upd (upd (upd (upd F 15 (nI fa1306)) 16 pl1307) 27 (nI nd20)) 31 (nI wr22)) 64 (nI at1305)) 65 (nI ne)) 66 (nI lk21)) (updA (stR X24 12 nd (nI r23)) 2 K)) _ := mW_to (F := F) (l1 := [(15, 0), (16, pl19), (27, (nI nd20)), (31, (nI wr22)), (64, (nI at1289)), (65, (nI ne)), (66, (nI lk21)), (15, (nI fa1306)), (16, pl1307), (64, (nI at1305))]) (l2 := [(15, (nI fa1306)), (16, pl1307), (27, (nI nd20)), (31, (nI wr22)), (64, (nI at1305)), (65, (nI ne)), (66, (nI lk21))]) (V := [(nI fa1306), pl1307, (nI nd20), (nI wr22), (nI at1305), (nI ne), (nI lk21), (nI fa1306), pl1307, (nI at1305), (nI fa1306), pl1307, (nI nd20), (nI wr22), (nI at1305), (nI ne), (nI lk21)]) rfl rfl (show (updA (updA (stR X24 12 nd (nI r23)) 2 K) 2 K) = (updA (stR X24 12 nd (nI r23)) 2 K) from updsA_eq2 (F := X24) (l1 := [(12, (upd (X24 12) nd (nI r23))), (2, K), (2, K)]) (l2 := [(12, (upd (X24 12) nd (nI r23))), (2, K)]) (V := [(upd (X24 12) nd (nI r23)), K, K, (upd (X24 12) nd (nI r23)), K]) rfl rfl) hP
          have hD : va_D A (mW G h0 a (upd (upd (upd (upd (upd (upd (upd F 15 (nI fa1306)) 16 pl1307) 27 (nI nd20)) 31 (nI wr22)) 64 (nI at1305)) 65 (nI ne)) 66 (nI lk21)) (updA (stR X24 12 nd (nI r23)) 2 K)) := mW_D hD
          refine W.widen (k := 0) (n := 0) (Nat.le_of_ble_eq_true rfl) (Nat.le_of_ble_eq_true rfl) ?_
          refine W.eq (g2 := F0 m 94 ls []) rfl ?_
          rcases Nat.eq_zero_or_pos fa1306 with e1316 | e1316
          · subst e1316
            have hP : va_P G.1 pCl (mW G h0 a (upd (upd (upd (upd (upd (upd (upd F 15 0) 16 pl1307) 27 (nI nd20)) 31 (nI wr22)) 64 (nI at1305)) 65 (nI ne)) 66 (nI lk21)) (updA (stR X24 12 nd (nI r23)) 2 K)) _ := hP
            have hD : va_D A (mW G h0 a (upd (upd (upd (upd (upd (upd (upd F 15 0) 16 pl1307) 27 (nI nd20)) 31 (nI wr22)) 64 (nI at1305)) 65 (nI ne)) 66 (nI lk21)) (updA (stR X24 12 nd (nI r23)) 2 K)) := mW_D hD
            refine lv_aload_n hx hb dX12_attempt_94 rfl (lv_at hl 3 rfl) ?_
            have hP : va_P G.1 pCl (mW G h0 a (upd (upd (upd (upd (upd (upd (upd (upd (upd F 15 0) 16 pl1307) 27 (nI nd20)) 31 (nI wr22)) 64 (nI at1305)) 65 (nI ne)) 66 (nI lk21)) 15 (nI 0)) 64 (nI at1305)) (updA (updA (stR X24 12 nd (nI r23)) 2 K) 2 K)) _ := mW_to (F := F) (l1 := [(15, 0), (16, pl1307), (27, (nI nd20)), (31, (nI wr22)), (64, (nI at1305)), (65, (nI ne)), (66, (nI lk21))]) (l2 := [(15, 0), (16, pl1307), (27, (nI nd20)), (31, (nI wr22)), (64, (nI at1305)), (65, (nI ne)), (66, (nI lk21)), (15, (nI 0)), (64, (nI at1305))]) (V := [(nI 0), pl1307, (nI nd20), (nI wr22), (nI at1305), (nI ne), (nI lk21), (nI 0), pl1307, (nI nd20), (nI wr22), (nI at1305), (nI ne), (nI lk21), (nI 0), (nI at1305)]) rfl rfl (show (updA (stR X24 12 nd (nI r23)) 2 K) = (updA (updA (stR X24 12 nd (nI r23)) 2 K) 2 K) from updsA_eq2 (F := X24) (l1 := [(12, (upd (X24 12) nd (nI r23))), (2, K)]) (l2 := [(12, (upd (X24 12) nd (nI r23))), (2, K), (2, K)]) (V := [(upd (X24 12) nd (nI r23)), K, (upd (X24 12) nd (nI r23)), K, K]) rfl rfl) hP
            have hD : va_D A (mW G h0 a (upd (upd (upd (upd (upd (upd (upd (upd (upd F 15 0) 16 pl1307) 27 (nI nd20)) 31 (nI wr22)) 64 (nI at1305)) 65 (nI ne)) 66 (nI lk21)) 15 (nI 0)) 64 (nI at1305)) (updA (updA (stR X24 12 nd (nI r23)) 2 K) 2 K)) := mW_D hD
            refine pc_V0 (G := G) (As := []) (rest := []) hx hb hml hown hq hE hX pX0_al hP hD hS hA hl.1 (R_name l G h0 a (upd (upd (upd (upd (upd (upd (upd F 15 0) 16 pl1307) 27 (nI nd20)) 31 (nI wr22)) 64 (nI at1305)) 65 (nI ne)) 66 (nI lk21)) (updA (stR X24 12 nd (nI r23)) 2 K) at1305 T 0 K (by omega) (by omega) hK (by omega)) (gV pw_1618 pw_1619 pw_1620 pw_1523 pw_1613) hV_X12_name 0 9 rfl rfl rfl rfl (Nat.le_of_ble_eq_true rfl) dX12_attempt_95 ⟨Nat.le_of_ble_eq_true rfl, Nat.le_of_ble_eq_true rfl⟩ ⟨(by show 5 + 1 ≤ (26 * n + 43); omega), (by show 8 + (2 + 11) + 124 ≤ (2000 * n + 4300); omega)⟩ (fun v1319 u1317 H locs hw1318 hP hD hS => ?_)
            obtain ⟨at1320, fa1321, pl1322⟩ := u1317
            obtain ⟨hw1318, h1323, h1324, h1325, h1326, h1327, h1328, h1329, h1330⟩ := hw1318
            have h1323 : at1305 ≤ at1320 := h1323
            have h1324 : at1320 ≤ T := h1324
            have h1325 : 0 ≤ fa1321 := h1325
            have h1326 : fa1321 ≤ 100 := h1326
            have h1327 : If (0 < 0) (at1320 = at1305 ∧ fa1321 = 0) := h1327
            have h1328 : at1320 ≤ at1305 + 1 := h1328
            have h1329 : at1305 + 1 ≤ at1320 + fa1321 := h1329
            have h1330 : If (fa1321 = 0) (K at1305 = 1) := h1330
            obtain rfl : v1319 = some (.int (nI at1305)) := hw1318
            have hP : va_P G.1 pCl (mW G h0 a (upd (upd (upd (upd (upd (upd (upd F 15 (nI fa1321)) 16 pl1322) 27 (nI nd20)) 31 (nI wr22)) 64 (nI at1320)) 65 (nI ne)) 66 (nI lk21)) (updA (stR X24 12 nd (nI r23)) 2 K)) _ := mW_to (F := F) (l1 := [(15, 0), (16, pl1307), (27, (nI nd20)), (31, (nI wr22)), (64, (nI at1305)), (65, (nI ne)), (66, (nI lk21)), (15, (nI fa1321)), (16, pl1322), (64, (nI at1320))]) (l2 := [(15, (nI fa1321)), (16, pl1322), (27, (nI nd20)), (31, (nI wr22)), (64, (nI at1320)), (65, (nI ne)), (66, (nI lk21))]) (V := [(nI fa1321), pl1322, (nI nd20), (nI wr22), (nI at1320), (nI ne), (nI lk21), (nI fa1321), pl1322, (nI at1320), (nI fa1321), pl1322, (nI nd20), (nI wr22), (nI at1320), (nI ne), (nI lk21)]) rfl rfl (show (updA (updA (stR X24 12 nd (nI r23)) 2 K) 2 K) = (updA (stR X24 12 nd (nI r23)) 2 K) from updsA_eq2 (F := X24) (l1 := [(12, (upd (X24 12) nd (nI r23))), (2, K), (2, K)]) (l2 := [(12, (upd (X24 12) nd (nI r23))), (2, K)]) (V := [(upd (X24 12) nd (nI r23)), K, K, (upd (X24 12) nd (nI r23)), K]) rfl rfl) hP
            have hD : va_D A (mW G h0 a (upd (upd (upd (upd (upd (upd (upd F 15 (nI fa1321)) 16 pl1322) 27 (nI nd20)) 31 (nI wr22)) 64 (nI at1320)) 65 (nI ne)) 66 (nI lk21)) (updA (stR X24 12 nd (nI r23)) 2 K)) := mW_D hD
            refine W.widen (k := 0) (n := 0) (Nat.le_of_ble_eq_true rfl) (Nat.le_of_ble_eq_true rfl) ?_
            refine W.eq (g2 := F0 m 98 ls [.int (nI at1305)]) rfl ?_
            rcases Nat.eq_zero_or_pos fa1321 with e1331 | e1331
            · subst e1331
              have hP : va_P G.1 pCl (mW G h0 a (upd (upd (upd (upd (upd (upd (upd F 15 0) 16 pl1322) 27 (nI nd20)) 31 (nI wr22)) 64 (nI at1320)) 65 (nI ne)) 66 (nI lk21)) (updA (stR X24 12 nd (nI r23)) 2 K)) _ := hP
              have hD : va_D A (mW G h0 a (upd (upd (upd (upd (upd (upd (upd F 15 0) 16 pl1322) 27 (nI nd20)) 31 (nI wr22)) 64 (nI at1320)) 65 (nI ne)) 66 (nI lk21)) (updA (stR X24 12 nd (nI r23)) 2 K)) := mW_D hD
              refine lv_istore (lv' := [(4, .int (nI at1305)), (3, .int (nI (at1289 - 1))), (2, .int (-1)), (1, .int (nI nd)), (0, .ref h0)]) hx hb dX12_attempt_98 hl (by decide) rfl (fun ls hl => ?_)
              refine lv_aload_n hx hb dX12_attempt_100 rfl (lv_at hl 4 rfl) ?_
              have hP : va_P G.1 pCl (mW G h0 a (upd (upd (upd (upd (upd (upd (upd (upd (upd F 15 0) 16 pl1322) 27 (nI nd20)) 31 (nI wr22)) 64 (nI at1320)) 65 (nI ne)) 66 (nI lk21)) 15 (nI 0)) 64 (nI at1320)) (updA (updA (stR X24 12 nd (nI r23)) 2 K) 2 K)) _ := mW_to (F := F) (l1 := [(15, 0), (16, pl1322), (27, (nI nd20)), (31, (nI wr22)), (64, (nI at1320)), (65, (nI ne)), (66, (nI lk21))]) (l2 := [(15, 0), (16, pl1322), (27, (nI nd20)), (31, (nI wr22)), (64, (nI at1320)), (65, (nI ne)), (66, (nI lk21)), (15, (nI 0)), (64, (nI at1320))]) (V := [(nI 0), pl1322, (nI nd20), (nI wr22), (nI at1320), (nI ne), (nI lk21), (nI 0), pl1322, (nI nd20), (nI wr22), (nI at1320), (nI ne), (nI lk21), (nI 0), (nI at1320)]) rfl rfl (show (updA (stR X24 12 nd (nI r23)) 2 K) = (updA (updA (stR X24 12 nd (nI r23)) 2 K) 2 K) from updsA_eq2 (F := X24) (l1 := [(12, (upd (X24 12) nd (nI r23))), (2, K)]) (l2 := [(12, (upd (X24 12) nd (nI r23))), (2, K), (2, K)]) (V := [(upd (X24 12) nd (nI r23)), K, (upd (X24 12) nd (nI r23)), K, K]) rfl rfl) hP
              have hD : va_D A (mW G h0 a (upd (upd (upd (upd (upd (upd (upd (upd (upd F 15 0) 16 pl1322) 27 (nI nd20)) 31 (nI wr22)) 64 (nI at1320)) 65 (nI ne)) 66 (nI lk21)) 15 (nI 0)) 64 (nI at1320)) (updA (updA (stR X24 12 nd (nI r23)) 2 K) 2 K)) := mW_D hD
              refine pc_V0 (G := G) (As := []) (rest := []) hx hb hml hown hq hE hX pX0_al hP hD hS hA hl.1 (R_name l G h0 a (upd (upd (upd (upd (upd (upd (upd F 15 0) 16 pl1322) 27 (nI nd20)) 31 (nI wr22)) 64 (nI at1320)) 65 (nI ne)) 66 (nI lk21)) (updA (stR X24 12 nd (nI r23)) 2 K) at1320 T 0 K (by omega) (by omega) hK (by omega)) (gV pw_1618 pw_1619 pw_1620 pw_1523 pw_1613) hV_X12_name 0 9 rfl rfl rfl rfl (Nat.le_of_ble_eq_true rfl) dX12_attempt_101 ⟨Nat.le_of_ble_eq_true rfl, Nat.le_of_ble_eq_true rfl⟩ ⟨(by show 5 + 1 ≤ (26 * n + 43); omega), (by show 8 + (2 + 11) + 124 ≤ (2000 * n + 4300); omega)⟩ (fun v1334 u1332 H locs hw1333 hP hD hS => ?_)
              obtain ⟨at1335, fa1336, pl1337⟩ := u1332
              obtain ⟨hw1333, h1338, h1339, h1340, h1341, h1342, h1343, h1344, h1345⟩ := hw1333
              have h1338 : at1320 ≤ at1335 := h1338
              have h1339 : at1335 ≤ T := h1339
              have h1340 : 0 ≤ fa1336 := h1340
              have h1341 : fa1336 ≤ 100 := h1341
              have h1342 : If (0 < 0) (at1335 = at1320 ∧ fa1336 = 0) := h1342
              have h1343 : at1335 ≤ at1320 + 1 := h1343
              have h1344 : at1320 + 1 ≤ at1335 + fa1336 := h1344
              have h1345 : If (fa1336 = 0) (K at1320 = 1) := h1345
              obtain rfl : v1334 = some (.int (nI at1320)) := hw1333
              have hP : va_P G.1 pCl (mW G h0 a (upd (upd (upd (upd (upd (upd (upd F 15 (nI fa1336)) 16 pl1337) 27 (nI nd20)) 31 (nI wr22)) 64 (nI at1335)) 65 (nI ne)) 66 (nI lk21)) (updA (stR X24 12 nd (nI r23)) 2 K)) _ := mW_to (F := F) (l1 := [(15, 0), (16, pl1322), (27, (nI nd20)), (31, (nI wr22)), (64, (nI at1320)), (65, (nI ne)), (66, (nI lk21)), (15, (nI fa1336)), (16, pl1337), (64, (nI at1335))]) (l2 := [(15, (nI fa1336)), (16, pl1337), (27, (nI nd20)), (31, (nI wr22)), (64, (nI at1335)), (65, (nI ne)), (66, (nI lk21))]) (V := [(nI fa1336), pl1337, (nI nd20), (nI wr22), (nI at1335), (nI ne), (nI lk21), (nI fa1336), pl1337, (nI at1335), (nI fa1336), pl1337, (nI nd20), (nI wr22), (nI at1335), (nI ne), (nI lk21)]) rfl rfl (show (updA (updA (stR X24 12 nd (nI r23)) 2 K) 2 K) = (updA (stR X24 12 nd (nI r23)) 2 K) from updsA_eq2 (F := X24) (l1 := [(12, (upd (X24 12) nd (nI r23))), (2, K), (2, K)]) (l2 := [(12, (upd (X24 12) nd (nI r23))), (2, K)]) (V := [(upd (X24 12) nd (nI r23)), K, K, (upd (X24 12) nd (nI r23)), K]) rfl rfl) hP
              have hD : va_D A (mW G h0 a (upd (upd (upd (upd (upd (upd (upd F 15 (nI fa1336)) 16 pl1337) 27 (nI nd20)) 31 (nI wr22)) 64 (nI at1335)) 65 (nI ne)) 66 (nI lk21)) (updA (stR X24 12 nd (nI r23)) 2 K)) := mW_D hD
              refine W.widen (k := 0) (n := 0) (Nat.le_of_ble_eq_true rfl) (Nat.le_of_ble_eq_true rfl) ?_
              refine W.eq (g2 := F0 m 104 ls [.int (nI at1320)]) rfl ?_
              rcases Nat.eq_zero_or_pos fa1336 with e1346 | e1346
              · subst e1346
                have hP : va_P G.1 pCl (mW G h0 a (upd (upd (upd (upd (upd (upd (upd F 15 0) 16 pl1337) 27 (nI nd20)) 31 (nI wr22)) 64 (nI at1335)) 65 (nI ne)) 66 (nI lk21)) (updA (stR X24 12 nd (nI r23)) 2 K)) _ := hP
                have hD : va_D A (mW G h0 a (upd (upd (upd (upd (upd (upd (upd F 15 0) 16 pl1337) 27 (nI nd20)) 31 (nI wr22)) 64 (nI at1335)) 65 (nI ne)) 66 (nI lk21)) (updA (stR X24 12 nd (nI r23)) 2 K)) := mW_D hD
                refine lv_istore (lv' := [(5, .int (nI at1320)), (4, .int (nI at1305)), (3, .int (nI (at1289 - 1))), (2, .int (-1)), (1, .int (nI nd)), (0, .ref h0)]) hx hb dX12_attempt_104 hl (by decide) rfl (fun ls hl => ?_)
                refine lv_aload_n hx hb dX12_attempt_106 rfl (lv_at hl 5 rfl) ?_
                refine lv_bipush (v := 41) hx hb dX12_attempt_107 (by decide) ?_
                have hP : va_P G.1 pCl (mW G h0 a (upd (upd (upd (upd (upd (upd (upd (upd (upd F 15 0) 16 pl1337) 27 (nI nd20)) 31 (nI wr22)) 64 (nI at1335)) 65 (nI ne)) 66 (nI lk21)) 15 (nI 0)) 64 (nI at1335)) (updA (updA (stR X24 12 nd (nI r23)) 2 K) 2 K)) _ := mW_to (F := F) (l1 := [(15, 0), (16, pl1337), (27, (nI nd20)), (31, (nI wr22)), (64, (nI at1335)), (65, (nI ne)), (66, (nI lk21))]) (l2 := [(15, 0), (16, pl1337), (27, (nI nd20)), (31, (nI wr22)), (64, (nI at1335)), (65, (nI ne)), (66, (nI lk21)), (15, (nI 0)), (64, (nI at1335))]) (V := [(nI 0), pl1337, (nI nd20), (nI wr22), (nI at1335), (nI ne), (nI lk21), (nI 0), pl1337, (nI nd20), (nI wr22), (nI at1335), (nI ne), (nI lk21), (nI 0), (nI at1335)]) rfl rfl (show (updA (stR X24 12 nd (nI r23)) 2 K) = (updA (updA (stR X24 12 nd (nI r23)) 2 K) 2 K) from updsA_eq2 (F := X24) (l1 := [(12, (upd (X24 12) nd (nI r23))), (2, K)]) (l2 := [(12, (upd (X24 12) nd (nI r23))), (2, K), (2, K)]) (V := [(upd (X24 12) nd (nI r23)), K, (upd (X24 12) nd (nI r23)), K, K]) rfl rfl) hP
                have hD : va_D A (mW G h0 a (upd (upd (upd (upd (upd (upd (upd (upd (upd F 15 0) 16 pl1337) 27 (nI nd20)) 31 (nI wr22)) 64 (nI at1335)) 65 (nI ne)) 66 (nI lk21)) 15 (nI 0)) 64 (nI at1335)) (updA (updA (stR X24 12 nd (nI r23)) 2 K) 2 K)) := mW_D hD
                refine pc_V0 (G := G) (As := [.int 41]) (rest := []) hx hb hml hown hq hE hX pX0_al hP hD hS hA hl.1 (R_take l G h0 a (upd (upd (upd (upd (upd (upd (upd F 15 0) 16 pl1337) 27 (nI nd20)) 31 (nI wr22)) 64 (nI at1335)) 65 (nI ne)) 66 (nI lk21)) (updA (stR X24 12 nd (nI r23)) 2 K) at1335 T 0 K 41 (by omega) (by omega) hK (by omega) (by decide) (by decide)) (gV pw_1614 pw_1615 pw_1616 pw_1523 pw_1601) hV_X12_take 0 9 rfl rfl rfl rfl (Nat.le_of_ble_eq_true rfl) dX12_attempt_109 ⟨Nat.le_of_ble_eq_true rfl, Nat.le_of_ble_eq_true rfl⟩ ⟨(by show 4 + 1 ≤ (26 * n + 43); omega), (by show 8 + (2 + 11) + 103 ≤ (2000 * n + 4300); omega)⟩ (fun v1349 u1347 H locs hw1348 hP hD hS => ?_)
                obtain ⟨at1350, fa1351, pl1352⟩ := u1347
                obtain ⟨hw1348, h1353, h1354, h1355, h1356, h1357, h1358, h1359, h1360⟩ := hw1348
                have h1353 : at1335 ≤ at1350 := h1353
                have h1354 : at1350 ≤ T := h1354
                have h1355 : 0 ≤ fa1351 := h1355
                have h1356 : fa1351 ≤ 100 := h1356
                have h1357 : If (0 < 0) (at1350 = at1335 ∧ fa1351 = 0) := h1357
                have h1358 : at1350 ≤ at1335 + 1 := h1358
                have h1359 : at1335 + 1 ≤ at1350 + fa1351 := h1359
                have h1360 : If (fa1351 = 0) (K at1335 = 41) := h1360
                obtain rfl : v1349 = none := hw1348
                have hP : va_P G.1 pCl (mW G h0 a (upd (upd (upd (upd (upd (upd (upd F 15 (nI fa1351)) 16 pl1352) 27 (nI nd20)) 31 (nI wr22)) 64 (nI at1350)) 65 (nI ne)) 66 (nI lk21)) (updA (stR X24 12 nd (nI r23)) 2 K)) _ := mW_to (F := F) (l1 := [(15, 0), (16, pl1337), (27, (nI nd20)), (31, (nI wr22)), (64, (nI at1335)), (65, (nI ne)), (66, (nI lk21)), (15, (nI fa1351)), (16, pl1352), (64, (nI at1350))]) (l2 := [(15, (nI fa1351)), (16, pl1352), (27, (nI nd20)), (31, (nI wr22)), (64, (nI at1350)), (65, (nI ne)), (66, (nI lk21))]) (V := [(nI fa1351), pl1352, (nI nd20), (nI wr22), (nI at1350), (nI ne), (nI lk21), (nI fa1351), pl1352, (nI at1350), (nI fa1351), pl1352, (nI nd20), (nI wr22), (nI at1350), (nI ne), (nI lk21)]) rfl rfl (show (updA (updA (stR X24 12 nd (nI r23)) 2 K) 2 K) = (updA (stR X24 12 nd (nI r23)) 2 K) from updsA_eq2 (F := X24) (l1 := [(12, (upd (X24 12) nd (nI r23))), (2, K), (2, K)]) (l2 := [(12, (upd (X24 12) nd (nI r23))), (2, K)]) (V := [(upd (X24 12) nd (nI r23)), K, K, (upd (X24 12) nd (nI r23)), K]) rfl rfl) hP
                have hD : va_D A (mW G h0 a (upd (upd (upd (upd (upd (upd (upd F 15 (nI fa1351)) 16 pl1352) 27 (nI nd20)) 31 (nI wr22)) 64 (nI at1350)) 65 (nI ne)) 66 (nI lk21)) (updA (stR X24 12 nd (nI r23)) 2 K)) := mW_D hD
                refine W.widen (k := 0) (n := 0) (Nat.le_of_ble_eq_true rfl) (Nat.le_of_ble_eq_true rfl) ?_
                refine W.eq (g2 := F0 m 112 ls []) rfl ?_
                rcases Nat.eq_zero_or_pos fa1351 with e1361 | e1361
                · subst e1361
                  have hP : va_P G.1 pCl (mW G h0 a (upd (upd (upd (upd (upd (upd (upd F 15 0) 16 pl1352) 27 (nI nd20)) 31 (nI wr22)) 64 (nI at1350)) 65 (nI ne)) 66 (nI lk21)) (updA (stR X24 12 nd (nI r23)) 2 K)) _ := hP
                  have hD : va_D A (mW G h0 a (upd (upd (upd (upd (upd (upd (upd F 15 0) 16 pl1352) 27 (nI nd20)) 31 (nI wr22)) 64 (nI at1350)) 65 (nI ne)) 66 (nI lk21)) (updA (stR X24 12 nd (nI r23)) 2 K)) := mW_D hD
                  refine lv_aload_n hx hb dX12_attempt_112 rfl (lv_at hl 5 rfl) ?_
                  refine lv_bipush (v := 44) hx hb dX12_attempt_113 (by decide) ?_
                  refine lv_iload_n hx hb dX12_attempt_115 rfl (lv_at hl 2 rfl) ?_
                  refine lv_iload hx hb dX12_attempt_116 (lv_at hl 0 rfl) ?_
                  refine lv_iload hx hb dX12_attempt_118 (lv_at hl 1 rfl) ?_
                  refine lv_iconst (v := (-1)) hx hb dX12_attempt_120 (by decide) ?_
                  have hP : va_P G.1 pCl (mW G h0 a (upd (upd (upd (upd (upd (upd (upd (upd F 15 0) 16 pl1352) 27 (nI nd20)) 31 (nI wr22)) 64 (nI at1350)) 65 (nI ne)) 66 (nI lk21)) 27 (nI nd20)) (updA (stR X24 12 nd (nI r23)) 2 K)) _ := mW_to (F := F) (l1 := [(15, 0), (16, pl1352), (27, (nI nd20)), (31, (nI wr22)), (64, (nI at1350)), (65, (nI ne)), (66, (nI lk21))]) (l2 := [(15, 0), (16, pl1352), (27, (nI nd20)), (31, (nI wr22)), (64, (nI at1350)), (65, (nI ne)), (66, (nI lk21)), (27, (nI nd20))]) (V := [0, pl1352, (nI nd20), (nI wr22), (nI at1350), (nI ne), (nI lk21), 0, pl1352, (nI nd20), (nI wr22), (nI at1350), (nI ne), (nI lk21), (nI nd20)]) rfl rfl rfl hP
                  have hD : va_D A (mW G h0 a (upd (upd (upd (upd (upd (upd (upd (upd F 15 0) 16 pl1352) 27 (nI nd20)) 31 (nI wr22)) 64 (nI at1350)) 65 (nI ne)) 66 (nI lk21)) 27 (nI nd20)) (updA (stR X24 12 nd (nI r23)) 2 K)) := mW_D hD
                  refine pc_V0 (G := G) (As := [.int 44, .int (nI (at1289 - 1)), .int (nI at1320), .int (nI at1305), .int (-1)]) (rest := []) hx hb hml hown hq hE hX pX0_al hP hD hS hA hl.1 (R_nodeB l G h0 a (upd (upd (upd (upd (upd (upd (upd F 15 0) 16 pl1352) 27 (nI nd20)) 31 (nI wr22)) 64 (nI at1350)) 65 (nI ne)) 66 (nI lk21)) (stR X24 12 nd (nI r23)) 44 (nI (at1289 - 1)) (nI at1320) (nI at1305) (-1) nd20 K (by omega)) (gV pw_1650 pw_1651 pw_1652 pw_1523 pw_1589) hV_X12_node 0 9 rfl rfl rfl rfl (Nat.le_of_ble_eq_true rfl) dX12_attempt_121 ⟨Nat.le_of_ble_eq_true rfl, Nat.le_of_ble_eq_true rfl⟩ ⟨(by show 2 + 1 ≤ (26 * n + 43); omega), (by show 8 + (7 + 11) + 60 ≤ (2000 * n + 4300); omega)⟩ (fun v1364 u1362 H locs hw1363 hP hD hS => ?_)
                  obtain ⟨X1365, rfl⟩ : ∃ z, z = u1362 := ⟨_, rfl⟩
                  obtain ⟨hw1363, h1366⟩ := hw1363
                  have h1366 : NewN (stR X24 12 nd (nI r23)) X1365 nd20 44 (nI (at1289 - 1)) (nI at1320) (nI at1305) (-1) := h1366
                  obtain rfl : v1364 = some (.int (nI nd20)) := hw1363
                  have hP : va_P G.1 pCl (mW G h0 a (upd (upd (upd (upd (upd (upd (upd F 15 0) 16 pl1352) 27 (nI (nd20 + 1))) 31 (nI wr22)) 64 (nI at1350)) 65 (nI ne)) 66 (nI lk21)) (updA X1365 2 K)) _ := mW_to (F := F) (l1 := [(15, 0), (16, pl1352), (27, (nI nd20)), (31, (nI wr22)), (64, (nI at1350)), (65, (nI ne)), (66, (nI lk21)), (27, (nI (nd20 + 1)))]) (l2 := [(15, 0), (16, pl1352), (27, (nI (nd20 + 1))), (31, (nI wr22)), (64, (nI at1350)), (65, (nI ne)), (66, (nI lk21))]) (V := [0, pl1352, (nI (nd20 + 1)), (nI wr22), (nI at1350), (nI ne), (nI lk21), (nI (nd20 + 1)), 0, pl1352, (nI (nd20 + 1)), (nI wr22), (nI at1350), (nI ne), (nI lk21)]) rfl rfl rfl hP
                  have hD : va_D A (mW G h0 a (upd (upd (upd (upd (upd (upd (upd F 15 0) 16 pl1352) 27 (nI (nd20 + 1))) 31 (nI wr22)) 64 (nI at1350)) 65 (nI ne)) 66 (nI lk21)) (updA X1365 2 K)) := mW_D hD
                  refine W.widen (k := 0) (n := 0) (Nat.le_of_ble_eq_true rfl) (Nat.le_of_ble_eq_true rfl) ?_
                  refine W.eq (g2 := F0 m 124 ls [.int (nI nd20)]) rfl ?_
                  have hkp1367 : Kp B X1365 wr22 T := (Kp.new hkp48 h1366)
                  have hlo1368 : Low B X1365 nd wr := (Low.new hlo49 h1366 (by omega))
                  have hf1369 : Frs K T wr22 X1365 nd nd20 20000 [(nd, (280 + 4 * (21 - ne)))] := (Frs.same hf54 (by omega) (fun j i q1 q2 q3 q4 => (h1366.2.1 j i (by omega))))
                  have hn1370 : Nd X1365 nd 41 (nI r23) (-1) (-1) (-1) := (Nd.new hn51 h1366 (by omega))
                  have hf1371 : Frs K T wr22 X1365 nd20 (nd20 + 1) nd20 [(nd20, 0)] := (Frs.new0 (k := 44) Frs.nil (Nat.le_refl _) (Nat.le_refl _) h1366 rfl (by decide) (by decide) (by omega) (by omega) (fun e => absurd e (by decide)) ⟨fun e => absurd e (by decide), fun _ => Or.inr ⟨at1305, rfl, by omega⟩, fun _ e => absurd (by decide) e⟩ (newOK.m1 (by decide)) (newOK.m1 (by decide)) (newOK.m1 (by decide)))
                  have hn1372 : Nd X1365 nd20 44 (nI at1305) (-1) (-1) (-1) := (NewN.toNd h1366)
                  refine lv_istore (lv' := [(6, .int (nI nd20)), (5, .int (nI at1320)), (4, .int (nI at1305)), (3, .int (nI (at1289 - 1))), (2, .int (-1)), (1, .int (nI nd)), (0, .ref h0)]) hx hb dX12_attempt_124 hl (by decide) rfl (fun ls hl => ?_)
                  refine lv_aload_n hx hb dX12_attempt_126 rfl (lv_at hl 6 rfl) ?_
                  refine r_get (v := .ref (a 13)) hx hb hown hq hE hP 21 50 tFX12_21 (by decide) pw_1443 rfl dX12_attempt_127 ?_
                  refine lv_iload hx hb dX12_attempt_130 (lv_at hl 0 rfl) ?_
                  refine lv_aload_n hx hb dX12_attempt_132 rfl (lv_at hl 6 rfl) ?_
                  have hP : va_P G.1 pCl (mW G h0 a (upd (upd (upd (upd (upd (upd (upd (upd (upd (upd (upd (upd (upd F 15 0) 16 pl1352) 27 (nI (nd20 + 1))) 31 (nI wr22)) 64 (nI at1350)) 65 (nI ne)) 66 (nI lk21)) 15 0) 27 (nI (nd20 + 1))) 31 (nI wr22)) 64 (nI at1350)) 65 (nI ne)) 66 (nI lk21)) (updA X1365 2 K)) _ := mW_to (F := F) (l1 := [(15, 0), (16, pl1352), (27, (nI (nd20 + 1))), (31, (nI wr22)), (64, (nI at1350)), (65, (nI ne)), (66, (nI lk21))]) (l2 := [(15, 0), (16, pl1352), (27, (nI (nd20 + 1))), (31, (nI wr22)), (64, (nI at1350)), (65, (nI ne)), (66, (nI lk21)), (15, 0), (27, (nI (nd20 + 1))), (31, (nI wr22)), (64, (nI at1350)), (65, (nI ne)), (66, (nI lk21))]) (V := [0, pl1352, (nI (nd20 + 1)), (nI wr22), (nI at1350), (nI ne), (nI lk21), 0, pl1352, (nI (nd20 + 1)), (nI wr22), (nI at1350), (nI ne), (nI lk21), 0, (nI (nd20 + 1)), (nI wr22), (nI at1350), (nI ne), (nI lk21)]) rfl rfl rfl hP
                  have hD : va_D A (mW G h0 a (upd (upd (upd (upd (upd (upd (upd (upd (upd (upd (upd (upd (upd F 15 0) 16 pl1352) 27 (nI (nd20 + 1))) 31 (nI wr22)) 64 (nI at1350)) 65 (nI ne)) 66 (nI lk21)) 15 0) 27 (nI (nd20 + 1))) 31 (nI wr22)) 64 (nI at1350)) 65 (nI ne)) 66 (nI lk21)) (updA X1365 2 K)) := mW_D hD
                  refine pc_V0 (G := G) (As := []) (rest := [.int (nI nd20), .ref (a 13)]) hx hb hml hown hq hE hX pX0_al hP hD hS hA hl.1 (hBk h0 a (upd (upd (upd (upd (upd (upd (upd F 15 0) 16 pl1352) 27 (nI (nd20 + 1))) 31 (nI wr22)) 64 (nI at1350)) 65 (nI ne)) 66 (nI lk21)) X1365 at1350 T ne (nd20 + 1) wr22 lk21 K (by omega) (by omega) hK (by omega) (by omega) (by omega) (by omega) (hkp1367).2 (by omega)) (gV pw_1685 pw_1686 pw_1687 pw_1523 pw_1688) hV_X12_block 0 9 rfl rfl rfl rfl (Nat.le_of_ble_eq_true rfl) dX12_attempt_133 ⟨Nat.le_of_ble_eq_true rfl, Nat.le_of_ble_eq_true rfl⟩ ⟨(by show (26 * n + 42) + 1 ≤ (26 * n + 43); omega), (by show 8 + (4 + 11) + (2000 * n + 4200) ≤ (2000 * n + 4300); omega)⟩ (fun v1375 u1373 H locs hw1374 hP hD hS => ?_)
                  obtain ⟨at1376, fa1377, pl1378, nd1379, lk1380, wr1381, r1382, X1383⟩ := u1373
                  obtain ⟨hw1374, h1384, h1385, h1386, h1387, h1388, h1389, h1390, h1391, h1392, h1393, h1394, h1395, h1396, h1397⟩ := hw1374
                  have h1384 : at1350 ≤ at1376 := h1384
                  have h1385 : at1376 ≤ T := h1385
                  have h1386 : fa1377 ≤ 100 := h1386
                  have h1387 : (nd20 + 1) ≤ nd1379 := h1387
                  have h1388 : nd1379 + 2 * at1350 ≤ (nd20 + 1) + 2 * at1376 + 100000 * fa1377 := h1388
                  have h1389 : nd1379 + 2 * at1350 ≤ (nd20 + 1) + 2 * at1376 + (60 * (20 - ne) + 50) := h1389
                  have h1390 : wr22 ≤ wr1381 := h1390
                  have h1391 : wr1381 + at1350 ≤ wr22 + at1376 := h1391
                  have h1392 : lk21 ≤ lk1380 := h1392
                  have h1393 : lk1380 ≤ lk21 := h1393
                  have h1394 : at1350 + 1 ≤ at1376 + fa1377 := h1394
                  have h1395 : r1382 ≤ nd1379 := h1395
                  have h1396 : Kp X1365 X1383 wr1381 T := h1396
                  have h1397 : If (fa1377 = 0) (Low X1365 X1383 (nd20 + 1) wr22 ∧ Frs K T wr1381 X1383 (nd20 + 1) nd1379 20000 [(r1382, (281 + 4 * (20 - ne)))] ∧ kcl 10 (X1383 9 r1382) = true) := h1397
                  obtain rfl : v1375 = some (.int (nI r1382)) := hw1374
                  have hP : va_P G.1 pCl (mW G h0 a (upd (upd (upd (upd (upd (upd (upd F 15 (nI fa1377)) 16 pl1378) 27 (nI nd1379)) 31 (nI wr1381)) 64 (nI at1376)) 65 (nI ne)) 66 (nI lk1380)) (updA X1383 2 K)) _ := mW_to (F := F) (l1 := [(15, 0), (16, pl1352), (27, (nI (nd20 + 1))), (31, (nI wr22)), (64, (nI at1350)), (65, (nI ne)), (66, (nI lk21)), (15, (nI fa1377)), (16, pl1378), (27, (nI nd1379)), (31, (nI wr1381)), (64, (nI at1376)), (65, (nI ne)), (66, (nI lk1380))]) (l2 := [(15, (nI fa1377)), (16, pl1378), (27, (nI nd1379)), (31, (nI wr1381)), (64, (nI at1376)), (65, (nI ne)), (66, (nI lk1380))]) (V := [(nI fa1377), pl1378, (nI nd1379), (nI wr1381), (nI at1376), (nI ne), (nI lk1380), (nI fa1377), pl1378, (nI nd1379), (nI wr1381), (nI at1376), (nI ne), (nI lk1380), (nI fa1377), pl1378, (nI nd1379), (nI wr1381), (nI at1376), (nI ne), (nI lk1380)]) rfl rfl rfl hP
                  have hD : va_D A (mW G h0 a (upd (upd (upd (upd (upd (upd (upd F 15 (nI fa1377)) 16 pl1378) 27 (nI nd1379)) 31 (nI wr1381)) 64 (nI at1376)) 65 (nI ne)) 66 (nI lk1380)) (updA X1383 2 K)) := mW_D hD
                  refine W.widen (k := 0) (n := 0) (Nat.le_of_ble_eq_true rfl) (Nat.le_of_ble_eq_true rfl) ?_
                  refine W.eq (g2 := F0 m 136 ls [.int (nI r1382), .int (nI nd20), .ref (a 13)]) rfl ?_
                  have hkp1398 : Kp B X1383 wr1381 T := (Kp.trans hkp1367 h1396)
                  rcases Nat.eq_zero_or_pos fa1377 with e1399 | e1399
                  · subst e1399
                    have hP : va_P G.1 pCl (mW G h0 a (upd (upd (upd (upd (upd (upd (upd F 15 0) 16 pl1378) 27 (nI nd1379)) 31 (nI wr1381)) 64 (nI at1376)) 65 (nI ne)) 66 (nI lk1380)) (updA X1383 2 K)) _ := hP
                    have hD : va_D A (mW G h0 a (upd (upd (upd (upd (upd (upd (upd F 15 0) 16 pl1378) 27 (nI nd1379)) 31 (nI wr1381)) 64 (nI at1376)) 65 (nI ne)) 66 (nI lk1380)) (updA X1383 2 K)) := mW_D hD
                    obtain ⟨hlw1400, hf1401, hc1402⟩ := h1397 rfl
                    have hlo1403 : Low B X1383 nd wr := (Low.trans hlo1368 hlw1400 (by omega) (by omega))
                    have hf1404 : Frs K T wr1381 X1383 nd nd20 20000 [(nd, (280 + 4 * (21 - ne)))] := (Frs.same hf1369 (by omega) (fun j i q1 q2 q3 q4 => (hlw1400.1 j i q1 (by omega) (by omega))))
                    have hf1405 : Frs K T wr1381 X1383 nd20 (nd20 + 1) nd20 [(nd20, 0)] := (Frs.same hf1371 (by omega) (fun j i q1 q2 q3 q4 => (hlw1400.1 j i q1 (by omega) (by omega))))
                    have hn1406 : Nd X1383 nd 41 (nI r23) (-1) (-1) (-1) := (Nd.low hn1370 hlw1400 (by omega))
                    have hn1407 : Nd X1383 nd20 44 (nI at1305) (-1) (-1) (-1) := (Nd.low hn1372 hlw1400 (by omega))
                    have hm1408 := Frs.mem hf1401
                    refine r_sti (f := (X1383 13)) (j := nd20) hx hb hE hP hD hS 13 (ma_13 G a _) rfl (mas_13 G a _) (by omega) (by decide) dX12_attempt_136 (fun H locs hP hD hS => ?_)
                    have hP : va_P G.1 pCl (mW G h0 a (upd (upd (upd (upd (upd (upd (upd F 15 0) 16 pl1378) 27 (nI nd1379)) 31 (nI wr1381)) 64 (nI at1376)) 65 (nI ne)) 66 (nI lk1380)) (updA (stR X1383 13 nd20 (nI r1382)) 2 K)) _ := mW_to (F := F) (l1 := [(15, 0), (16, pl1378), (27, (nI nd1379)), (31, (nI wr1381)), (64, (nI at1376)), (65, (nI ne)), (66, (nI lk1380))]) (l2 := [(15, 0), (16, pl1378), (27, (nI nd1379)), (31, (nI wr1381)), (64, (nI at1376)), (65, (nI ne)), (66, (nI lk1380))]) (V := [0, pl1378, (nI nd1379), (nI wr1381), (nI at1376), (nI ne), (nI lk1380), 0, pl1378, (nI nd1379), (nI wr1381), (nI at1376), (nI ne), (nI lk1380)]) rfl rfl (show (updA (updA X1383 2 K) 13 (upd (X1383 13) nd20 (nI r1382))) = (updA (stR X1383 13 nd20 (nI r1382)) 2 K) from updsA_eq2 (F := X1383) (l1 := [(2, K), (13, (upd (X1383 13) nd20 (nI r1382)))]) (l2 := [(13, (upd (X1383 13) nd20 (nI r1382))), (2, K)]) (V := [K, (upd (X1383 13) nd20 (nI r1382)), (upd (X1383 13) nd20 (nI r1382)), K]) rfl rfl) hP
                    have hD : va_D A (mW G h0 a (upd (upd (upd (upd (upd (upd (upd F 15 0) 16 pl1378) 27 (nI nd1379)) 31 (nI wr1381)) 64 (nI at1376)) 65 (nI ne)) 66 (nI lk1380)) (updA (stR X1383 13 nd20 (nI r1382)) 2 K)) := mW_D hD
                    have hkp1409 : Kp B (stR X1383 13 nd20 (nI r1382)) wr1381 T := (Kp.row hkp1398 (by omega))
                    have hlo1410 : Low B (stR X1383 13 nd20 (nI r1382)) nd wr := (Low.st hlo1403 (by omega) (by omega))
                    have hf1411 : Frs K T wr1381 X1383 nd20 nd1379 nd20 [(nd20, 0), (r1382, (281 + 4 * (20 - ne)))] := (Frs.join hf1405 hf1401 (by omega) (by omega) (by omega))
                    have hf1412 : Frs K T wr1381 (stR X1383 13 nd20 (nI r1382)) nd nd20 20000 [(nd, (280 + 4 * (21 - ne)))] := (Frs.same hf1404 (by omega) (fun j i q1 q2 q3 q4 => (st_ne (by omega))))
                    have hn1413 : Nd (stR X1383 13 nd20 (nI r1382)) nd 41 (nI r23) (-1) (-1) (-1) := (Nd.stn hn1406 (by omega))
                    have hn1414 : Nd (stR X1383 13 nd20 (nI r1382)) nd20 44 (nI at1305) (nI r1382) (-1) (-1) := (Nd.st hn1407 (by omega))
                    have hc1415 : kcl 10 ((stR X1383 13 nd20 (nI r1382)) 9 r1382) = true := by rw [st_ne (by omega)]; exact hc1402
                    have hf1416 : Frs K T wr1381 (stR X1383 13 nd20 (nI r1382)) nd20 nd1379 nd20 [(nd20, (279 + 4 * (21 - ne)))] := (Frs.set (s := 2) (k := 44) hf1411 (by omega) (by omega) (by simp) (by omega) (by omega) hn1407.2.2.1 hn1407.1 (by decide) ⟨by decide, by decide, by decide, hc1402, fun h => absurd h (by decide)⟩ (by omega) (by omega) (by decide) (fun h1 h2 => by omega))
                    have hf1417 : Frs K T wr1381 (stR X1383 13 nd20 (nI r1382)) nd20 nd1379 20000 [(nd20, (279 + 4 * (21 - ne)))] := (Frs.fin (k := 44) hf1416 hn1414 rfl (by decide) (fun _ => nI_m1 (by omega)) (fun _ => nI_m1 (by omega)) (fun h => absurd h (by decide)) (fun h => absurd h (by decide)))
                    refine lv_iload_n hx hb dX12_attempt_137 rfl (lv_at hl 4 rfl) ?_
                    refine lv_iconst (v := (-1)) hx hb dX12_attempt_138 (by decide) ?_
                    refine lv_icmp_ne (tgt := 153) hx hb dX12_attempt_139 (by decide) (fun c1418 => absurd c1418 (by decide)) (fun c1418 => ?_)
                    refine lv_aload_n hx hb dX12_attempt_142 rfl (lv_at hl 6 rfl) ?_
                    refine r_get (v := .ref (a 13)) hx hb hown hq hE hP 21 50 tFX12_21 (by decide) pw_1443 rfl dX12_attempt_143 ?_
                    refine lv_iload_n hx hb dX12_attempt_146 rfl (lv_at hl 5 rfl) ?_
                    refine lv_iload hx hb dX12_attempt_147 (lv_at hl 0 rfl) ?_
                    refine r_sti (f := ((stR X1383 13 nd20 (nI r1382)) 13)) (j := nd) hx hb hE hP hD hS 13 (ma_13 G a _) rfl (mas_13 G a _) (by omega) (by decide) dX12_attempt_149 (fun H locs hP hD hS => ?_)
                    have hP : va_P G.1 pCl (mW G h0 a (upd (upd (upd (upd (upd (upd (upd F 15 0) 16 pl1378) 27 (nI nd1379)) 31 (nI wr1381)) 64 (nI at1376)) 65 (nI ne)) 66 (nI lk1380)) (updA (stR (stR X1383 13 nd20 (nI r1382)) 13 nd (nI nd20)) 2 K)) _ := mW_to (F := F) (l1 := [(15, 0), (16, pl1378), (27, (nI nd1379)), (31, (nI wr1381)), (64, (nI at1376)), (65, (nI ne)), (66, (nI lk1380))]) (l2 := [(15, 0), (16, pl1378), (27, (nI nd1379)), (31, (nI wr1381)), (64, (nI at1376)), (65, (nI ne)), (66, (nI lk1380))]) (V := [0, pl1378, (nI nd1379), (nI wr1381), (nI at1376), (nI ne), (nI lk1380), 0, pl1378, (nI nd1379), (nI wr1381), (nI at1376), (nI ne), (nI lk1380)]) rfl rfl (show (updA (updA (stR X1383 13 nd20 (nI r1382)) 2 K) 13 (upd ((stR X1383 13 nd20 (nI r1382)) 13) nd (nI nd20))) = (updA (stR (stR X1383 13 nd20 (nI r1382)) 13 nd (nI nd20)) 2 K) from updsA_eq2 (F := X1383) (l1 := [(13, (upd (X1383 13) nd20 (nI r1382))), (2, K), (13, (upd ((stR X1383 13 nd20 (nI r1382)) 13) nd (nI nd20)))]) (l2 := [(13, (upd (X1383 13) nd20 (nI r1382))), (13, (upd ((stR X1383 13 nd20 (nI r1382)) 13) nd (nI nd20))), (2, K)]) (V := [(upd ((stR X1383 13 nd20 (nI r1382)) 13) nd (nI nd20)), K, (upd ((stR X1383 13 nd20 (nI r1382)) 13) nd (nI nd20)), (upd ((stR X1383 13 nd20 (nI r1382)) 13) nd (nI nd20)), (upd ((stR X1383 13 nd20 (nI r1382)) 13) nd (nI nd20)), K]) rfl rfl) hP
                    have hD : va_D A (mW G h0 a (upd (upd (upd (upd (upd (upd (upd F 15 0) 16 pl1378) 27 (nI nd1379)) 31 (nI wr1381)) 64 (nI at1376)) 65 (nI ne)) 66 (nI lk1380)) (updA (stR (stR X1383 13 nd20 (nI r1382)) 13 nd (nI nd20)) 2 K)) := mW_D hD
                    have hkp1419 : Kp B (stR (stR X1383 13 nd20 (nI r1382)) 13 nd (nI nd20)) wr1381 T := (Kp.row hkp1409 (by omega))
                    have hlo1420 : Low B (stR (stR X1383 13 nd20 (nI r1382)) 13 nd (nI nd20)) nd wr := (Low.st hlo1410 (by omega) (by omega))
                    have hf1421 : Frs K T wr1381 (stR X1383 13 nd20 (nI r1382)) nd nd1379 20000 [(nd, (280 + 4 * (21 - ne))), (nd20, (279 + 4 * (21 - ne)))] := (Frs.join hf1412 hf1417 (by omega) (by omega) (by omega))
                    have hn1422 : Nd (stR (stR X1383 13 nd20 (nI r1382)) 13 nd (nI nd20)) nd 41 (nI r23) (nI nd20) (-1) (-1) := (Nd.st hn1413 (by omega))
                    have hn1423 : Nd (stR (stR X1383 13 nd20 (nI r1382)) 13 nd (nI nd20)) nd20 44 (nI at1305) (nI r1382) (-1) (-1) := (Nd.stn hn1414 (by omega))
                    have hf1424 : FrL K T wr1381 (stR (stR X1383 13 nd20 (nI r1382)) 13 nd (nI nd20)) nd nd1379 20000 nd (280 + 4 * (21 - ne)) nd20 3 := (FrL.head (s := 2) (k := 41) hf1421 (by omega) (by omega) (by omega) (by omega) hn1413.2.2.1 hn1413.1 (by decide) ⟨by decide, (by rw [hn1414.1]; decide), by decide⟩ (by rw [hn1414.1]; decide) (by omega) (by omega) (fun h => by omega))
                    refine lv_goto (tgt := 161) hx hb dX12_attempt_150 (by decide) ?_
                    refine lv_iload hx hb dX12_attempt_161 (lv_at hl 0 rfl) ?_
                    refine lv_istore_n (lv' := [(2, .int (nI nd20)), (6, .int (nI nd20)), (5, .int (nI at1320)), (4, .int (nI at1305)), (3, .int (nI (at1289 - 1))), (1, .int (nI nd)), (0, .ref h0)]) hx hb dX12_attempt_163 rfl hl (by decide) rfl (fun ls hl => ?_)
                    refine lv_goto (tgt := 71) hx hb dX12_attempt_164 (by decide) ?_
                    have loop_o : ∀ (n_o : Nat) (at2 : Nat) (nd2 : Nat) (wr2 : Nat) (lk2 : Nat) (pl2 : Int32) (X2 : Nat → Nat → Int32) (la : Nat) (xa2 : Int32) (xb2 : Int32) (H : Heap) (locs : List Loc) (ls : Array Slot), at2 ≤ T → T + 1 ≤ at2 + n_o → (at0 + 1 ≤ at2) → (nd ≤ nd2) → (nd2 + 2 * at0 ≤ nd + 2 * at2) → (wr ≤ wr2) → (wr2 + at0 ≤ wr + at2) → (lk ≤ lk2) → (lk2 ≤ 60) → (nd ≤ la ∧ la < nd2) → (nd + 1 ≤ nd2) → (Kp B X2 wr2 T) → (Low B X2 nd wr) → (FrL K T wr2 X2 nd nd2 20000 nd (280 + 4 * (21 - ne)) la 3) → (Nd X2 nd 41 xa2 xb2 (-1) (-1)) → va_P G.1 pCl (mW G h0 a (upd (upd (upd (upd (upd (upd (upd F 15 0) 16 pl2) 27 (nI nd2)) 31 (nI wr2)) 64 (nI at2)) 65 (nI ne)) 66 (nI lk2)) (updA X2 2 K)) H → va_D A (mW G h0 a (upd (upd (upd (upd (upd (upd (upd F 15 0) 16 pl2) 27 (nI nd2)) 31 (nI wr2)) 64 (nI at2)) 65 (nI ne)) 66 (nI lk2)) (updA X2 2 K)) → va_S A s.heap H locs → lv_has ls 7 [(2, .int (nI la)), (1, .int (nI nd)), (0, .ref h0)] → W p l e (headSpec (Cond.code yX12_attempt cX12_attempt 7 (some .int) :: pw) ({ frames := (26 * n + 43), cells := 0, slots := 0, locals := (2000 * n + 4300) } : Room)).room s m ([.ref h0] : List Value).toArray below meth c H locs 0 0 (MQ below (pQ G A (fun (v : Option Value) (u : Nat × Nat × Int32 × Nat × Nat × Nat × Nat × (Nat → Nat → Int32)) => v = some (.int (nI u.2.2.2.2.2.2.1)) ∧ (at0 ≤ u.1) ∧ (u.1 ≤ T) ∧ (u.2.1 ≤ 100) ∧ (nd ≤ u.2.2.2.1) ∧ (u.2.2.2.1 + 2 * at0 ≤ nd + 2 * u.1 + 100000 * u.2.1) ∧ (u.2.2.2.1 + 2 * at0 ≤ nd + 2 * u.1 + (60 * (21 - ne) + 40)) ∧ (wr ≤ u.2.2.2.2.2.1) ∧ (u.2.2.2.2.2.1 + at0 ≤ wr + u.1) ∧ (lk ≤ u.2.2.2.2.1) ∧ (u.2.2.2.2.1 ≤ 60 + 100 * u.2.1) ∧ (at0 + 1 ≤ u.1 + u.2.1) ∧ (u.2.2.2.2.2.2.1 ≤ u.2.2.2.1) ∧ (Kp B u.2.2.2.2.2.2.2 u.2.2.2.2.2.1 T) ∧ (If (u.2.1 = 0) (Low B u.2.2.2.2.2.2.2 nd wr ∧ Frs K T u.2.2.2.2.2.1 u.2.2.2.2.2.2.2 nd u.2.2.2.1 20000 [(u.2.2.2.2.2.2.1, (280 + 4 * (21 - ne)))] ∧ kcl 3 (u.2.2.2.2.2.2.2 9 u.2.2.2.2.2.2.1) = true))) (fun u => (mW G h0 a (upd (upd (upd (upd (upd (upd (upd F 15 (nI u.2.1)) 16 u.2.2.1) 27 (nI u.2.2.2.1)) 31 (nI u.2.2.2.2.2.1)) 64 (nI u.1)) 65 (nI ne)) 66 (nI u.2.2.2.2.1)) (updA u.2.2.2.2.2.2.2 2 K)))) ([.ref h0] : List Value).toArray s ({ frames := (26 * n + 43), cells := 0, slots := 0, locals := (2000 * n + 4300) } : Room).cells ({ frames := (26 * n + 43), cells := 0, slots := 0, locals := (2000 * n + 4300) } : Room).slots A) (F0 m 71 ls []) := by
                      intro n_o
                      induction n_o with
                      | zero => intro at2 nd2 wr2 lk2 pl2 X2 la xa2 xb2 H locs ls hk_o hn_o; omega
                      | succ n_o ih_o =>
                        intro at2 nd2 wr2 lk2 pl2 X2 la xa2 xb2 H locs ls hk_o hn_o hl1 hl3 hl4 hl5 hl6 hl7 hl8 hla hnd2 hkp2 hlo2 hf2 hn2 hP hD hS hl
                        refine lv_aload_n hx hb dX12_attempt_71 rfl (lv_at hl 2 rfl) ?_
                        refine lv_sipush (v := 313) hx hb dX12_attempt_72 (by decide) ?_
                        have hP : va_P G.1 pCl (mW G h0 a (upd (upd (upd (upd (upd (upd (upd (upd (upd F 15 0) 16 pl2) 27 (nI nd2)) 31 (nI wr2)) 64 (nI at2)) 65 (nI ne)) 66 (nI lk2)) 15 (nI 0)) 64 (nI at2)) (updA (updA X2 2 K) 2 K)) _ := mW_to (F := F) (l1 := [(15, 0), (16, pl2), (27, (nI nd2)), (31, (nI wr2)), (64, (nI at2)), (65, (nI ne)), (66, (nI lk2))]) (l2 := [(15, 0), (16, pl2), (27, (nI nd2)), (31, (nI wr2)), (64, (nI at2)), (65, (nI ne)), (66, (nI lk2)), (15, (nI 0)), (64, (nI at2))]) (V := [(nI 0), pl2, (nI nd2), (nI wr2), (nI at2), (nI ne), (nI lk2), (nI 0), pl2, (nI nd2), (nI wr2), (nI at2), (nI ne), (nI lk2), (nI 0), (nI at2)]) rfl rfl (show (updA X2 2 K) = (updA (updA X2 2 K) 2 K) from updsA_eq2 (F := X2) (l1 := [(2, K)]) (l2 := [(2, K), (2, K)]) (V := [K, K, K]) rfl rfl) hP
                        have hD : va_D A (mW G h0 a (upd (upd (upd (upd (upd (upd (upd (upd (upd F 15 0) 16 pl2) 27 (nI nd2)) 31 (nI wr2)) 64 (nI at2)) 65 (nI ne)) 66 (nI lk2)) 15 (nI 0)) 64 (nI at2)) (updA (updA X2 2 K) 2 K)) := mW_D hD
                        refine pc_V0 (G := G) (As := [.int 313]) (rest := []) hx hb hml hown hq hE hX pX0_al hP hD hS hA hl.1 (R_may l G h0 a (upd (upd (upd (upd (upd (upd (upd F 15 0) 16 pl2) 27 (nI nd2)) 31 (nI wr2)) 64 (nI at2)) 65 (nI ne)) 66 (nI lk2)) (updA X2 2 K) at2 T 0 K 313 (by omega) (by omega) hK (by omega) (by decide) (by decide)) (gV pw_1621 pw_1622 pw_1623 pw_1523 pw_1605) hV_X12_may 0 9 rfl rfl rfl rfl (Nat.le_of_ble_eq_true rfl) dX12_attempt_75 ⟨Nat.le_of_ble_eq_true rfl, Nat.le_of_ble_eq_true rfl⟩ ⟨(by show 3 + 1 ≤ (26 * n + 43); omega), (by show 8 + (3 + 11) + 81 ≤ (2000 * n + 4300); omega)⟩ (fun v1427 u1425 H locs hw1426 hP hD hS => ?_)
                        obtain ⟨at1428, r1429⟩ := u1425
                        obtain ⟨hw1426, h1430, h1431, h1432, h1433, h1434, h1435⟩ := hw1426
                        have h1430 : r1429 ≤ 1 := h1430
                        have h1431 : 0 + 100 * r1429 ≤ 100 := h1431
                        have h1432 : at1428 = at2 + r1429 := h1432
                        have h1433 : at1428 ≤ T := h1433
                        have h1434 : If (r1429 = 1) (K at2 = 313) := h1434
                        have h1435 : If (r1429 = 0) (0 = 0 → ¬ K at2 = 313) := h1435
                        obtain rfl : v1427 = some (.int (nI r1429)) := hw1426
                        have hP : va_P G.1 pCl (mW G h0 a (upd (upd (upd (upd (upd (upd (upd F 15 0) 16 pl2) 27 (nI nd2)) 31 (nI wr2)) 64 (nI at1428)) 65 (nI ne)) 66 (nI lk2)) (updA X2 2 K)) _ := mW_to (F := F) (l1 := [(15, 0), (16, pl2), (27, (nI nd2)), (31, (nI wr2)), (64, (nI at2)), (65, (nI ne)), (66, (nI lk2)), (15, (nI 0)), (64, (nI at1428))]) (l2 := [(15, 0), (16, pl2), (27, (nI nd2)), (31, (nI wr2)), (64, (nI at1428)), (65, (nI ne)), (66, (nI lk2))]) (V := [0, pl2, (nI nd2), (nI wr2), (nI at1428), (nI ne), (nI lk2), 0, (nI at1428), 0, pl2, (nI nd2), (nI wr2), (nI at1428), (nI ne), (nI lk2)]) rfl rfl (show (updA (updA X2 2 K) 2 K) = (updA X2 2 K) from updsA_eq2 (F := X2) (l1 := [(2, K), (2, K)]) (l2 := [(2, K)]) (V := [K, K, K]) rfl rfl) hP
                        have hD : va_D A (mW G h0 a (upd (upd (upd (upd (upd (upd (upd F 15 0) 16 pl2) 27 (nI nd2)) 31 (nI wr2)) 64 (nI at1428)) 65 (nI ne)) 66 (nI lk2)) (updA X2 2 K)) := mW_D hD
                        refine W.widen (k := 0) (n := 0) (Nat.le_of_ble_eq_true rfl) (Nat.le_of_ble_eq_true rfl) ?_
                        refine W.eq (g2 := F0 m 78 ls [.int (nI r1429)]) rfl ?_
                        refine lv_if_eq (tgt := 167) hx hb dX12_attempt_78 (by decide) (fun c1436 => ?_) (fun c1436 => ?_)
                        · have n1437 : r1429 = 0 := (nI_eq (a := r1429) (b := 0) (by omega) (by omega)).mp c1436
                          have hf1438 : Frs K T wr2 X2 nd nd2 20000 [(nd, (280 + 4 * (21 - ne)))] := (FrL.toFrs hf2)
                          have hP : va_P G.1 pCl (mW G h0 a (upd (upd (upd (upd (upd (upd (upd F 15 0) 16 pl2) 27 (nI nd2)) 31 (nI wr2)) 64 (nI at1428)) 65 (nI ne)) 66 (nI lk2)) (updA X2 2 K)) _ := hP
                          have hD : va_D A (mW G h0 a (upd (upd (upd (upd (upd (upd (upd F 15 0) 16 pl2) 27 (nI nd2)) 31 (nI wr2)) 64 (nI at1428)) 65 (nI ne)) 66 (nI lk2)) (updA X2 2 K)) := mW_D hD
                          exact cut_a at1428 nd2 wr2 lk2 pl2 X2 xa2 xb2 _ _ _ (by omega) (by omega) (by omega) (by omega) (by omega) (by omega) (by omega) (by omega) (by omega) hkp2 hlo2 (Frs.up hf1438 (by omega)) hn2 hP hD hS (lv_sub hl [1, 2] rfl)
                        · have n1439 : ¬ (r1429 = 0) := fun h9 => c1436 ((nI_eq (a := r1429) (b := 0) (by omega) (by omega)).mpr h9)
                          refine lv_aload_n hx hb dX12_attempt_81 rfl (lv_at hl 2 rfl) ?_
                          refine r_get (v := .int (nI at1428)) hx hb hown hq hE hP 64 343 tFX12_64 (by decide) pw_1592 rfl dX12_attempt_82 ?_
                          refine lv_iconst (v := 1) hx hb dX12_attempt_85 (by decide) ?_
                          refine lv_isub hx hb dX12_attempt_86 ?_
                          refine lv_topi (fun x1440 e1441 => ?_)
                          obtain rfl : x1440 = nI (at1428 - 1) := e1441.trans (nI_subN (a := 1) (b := at1428) (by omega))
                          refine lv_istore_n (lv' := [(3, .int (nI (at1428 - 1))), (2, .int (nI la)), (1, .int (nI nd)), (0, .ref h0)]) hx hb dX12_attempt_87 rfl hl (by decide) rfl (fun ls hl => ?_)
                          refine lv_aload_n hx hb dX12_attempt_88 rfl (lv_at hl 3 rfl) ?_
                          refine lv_bipush (v := 40) hx hb dX12_attempt_89 (by decide) ?_
                          have hP : va_P G.1 pCl (mW G h0 a (upd (upd (upd (upd (upd (upd (upd (upd (upd F 15 0) 16 pl2) 27 (nI nd2)) 31 (nI wr2)) 64 (nI at1428)) 65 (nI ne)) 66 (nI lk2)) 15 (nI 0)) 64 (nI at1428)) (updA (updA X2 2 K) 2 K)) _ := mW_to (F := F) (l1 := [(15, 0), (16, pl2), (27, (nI nd2)), (31, (nI wr2)), (64, (nI at1428)), (65, (nI ne)), (66, (nI lk2))]) (l2 := [(15, 0), (16, pl2), (27, (nI nd2)), (31, (nI wr2)), (64, (nI at1428)), (65, (nI ne)), (66, (nI lk2)), (15, (nI 0)), (64, (nI at1428))]) (V := [(nI 0), pl2, (nI nd2), (nI wr2), (nI at1428), (nI ne), (nI lk2), (nI 0), pl2, (nI nd2), (nI wr2), (nI at1428), (nI ne), (nI lk2), (nI 0), (nI at1428)]) rfl rfl (show (updA X2 2 K) = (updA (updA X2 2 K) 2 K) from updsA_eq2 (F := X2) (l1 := [(2, K)]) (l2 := [(2, K), (2, K)]) (V := [K, K, K]) rfl rfl) hP
                          have hD : va_D A (mW G h0 a (upd (upd (upd (upd (upd (upd (upd (upd (upd F 15 0) 16 pl2) 27 (nI nd2)) 31 (nI wr2)) 64 (nI at1428)) 65 (nI ne)) 66 (nI lk2)) 15 (nI 0)) 64 (nI at1428)) (updA (updA X2 2 K) 2 K)) := mW_D hD
                          refine pc_V0 (G := G) (As := [.int 40]) (rest := []) hx hb hml hown hq hE hX pX0_al hP hD hS hA hl.1 (R_take l G h0 a (upd (upd (upd (upd (upd (upd (upd F 15 0) 16 pl2) 27 (nI nd2)) 31 (nI wr2)) 64 (nI at1428)) 65 (nI ne)) 66 (nI lk2)) (updA X2 2 K) at1428 T 0 K 40 (by omega) (by omega) hK (by omega) (by decide) (by decide)) (gV pw_1614 pw_1615 pw_1616 pw_1523 pw_1601) hV_X12_take 0 9 rfl rfl rfl rfl (Nat.le_of_ble_eq_true rfl) dX12_attempt_91 ⟨Nat.le_of_ble_eq_true rfl, Nat.le_of_ble_eq_true rfl⟩ ⟨(by show 4 + 1 ≤ (26 * n + 43); omega), (by show 8 + (2 + 11) + 103 ≤ (2000 * n + 4300); omega)⟩ (fun v1444 u1442 H locs hw1443 hP hD hS => ?_)
                          obtain ⟨at1445, fa1446, pl1447⟩ := u1442
                          obtain ⟨hw1443, h1448, h1449, h1450, h1451, h1452, h1453, h1454, h1455⟩ := hw1443
                          have h1448 : at1428 ≤ at1445 := h1448
                          have h1449 : at1445 ≤ T := h1449
                          have h1450 : 0 ≤ fa1446 := h1450
                          have h1451 : fa1446 ≤ 100 := h1451
                          have h1452 : If (0 < 0) (at1445 = at1428 ∧ fa1446 = 0) := h1452
                          have h1453 : at1445 ≤ at1428 + 1 := h1453
                          have h1454 : at1428 + 1 ≤ at1445 + fa1446 := h1454
                          have h1455 : If (fa1446 = 0) (K at1428 = 40) := h1455
                          obtain rfl : v1444 = none := hw1443
                          have hP : va_P G.1 pCl (mW G h0 a (upd (upd (upd (upd (upd (upd (upd F 15 (nI fa1446)) 16 pl1447) 27 (nI nd2)) 31 (nI wr2)) 64 (nI at1445)) 65 (nI ne)) 66 (nI lk2)) (updA X2 2 K)) _ := mW_to (F := F) (l1 := [(15, 0), (16, pl2), (27, (nI nd2)), (31, (nI wr2)), (64, (nI at1428)), (65, (nI ne)), (66, (nI lk2)), (15, (nI fa1446)), (16, pl1447), (64, (nI at1445))]) (l2 := [(15, (nI fa1446)), (16, pl1447), (27, (nI nd2)), (31, (nI wr2)), (64, (nI at1445)), (65, (nI ne)), (66, (nI lk2))]) (V := [(nI fa1446), pl1447, (nI nd2), (nI wr2), (nI at1445), (nI ne), (nI lk2), (nI fa1446), pl1447, (nI at1445), (nI fa1446), pl1447, (nI nd2), (nI wr2), (nI at1445), (nI ne), (nI lk2)]) rfl rfl (show (updA (updA X2 2 K) 2 K) = (updA X2 2 K) from updsA_eq2 (F := X2) (l1 := [(2, K), (2, K)]) (l2 := [(2, K)]) (V := [K, K, K]) rfl rfl) hP
                          have hD : va_D A (mW G h0 a (upd (upd (upd (upd (upd (upd (upd F 15 (nI fa1446)) 16 pl1447) 27 (nI nd2)) 31 (nI wr2)) 64 (nI at1445)) 65 (nI ne)) 66 (nI lk2)) (updA X2 2 K)) := mW_D hD
                          refine W.widen (k := 0) (n := 0) (Nat.le_of_ble_eq_true rfl) (Nat.le_of_ble_eq_true rfl) ?_
                          refine W.eq (g2 := F0 m 94 ls []) rfl ?_
                          rcases Nat.eq_zero_or_pos fa1446 with e1456 | e1456
                          · subst e1456
                            have hP : va_P G.1 pCl (mW G h0 a (upd (upd (upd (upd (upd (upd (upd F 15 0) 16 pl1447) 27 (nI nd2)) 31 (nI wr2)) 64 (nI at1445)) 65 (nI ne)) 66 (nI lk2)) (updA X2 2 K)) _ := hP
                            have hD : va_D A (mW G h0 a (upd (upd (upd (upd (upd (upd (upd F 15 0) 16 pl1447) 27 (nI nd2)) 31 (nI wr2)) 64 (nI at1445)) 65 (nI ne)) 66 (nI lk2)) (updA X2 2 K)) := mW_D hD
                            refine lv_aload_n hx hb dX12_attempt_94 rfl (lv_at hl 3 rfl) ?_
                            have hP : va_P G.1 pCl (mW G h0 a (upd (upd (upd (upd (upd (upd (upd (upd (upd F 15 0) 16 pl1447) 27 (nI nd2)) 31 (nI wr2)) 64 (nI at1445)) 65 (nI ne)) 66 (nI lk2)) 15 (nI 0)) 64 (nI at1445)) (updA (updA X2 2 K) 2 K)) _ := mW_to (F := F) (l1 := [(15, 0), (16, pl1447), (27, (nI nd2)), (31, (nI wr2)), (64, (nI at1445)), (65, (nI ne)), (66, (nI lk2))]) (l2 := [(15, 0), (16, pl1447), (27, (nI nd2)), (31, (nI wr2)), (64, (nI at1445)), (65, (nI ne)), (66, (nI lk2)), (15, (nI 0)), (64, (nI at1445))]) (V := [(nI 0), pl1447, (nI nd2), (nI wr2), (nI at1445), (nI ne), (nI lk2), (nI 0), pl1447, (nI nd2), (nI wr2), (nI at1445), (nI ne), (nI lk2), (nI 0), (nI at1445)]) rfl rfl (show (updA X2 2 K) = (updA (updA X2 2 K) 2 K) from updsA_eq2 (F := X2) (l1 := [(2, K)]) (l2 := [(2, K), (2, K)]) (V := [K, K, K]) rfl rfl) hP
                            have hD : va_D A (mW G h0 a (upd (upd (upd (upd (upd (upd (upd (upd (upd F 15 0) 16 pl1447) 27 (nI nd2)) 31 (nI wr2)) 64 (nI at1445)) 65 (nI ne)) 66 (nI lk2)) 15 (nI 0)) 64 (nI at1445)) (updA (updA X2 2 K) 2 K)) := mW_D hD
                            refine pc_V0 (G := G) (As := []) (rest := []) hx hb hml hown hq hE hX pX0_al hP hD hS hA hl.1 (R_name l G h0 a (upd (upd (upd (upd (upd (upd (upd F 15 0) 16 pl1447) 27 (nI nd2)) 31 (nI wr2)) 64 (nI at1445)) 65 (nI ne)) 66 (nI lk2)) (updA X2 2 K) at1445 T 0 K (by omega) (by omega) hK (by omega)) (gV pw_1618 pw_1619 pw_1620 pw_1523 pw_1613) hV_X12_name 0 9 rfl rfl rfl rfl (Nat.le_of_ble_eq_true rfl) dX12_attempt_95 ⟨Nat.le_of_ble_eq_true rfl, Nat.le_of_ble_eq_true rfl⟩ ⟨(by show 5 + 1 ≤ (26 * n + 43); omega), (by show 8 + (2 + 11) + 124 ≤ (2000 * n + 4300); omega)⟩ (fun v1459 u1457 H locs hw1458 hP hD hS => ?_)
                            obtain ⟨at1460, fa1461, pl1462⟩ := u1457
                            obtain ⟨hw1458, h1463, h1464, h1465, h1466, h1467, h1468, h1469, h1470⟩ := hw1458
                            have h1463 : at1445 ≤ at1460 := h1463
                            have h1464 : at1460 ≤ T := h1464
                            have h1465 : 0 ≤ fa1461 := h1465
                            have h1466 : fa1461 ≤ 100 := h1466
                            have h1467 : If (0 < 0) (at1460 = at1445 ∧ fa1461 = 0) := h1467
                            have h1468 : at1460 ≤ at1445 + 1 := h1468
                            have h1469 : at1445 + 1 ≤ at1460 + fa1461 := h1469
                            have h1470 : If (fa1461 = 0) (K at1445 = 1) := h1470
                            obtain rfl : v1459 = some (.int (nI at1445)) := hw1458
                            have hP : va_P G.1 pCl (mW G h0 a (upd (upd (upd (upd (upd (upd (upd F 15 (nI fa1461)) 16 pl1462) 27 (nI nd2)) 31 (nI wr2)) 64 (nI at1460)) 65 (nI ne)) 66 (nI lk2)) (updA X2 2 K)) _ := mW_to (F := F) (l1 := [(15, 0), (16, pl1447), (27, (nI nd2)), (31, (nI wr2)), (64, (nI at1445)), (65, (nI ne)), (66, (nI lk2)), (15, (nI fa1461)), (16, pl1462), (64, (nI at1460))]) (l2 := [(15, (nI fa1461)), (16, pl1462), (27, (nI nd2)), (31, (nI wr2)), (64, (nI at1460)), (65, (nI ne)), (66, (nI lk2))]) (V := [(nI fa1461), pl1462, (nI nd2), (nI wr2), (nI at1460), (nI ne), (nI lk2), (nI fa1461), pl1462, (nI at1460), (nI fa1461), pl1462, (nI nd2), (nI wr2), (nI at1460), (nI ne), (nI lk2)]) rfl rfl (show (updA (updA X2 2 K) 2 K) = (updA X2 2 K) from updsA_eq2 (F := X2) (l1 := [(2, K), (2, K)]) (l2 := [(2, K)]) (V := [K, K, K]) rfl rfl) hP
                            have hD : va_D A (mW G h0 a (upd (upd (upd (upd (upd (upd (upd F 15 (nI fa1461)) 16 pl1462) 27 (nI nd2)) 31 (nI wr2)) 64 (nI at1460)) 65 (nI ne)) 66 (nI lk2)) (updA X2 2 K)) := mW_D hD
                            refine W.widen (k := 0) (n := 0) (Nat.le_of_ble_eq_true rfl) (Nat.le_of_ble_eq_true rfl) ?_
                            refine W.eq (g2 := F0 m 98 ls [.int (nI at1445)]) rfl ?_
                            rcases Nat.eq_zero_or_pos fa1461 with e1471 | e1471
                            · subst e1471
                              have hP : va_P G.1 pCl (mW G h0 a (upd (upd (upd (upd (upd (upd (upd F 15 0) 16 pl1462) 27 (nI nd2)) 31 (nI wr2)) 64 (nI at1460)) 65 (nI ne)) 66 (nI lk2)) (updA X2 2 K)) _ := hP
                              have hD : va_D A (mW G h0 a (upd (upd (upd (upd (upd (upd (upd F 15 0) 16 pl1462) 27 (nI nd2)) 31 (nI wr2)) 64 (nI at1460)) 65 (nI ne)) 66 (nI lk2)) (updA X2 2 K)) := mW_D hD
                              refine lv_istore (lv' := [(4, .int (nI at1445)), (3, .int (nI (at1428 - 1))), (2, .int (nI la)), (1, .int (nI nd)), (0, .ref h0)]) hx hb dX12_attempt_98 hl (by decide) rfl (fun ls hl => ?_)
                              refine lv_aload_n hx hb dX12_attempt_100 rfl (lv_at hl 4 rfl) ?_
                              have hP : va_P G.1 pCl (mW G h0 a (upd (upd (upd (upd (upd (upd (upd (upd (upd F 15 0) 16 pl1462) 27 (nI nd2)) 31 (nI wr2)) 64 (nI at1460)) 65 (nI ne)) 66 (nI lk2)) 15 (nI 0)) 64 (nI at1460)) (updA (updA X2 2 K) 2 K)) _ := mW_to (F := F) (l1 := [(15, 0), (16, pl1462), (27, (nI nd2)), (31, (nI wr2)), (64, (nI at1460)), (65, (nI ne)), (66, (nI lk2))]) (l2 := [(15, 0), (16, pl1462), (27, (nI nd2)), (31, (nI wr2)), (64, (nI at1460)), (65, (nI ne)), (66, (nI lk2)), (15, (nI 0)), (64, (nI at1460))]) (V := [(nI 0), pl1462, (nI nd2), (nI wr2), (nI at1460), (nI ne), (nI lk2), (nI 0), pl1462, (nI nd2), (nI wr2), (nI at1460), (nI ne), (nI lk2), (nI 0), (nI at1460)]) rfl rfl (show (updA X2 2 K) = (updA (updA X2 2 K) 2 K) from updsA_eq2 (F := X2) (l1 := [(2, K)]) (l2 := [(2, K), (2, K)]) (V := [K, K, K]) rfl rfl) hP
                              have hD : va_D A (mW G h0 a (upd (upd (upd (upd (upd (upd (upd (upd (upd F 15 0) 16 pl1462) 27 (nI nd2)) 31 (nI wr2)) 64 (nI at1460)) 65 (nI ne)) 66 (nI lk2)) 15 (nI 0)) 64 (nI at1460)) (updA (updA X2 2 K) 2 K)) := mW_D hD
                              refine pc_V0 (G := G) (As := []) (rest := []) hx hb hml hown hq hE hX pX0_al hP hD hS hA hl.1 (R_name l G h0 a (upd (upd (upd (upd (upd (upd (upd F 15 0) 16 pl1462) 27 (nI nd2)) 31 (nI wr2)) 64 (nI at1460)) 65 (nI ne)) 66 (nI lk2)) (updA X2 2 K) at1460 T 0 K (by omega) (by omega) hK (by omega)) (gV pw_1618 pw_1619 pw_1620 pw_1523 pw_1613) hV_X12_name 0 9 rfl rfl rfl rfl (Nat.le_of_ble_eq_true rfl) dX12_attempt_101 ⟨Nat.le_of_ble_eq_true rfl, Nat.le_of_ble_eq_true rfl⟩ ⟨(by show 5 + 1 ≤ (26 * n + 43); omega), (by show 8 + (2 + 11) + 124 ≤ (2000 * n + 4300); omega)⟩ (fun v1474 u1472 H locs hw1473 hP hD hS => ?_)
                              obtain ⟨at1475, fa1476, pl1477⟩ := u1472
                              obtain ⟨hw1473, h1478, h1479, h1480, h1481, h1482, h1483, h1484, h1485⟩ := hw1473
                              have h1478 : at1460 ≤ at1475 := h1478
                              have h1479 : at1475 ≤ T := h1479
                              have h1480 : 0 ≤ fa1476 := h1480
                              have h1481 : fa1476 ≤ 100 := h1481
                              have h1482 : If (0 < 0) (at1475 = at1460 ∧ fa1476 = 0) := h1482
                              have h1483 : at1475 ≤ at1460 + 1 := h1483
                              have h1484 : at1460 + 1 ≤ at1475 + fa1476 := h1484
                              have h1485 : If (fa1476 = 0) (K at1460 = 1) := h1485
                              obtain rfl : v1474 = some (.int (nI at1460)) := hw1473
                              have hP : va_P G.1 pCl (mW G h0 a (upd (upd (upd (upd (upd (upd (upd F 15 (nI fa1476)) 16 pl1477) 27 (nI nd2)) 31 (nI wr2)) 64 (nI at1475)) 65 (nI ne)) 66 (nI lk2)) (updA X2 2 K)) _ := mW_to (F := F) (l1 := [(15, 0), (16, pl1462), (27, (nI nd2)), (31, (nI wr2)), (64, (nI at1460)), (65, (nI ne)), (66, (nI lk2)), (15, (nI fa1476)), (16, pl1477), (64, (nI at1475))]) (l2 := [(15, (nI fa1476)), (16, pl1477), (27, (nI nd2)), (31, (nI wr2)), (64, (nI at1475)), (65, (nI ne)), (66, (nI lk2))]) (V := [(nI fa1476), pl1477, (nI nd2), (nI wr2), (nI at1475), (nI ne), (nI lk2), (nI fa1476), pl1477, (nI at1475), (nI fa1476), pl1477, (nI nd2), (nI wr2), (nI at1475), (nI ne), (nI lk2)]) rfl rfl (show (updA (updA X2 2 K) 2 K) = (updA X2 2 K) from updsA_eq2 (F := X2) (l1 := [(2, K), (2, K)]) (l2 := [(2, K)]) (V := [K, K, K]) rfl rfl) hP
                              have hD : va_D A (mW G h0 a (upd (upd (upd (upd (upd (upd (upd F 15 (nI fa1476)) 16 pl1477) 27 (nI nd2)) 31 (nI wr2)) 64 (nI at1475)) 65 (nI ne)) 66 (nI lk2)) (updA X2 2 K)) := mW_D hD
                              refine W.widen (k := 0) (n := 0) (Nat.le_of_ble_eq_true rfl) (Nat.le_of_ble_eq_true rfl) ?_
                              refine W.eq (g2 := F0 m 104 ls [.int (nI at1460)]) rfl ?_
                              rcases Nat.eq_zero_or_pos fa1476 with e1486 | e1486
                              · subst e1486
                                have hP : va_P G.1 pCl (mW G h0 a (upd (upd (upd (upd (upd (upd (upd F 15 0) 16 pl1477) 27 (nI nd2)) 31 (nI wr2)) 64 (nI at1475)) 65 (nI ne)) 66 (nI lk2)) (updA X2 2 K)) _ := hP
                                have hD : va_D A (mW G h0 a (upd (upd (upd (upd (upd (upd (upd F 15 0) 16 pl1477) 27 (nI nd2)) 31 (nI wr2)) 64 (nI at1475)) 65 (nI ne)) 66 (nI lk2)) (updA X2 2 K)) := mW_D hD
                                refine lv_istore (lv' := [(5, .int (nI at1460)), (4, .int (nI at1445)), (3, .int (nI (at1428 - 1))), (2, .int (nI la)), (1, .int (nI nd)), (0, .ref h0)]) hx hb dX12_attempt_104 hl (by decide) rfl (fun ls hl => ?_)
                                refine lv_aload_n hx hb dX12_attempt_106 rfl (lv_at hl 5 rfl) ?_
                                refine lv_bipush (v := 41) hx hb dX12_attempt_107 (by decide) ?_
                                have hP : va_P G.1 pCl (mW G h0 a (upd (upd (upd (upd (upd (upd (upd (upd (upd F 15 0) 16 pl1477) 27 (nI nd2)) 31 (nI wr2)) 64 (nI at1475)) 65 (nI ne)) 66 (nI lk2)) 15 (nI 0)) 64 (nI at1475)) (updA (updA X2 2 K) 2 K)) _ := mW_to (F := F) (l1 := [(15, 0), (16, pl1477), (27, (nI nd2)), (31, (nI wr2)), (64, (nI at1475)), (65, (nI ne)), (66, (nI lk2))]) (l2 := [(15, 0), (16, pl1477), (27, (nI nd2)), (31, (nI wr2)), (64, (nI at1475)), (65, (nI ne)), (66, (nI lk2)), (15, (nI 0)), (64, (nI at1475))]) (V := [(nI 0), pl1477, (nI nd2), (nI wr2), (nI at1475), (nI ne), (nI lk2), (nI 0), pl1477, (nI nd2), (nI wr2), (nI at1475), (nI ne), (nI lk2), (nI 0), (nI at1475)]) rfl rfl (show (updA X2 2 K) = (updA (updA X2 2 K) 2 K) from updsA_eq2 (F := X2) (l1 := [(2, K)]) (l2 := [(2, K), (2, K)]) (V := [K, K, K]) rfl rfl) hP
                                have hD : va_D A (mW G h0 a (upd (upd (upd (upd (upd (upd (upd (upd (upd F 15 0) 16 pl1477) 27 (nI nd2)) 31 (nI wr2)) 64 (nI at1475)) 65 (nI ne)) 66 (nI lk2)) 15 (nI 0)) 64 (nI at1475)) (updA (updA X2 2 K) 2 K)) := mW_D hD
                                refine pc_V0 (G := G) (As := [.int 41]) (rest := []) hx hb hml hown hq hE hX pX0_al hP hD hS hA hl.1 (R_take l G h0 a (upd (upd (upd (upd (upd (upd (upd F 15 0) 16 pl1477) 27 (nI nd2)) 31 (nI wr2)) 64 (nI at1475)) 65 (nI ne)) 66 (nI lk2)) (updA X2 2 K) at1475 T 0 K 41 (by omega) (by omega) hK (by omega) (by decide) (by decide)) (gV pw_1614 pw_1615 pw_1616 pw_1523 pw_1601) hV_X12_take 0 9 rfl rfl rfl rfl (Nat.le_of_ble_eq_true rfl) dX12_attempt_109 ⟨Nat.le_of_ble_eq_true rfl, Nat.le_of_ble_eq_true rfl⟩ ⟨(by show 4 + 1 ≤ (26 * n + 43); omega), (by show 8 + (2 + 11) + 103 ≤ (2000 * n + 4300); omega)⟩ (fun v1489 u1487 H locs hw1488 hP hD hS => ?_)
                                obtain ⟨at1490, fa1491, pl1492⟩ := u1487
                                obtain ⟨hw1488, h1493, h1494, h1495, h1496, h1497, h1498, h1499, h1500⟩ := hw1488
                                have h1493 : at1475 ≤ at1490 := h1493
                                have h1494 : at1490 ≤ T := h1494
                                have h1495 : 0 ≤ fa1491 := h1495
                                have h1496 : fa1491 ≤ 100 := h1496
                                have h1497 : If (0 < 0) (at1490 = at1475 ∧ fa1491 = 0) := h1497
                                have h1498 : at1490 ≤ at1475 + 1 := h1498
                                have h1499 : at1475 + 1 ≤ at1490 + fa1491 := h1499
                                have h1500 : If (fa1491 = 0) (K at1475 = 41) := h1500
                                obtain rfl : v1489 = none := hw1488
                                have hP : va_P G.1 pCl (mW G h0 a (upd (upd (upd (upd (upd (upd (upd F 15 (nI fa1491)) 16 pl1492) 27 (nI nd2)) 31 (nI wr2)) 64 (nI at1490)) 65 (nI ne)) 66 (nI lk2)) (updA X2 2 K)) _ := mW_to (F := F) (l1 := [(15, 0), (16, pl1477), (27, (nI nd2)), (31, (nI wr2)), (64, (nI at1475)), (65, (nI ne)), (66, (nI lk2)), (15, (nI fa1491)), (16, pl1492), (64, (nI at1490))]) (l2 := [(15, (nI fa1491)), (16, pl1492), (27, (nI nd2)), (31, (nI wr2)), (64, (nI at1490)), (65, (nI ne)), (66, (nI lk2))]) (V := [(nI fa1491), pl1492, (nI nd2), (nI wr2), (nI at1490), (nI ne), (nI lk2), (nI fa1491), pl1492, (nI at1490), (nI fa1491), pl1492, (nI nd2), (nI wr2), (nI at1490), (nI ne), (nI lk2)]) rfl rfl (show (updA (updA X2 2 K) 2 K) = (updA X2 2 K) from updsA_eq2 (F := X2) (l1 := [(2, K), (2, K)]) (l2 := [(2, K)]) (V := [K, K, K]) rfl rfl) hP
                                have hD : va_D A (mW G h0 a (upd (upd (upd (upd (upd (upd (upd F 15 (nI fa1491)) 16 pl1492) 27 (nI nd2)) 31 (nI wr2)) 64 (nI at1490)) 65 (nI ne)) 66 (nI lk2)) (updA X2 2 K)) := mW_D hD
                                refine W.widen (k := 0) (n := 0) (Nat.le_of_ble_eq_true rfl) (Nat.le_of_ble_eq_true rfl) ?_
                                refine W.eq (g2 := F0 m 112 ls []) rfl ?_
                                rcases Nat.eq_zero_or_pos fa1491 with e1501 | e1501
                                · subst e1501
                                  have hP : va_P G.1 pCl (mW G h0 a (upd (upd (upd (upd (upd (upd (upd F 15 0) 16 pl1492) 27 (nI nd2)) 31 (nI wr2)) 64 (nI at1490)) 65 (nI ne)) 66 (nI lk2)) (updA X2 2 K)) _ := hP
                                  have hD : va_D A (mW G h0 a (upd (upd (upd (upd (upd (upd (upd F 15 0) 16 pl1492) 27 (nI nd2)) 31 (nI wr2)) 64 (nI at1490)) 65 (nI ne)) 66 (nI lk2)) (updA X2 2 K)) := mW_D hD
                                  refine lv_aload_n hx hb dX12_attempt_112 rfl (lv_at hl 5 rfl) ?_
                                  refine lv_bipush (v := 44) hx hb dX12_attempt_113 (by decide) ?_
                                  refine lv_iload_n hx hb dX12_attempt_115 rfl (lv_at hl 2 rfl) ?_
                                  refine lv_iload hx hb dX12_attempt_116 (lv_at hl 0 rfl) ?_
                                  refine lv_iload hx hb dX12_attempt_118 (lv_at hl 1 rfl) ?_
                                  refine lv_iconst (v := (-1)) hx hb dX12_attempt_120 (by decide) ?_
                                  have hP : va_P G.1 pCl (mW G h0 a (upd (upd (upd (upd (upd (upd (upd (upd F 15 0) 16 pl1492) 27 (nI nd2)) 31 (nI wr2)) 64 (nI at1490)) 65 (nI ne)) 66 (nI lk2)) 27 (nI nd2)) (updA X2 2 K)) _ := mW_to (F := F) (l1 := [(15, 0), (16, pl1492), (27, (nI nd2)), (31, (nI wr2)), (64, (nI at1490)), (65, (nI ne)), (66, (nI lk2))]) (l2 := [(15, 0), (16, pl1492), (27, (nI nd2)), (31, (nI wr2)), (64, (nI at1490)), (65, (nI ne)), (66, (nI lk2)), (27, (nI nd2))]) (V := [0, pl1492, (nI nd2), (nI wr2), (nI at1490), (nI ne), (nI lk2), 0, pl1492, (nI nd2), (nI wr2), (nI at1490), (nI ne), (nI lk2), (nI nd2)]) rfl rfl rfl hP
                                  have hD : va_D A (mW G h0 a (upd (upd (upd (upd (upd (upd (upd (upd F 15 0) 16 pl1492) 27 (nI nd2)) 31 (nI wr2)) 64 (nI at1490)) 65 (nI ne)) 66 (nI lk2)) 27 (nI nd2)) (updA X2 2 K)) := mW_D hD
                                  refine pc_V0 (G := G) (As := [.int 44, .int (nI (at1428 - 1)), .int (nI at1460), .int (nI at1445), .int (-1)]) (rest := []) hx hb hml hown hq hE hX pX0_al hP hD hS hA hl.1 (R_nodeB l G h0 a (upd (upd (upd (upd (upd (upd (upd F 15 0) 16 pl1492) 27 (nI nd2)) 31 (nI wr2)) 64 (nI at1490)) 65 (nI ne)) 66 (nI lk2)) X2 44 (nI (at1428 - 1)) (nI at1460) (nI at1445) (-1) nd2 K (by omega)) (gV pw_1650 pw_1651 pw_1652 pw_1523 pw_1589) hV_X12_node 0 9 rfl rfl rfl rfl (Nat.le_of_ble_eq_true rfl) dX12_attempt_121 ⟨Nat.le_of_ble_eq_true rfl, Nat.le_of_ble_eq_true rfl⟩ ⟨(by show 2 + 1 ≤ (26 * n + 43); omega), (by show 8 + (7 + 11) + 60 ≤ (2000 * n + 4300); omega)⟩ (fun v1504 u1502 H locs hw1503 hP hD hS => ?_)
                                  obtain ⟨X1505, rfl⟩ : ∃ z, z = u1502 := ⟨_, rfl⟩
                                  obtain ⟨hw1503, h1506⟩ := hw1503
                                  have h1506 : NewN X2 X1505 nd2 44 (nI (at1428 - 1)) (nI at1460) (nI at1445) (-1) := h1506
                                  obtain rfl : v1504 = some (.int (nI nd2)) := hw1503
                                  have hP : va_P G.1 pCl (mW G h0 a (upd (upd (upd (upd (upd (upd (upd F 15 0) 16 pl1492) 27 (nI (nd2 + 1))) 31 (nI wr2)) 64 (nI at1490)) 65 (nI ne)) 66 (nI lk2)) (updA X1505 2 K)) _ := mW_to (F := F) (l1 := [(15, 0), (16, pl1492), (27, (nI nd2)), (31, (nI wr2)), (64, (nI at1490)), (65, (nI ne)), (66, (nI lk2)), (27, (nI (nd2 + 1)))]) (l2 := [(15, 0), (16, pl1492), (27, (nI (nd2 + 1))), (31, (nI wr2)), (64, (nI at1490)), (65, (nI ne)), (66, (nI lk2))]) (V := [0, pl1492, (nI (nd2 + 1)), (nI wr2), (nI at1490), (nI ne), (nI lk2), (nI (nd2 + 1)), 0, pl1492, (nI (nd2 + 1)), (nI wr2), (nI at1490), (nI ne), (nI lk2)]) rfl rfl rfl hP
                                  have hD : va_D A (mW G h0 a (upd (upd (upd (upd (upd (upd (upd F 15 0) 16 pl1492) 27 (nI (nd2 + 1))) 31 (nI wr2)) 64 (nI at1490)) 65 (nI ne)) 66 (nI lk2)) (updA X1505 2 K)) := mW_D hD
                                  refine W.widen (k := 0) (n := 0) (Nat.le_of_ble_eq_true rfl) (Nat.le_of_ble_eq_true rfl) ?_
                                  refine W.eq (g2 := F0 m 124 ls [.int (nI nd2)]) rfl ?_
                                  have hkp1507 : Kp B X1505 wr2 T := (Kp.new hkp2 h1506)
                                  have hlo1508 : Low B X1505 nd wr := (Low.new hlo2 h1506 (by omega))
                                  have hf1509 : FrL K T wr2 X1505 nd nd2 20000 nd (280 + 4 * (21 - ne)) la 3 := (FrL.same hf2 (by omega) (fun j i q1 q2 q3 q4 => (h1506.2.1 j i (by omega))))
                                  have hn1510 : Nd X1505 nd 41 xa2 xb2 (-1) (-1) := (Nd.new hn2 h1506 (by omega))
                                  have hf1511 : Frs K T wr2 X1505 nd2 (nd2 + 1) nd2 [(nd2, 0)] := (Frs.new0 (k := 44) Frs.nil (Nat.le_refl _) (Nat.le_refl _) h1506 rfl (by decide) (by decide) (by omega) (by omega) (fun e => absurd e (by decide)) ⟨fun e => absurd e (by decide), fun _ => Or.inr ⟨at1445, rfl, by omega⟩, fun _ e => absurd (by decide) e⟩ (newOK.m1 (by decide)) (newOK.m1 (by decide)) (newOK.m1 (by decide)))
                                  have hn1512 : Nd X1505 nd2 44 (nI at1445) (-1) (-1) (-1) := (NewN.toNd h1506)
                                  refine lv_istore (lv' := [(6, .int (nI nd2)), (5, .int (nI at1460)), (4, .int (nI at1445)), (3, .int (nI (at1428 - 1))), (2, .int (nI la)), (1, .int (nI nd)), (0, .ref h0)]) hx hb dX12_attempt_124 hl (by decide) rfl (fun ls hl => ?_)
                                  refine lv_aload_n hx hb dX12_attempt_126 rfl (lv_at hl 6 rfl) ?_
                                  refine r_get (v := .ref (a 13)) hx hb hown hq hE hP 21 50 tFX12_21 (by decide) pw_1443 rfl dX12_attempt_127 ?_
                                  refine lv_iload hx hb dX12_attempt_130 (lv_at hl 0 rfl) ?_
                                  refine lv_aload_n hx hb dX12_attempt_132 rfl (lv_at hl 6 rfl) ?_
                                  have hP : va_P G.1 pCl (mW G h0 a (upd (upd (upd (upd (upd (upd (upd (upd (upd (upd (upd (upd (upd F 15 0) 16 pl1492) 27 (nI (nd2 + 1))) 31 (nI wr2)) 64 (nI at1490)) 65 (nI ne)) 66 (nI lk2)) 15 0) 27 (nI (nd2 + 1))) 31 (nI wr2)) 64 (nI at1490)) 65 (nI ne)) 66 (nI lk2)) (updA X1505 2 K)) _ := mW_to (F := F) (l1 := [(15, 0), (16, pl1492), (27, (nI (nd2 + 1))), (31, (nI wr2)), (64, (nI at1490)), (65, (nI ne)), (66, (nI lk2))]) (l2 := [(15, 0), (16, pl1492), (27, (nI (nd2 + 1))), (31, (nI wr2)), (64, (nI at1490)), (65, (nI ne)), (66, (nI lk2)), (15, 0), (27, (nI (nd2 + 1))), (31, (nI wr2)), (64, (nI at1490)), (65, (nI ne)), (66, (nI lk2))]) (V := [0, pl1492, (nI (nd2 + 1)), (nI wr2), (nI at1490), (nI ne), (nI lk2), 0, pl1492, (nI (nd2 + 1)), (nI wr2), (nI at1490), (nI ne), (nI lk2), 0, (nI (nd2 + 1)), (nI wr2), (nI at1490), (nI ne), (nI lk2)]) rfl rfl rfl hP
                                  have hD : va_D A (mW G h0 a (upd (upd (upd (upd (upd (upd (upd (upd (upd (upd (upd (upd (upd F 15 0) 16 pl1492) 27 (nI (nd2 + 1))) 31 (nI wr2)) 64 (nI at1490)) 65 (nI ne)) 66 (nI lk2)) 15 0) 27 (nI (nd2 + 1))) 31 (nI wr2)) 64 (nI at1490)) 65 (nI ne)) 66 (nI lk2)) (updA X1505 2 K)) := mW_D hD
                                  refine pc_V0 (G := G) (As := []) (rest := [.int (nI nd2), .ref (a 13)]) hx hb hml hown hq hE hX pX0_al hP hD hS hA hl.1 (hBk h0 a (upd (upd (upd (upd (upd (upd (upd F 15 0) 16 pl1492) 27 (nI (nd2 + 1))) 31 (nI wr2)) 64 (nI at1490)) 65 (nI ne)) 66 (nI lk2)) X1505 at1490 T ne (nd2 + 1) wr2 lk2 K (by omega) (by omega) hK (by omega) (by omega) (by omega) (by omega) (hkp1507).2 (by omega)) (gV pw_1685 pw_1686 pw_1687 pw_1523 pw_1688) hV_X12_block 0 9 rfl rfl rfl rfl (Nat.le_of_ble_eq_true rfl) dX12_attempt_133 ⟨Nat.le_of_ble_eq_true rfl, Nat.le_of_ble_eq_true rfl⟩ ⟨(by show (26 * n + 42) + 1 ≤ (26 * n + 43); omega), (by show 8 + (4 + 11) + (2000 * n + 4200) ≤ (2000 * n + 4300); omega)⟩ (fun v1515 u1513 H locs hw1514 hP hD hS => ?_)
                                  obtain ⟨at1516, fa1517, pl1518, nd1519, lk1520, wr1521, r1522, X1523⟩ := u1513
                                  obtain ⟨hw1514, h1524, h1525, h1526, h1527, h1528, h1529, h1530, h1531, h1532, h1533, h1534, h1535, h1536, h1537⟩ := hw1514
                                  have h1524 : at1490 ≤ at1516 := h1524
                                  have h1525 : at1516 ≤ T := h1525
                                  have h1526 : fa1517 ≤ 100 := h1526
                                  have h1527 : (nd2 + 1) ≤ nd1519 := h1527
                                  have h1528 : nd1519 + 2 * at1490 ≤ (nd2 + 1) + 2 * at1516 + 100000 * fa1517 := h1528
                                  have h1529 : nd1519 + 2 * at1490 ≤ (nd2 + 1) + 2 * at1516 + (60 * (20 - ne) + 50) := h1529
                                  have h1530 : wr2 ≤ wr1521 := h1530
                                  have h1531 : wr1521 + at1490 ≤ wr2 + at1516 := h1531
                                  have h1532 : lk2 ≤ lk1520 := h1532
                                  have h1533 : lk1520 ≤ lk2 := h1533
                                  have h1534 : at1490 + 1 ≤ at1516 + fa1517 := h1534
                                  have h1535 : r1522 ≤ nd1519 := h1535
                                  have h1536 : Kp X1505 X1523 wr1521 T := h1536
                                  have h1537 : If (fa1517 = 0) (Low X1505 X1523 (nd2 + 1) wr2 ∧ Frs K T wr1521 X1523 (nd2 + 1) nd1519 20000 [(r1522, (281 + 4 * (20 - ne)))] ∧ kcl 10 (X1523 9 r1522) = true) := h1537
                                  obtain rfl : v1515 = some (.int (nI r1522)) := hw1514
                                  have hP : va_P G.1 pCl (mW G h0 a (upd (upd (upd (upd (upd (upd (upd F 15 (nI fa1517)) 16 pl1518) 27 (nI nd1519)) 31 (nI wr1521)) 64 (nI at1516)) 65 (nI ne)) 66 (nI lk1520)) (updA X1523 2 K)) _ := mW_to (F := F) (l1 := [(15, 0), (16, pl1492), (27, (nI (nd2 + 1))), (31, (nI wr2)), (64, (nI at1490)), (65, (nI ne)), (66, (nI lk2)), (15, (nI fa1517)), (16, pl1518), (27, (nI nd1519)), (31, (nI wr1521)), (64, (nI at1516)), (65, (nI ne)), (66, (nI lk1520))]) (l2 := [(15, (nI fa1517)), (16, pl1518), (27, (nI nd1519)), (31, (nI wr1521)), (64, (nI at1516)), (65, (nI ne)), (66, (nI lk1520))]) (V := [(nI fa1517), pl1518, (nI nd1519), (nI wr1521), (nI at1516), (nI ne), (nI lk1520), (nI fa1517), pl1518, (nI nd1519), (nI wr1521), (nI at1516), (nI ne), (nI lk1520), (nI fa1517), pl1518, (nI nd1519), (nI wr1521), (nI at1516), (nI ne), (nI lk1520)]) rfl rfl rfl hP
                                  have hD : va_D A (mW G h0 a (upd (upd (upd (upd (upd (upd (upd F 15 (nI fa1517)) 16 pl1518) 27 (nI nd1519)) 31 (nI wr1521)) 64 (nI at1516)) 65 (nI ne)) 66 (nI lk1520)) (updA X1523 2 K)) := mW_D hD
                                  refine W.widen (k := 0) (n := 0) (Nat.le_of_ble_eq_true rfl) (Nat.le_of_ble_eq_true rfl) ?_
                                  refine W.eq (g2 := F0 m 136 ls [.int (nI r1522), .int (nI nd2), .ref (a 13)]) rfl ?_
                                  have hkp1538 : Kp B X1523 wr1521 T := (Kp.trans hkp1507 h1536)
                                  rcases Nat.eq_zero_or_pos fa1517 with e1539 | e1539
                                  · subst e1539
                                    have hP : va_P G.1 pCl (mW G h0 a (upd (upd (upd (upd (upd (upd (upd F 15 0) 16 pl1518) 27 (nI nd1519)) 31 (nI wr1521)) 64 (nI at1516)) 65 (nI ne)) 66 (nI lk1520)) (updA X1523 2 K)) _ := hP
                                    have hD : va_D A (mW G h0 a (upd (upd (upd (upd (upd (upd (upd F 15 0) 16 pl1518) 27 (nI nd1519)) 31 (nI wr1521)) 64 (nI at1516)) 65 (nI ne)) 66 (nI lk1520)) (updA X1523 2 K)) := mW_D hD
                                    obtain ⟨hlw1540, hf1541, hc1542⟩ := h1537 rfl
                                    have hlo1543 : Low B X1523 nd wr := (Low.trans hlo1508 hlw1540 (by omega) (by omega))
                                    have hf1544 : FrL K T wr1521 X1523 nd nd2 20000 nd (280 + 4 * (21 - ne)) la 3 := (FrL.same hf1509 (by omega) (fun j i q1 q2 q3 q4 => (hlw1540.1 j i q1 (by omega) (by omega))))
                                    have hf1545 : Frs K T wr1521 X1523 nd2 (nd2 + 1) nd2 [(nd2, 0)] := (Frs.same hf1511 (by omega) (fun j i q1 q2 q3 q4 => (hlw1540.1 j i q1 (by omega) (by omega))))
                                    have hn1546 : Nd X1523 nd 41 xa2 xb2 (-1) (-1) := (Nd.low hn1510 hlw1540 (by omega))
                                    have hn1547 : Nd X1523 nd2 44 (nI at1445) (-1) (-1) (-1) := (Nd.low hn1512 hlw1540 (by omega))
                                    have hm1548 := Frs.mem hf1541
                                    refine r_sti (f := (X1523 13)) (j := nd2) hx hb hE hP hD hS 13 (ma_13 G a _) rfl (mas_13 G a _) (by omega) (by decide) dX12_attempt_136 (fun H locs hP hD hS => ?_)
                                    have hP : va_P G.1 pCl (mW G h0 a (upd (upd (upd (upd (upd (upd (upd F 15 0) 16 pl1518) 27 (nI nd1519)) 31 (nI wr1521)) 64 (nI at1516)) 65 (nI ne)) 66 (nI lk1520)) (updA (stR X1523 13 nd2 (nI r1522)) 2 K)) _ := mW_to (F := F) (l1 := [(15, 0), (16, pl1518), (27, (nI nd1519)), (31, (nI wr1521)), (64, (nI at1516)), (65, (nI ne)), (66, (nI lk1520))]) (l2 := [(15, 0), (16, pl1518), (27, (nI nd1519)), (31, (nI wr1521)), (64, (nI at1516)), (65, (nI ne)), (66, (nI lk1520))]) (V := [0, pl1518, (nI nd1519), (nI wr1521), (nI at1516), (nI ne), (nI lk1520), 0, pl1518, (nI nd1519), (nI wr1521), (nI at1516), (nI ne), (nI lk1520)]) rfl rfl (show (updA (updA X1523 2 K) 13 (upd (X1523 13) nd2 (nI r1522))) = (updA (stR X1523 13 nd2 (nI r1522)) 2 K) from updsA_eq2 (F := X1523) (l1 := [(2, K), (13, (upd (X1523 13) nd2 (nI r1522)))]) (l2 := [(13, (upd (X1523 13) nd2 (nI r1522))), (2, K)]) (V := [K, (upd (X1523 13) nd2 (nI r1522)), (upd (X1523 13) nd2 (nI r1522)), K]) rfl rfl) hP
                                    have hD : va_D A (mW G h0 a (upd (upd (upd (upd (upd (upd (upd F 15 0) 16 pl1518) 27 (nI nd1519)) 31 (nI wr1521)) 64 (nI at1516)) 65 (nI ne)) 66 (nI lk1520)) (updA (stR X1523 13 nd2 (nI r1522)) 2 K)) := mW_D hD
                                    have hkp1549 : Kp B (stR X1523 13 nd2 (nI r1522)) wr1521 T := (Kp.row hkp1538 (by omega))
                                    have hlo1550 : Low B (stR X1523 13 nd2 (nI r1522)) nd wr := (Low.st hlo1543 (by omega) (by omega))
                                    have hf1551 : Frs K T wr1521 X1523 nd2 nd1519 nd2 [(nd2, 0), (r1522, (281 + 4 * (20 - ne)))] := (Frs.join hf1545 hf1541 (by omega) (by omega) (by omega))
                                    have hf1552 : FrL K T wr1521 (stR X1523 13 nd2 (nI r1522)) nd nd2 20000 nd (280 + 4 * (21 - ne)) la 3 := (FrL.same hf1544 (by omega) (fun j i q1 q2 q3 q4 => (st_ne (by omega))))
                                    have hn1553 : Nd (stR X1523 13 nd2 (nI r1522)) nd 41 xa2 xb2 (-1) (-1) := (Nd.stn hn1546 (by omega))
                                    have hn1554 : Nd (stR X1523 13 nd2 (nI r1522)) nd2 44 (nI at1445) (nI r1522) (-1) (-1) := (Nd.st hn1547 (by omega))
                                    have hc1555 : kcl 10 ((stR X1523 13 nd2 (nI r1522)) 9 r1522) = true := by rw [st_ne (by omega)]; exact hc1542
                                    have hf1556 : Frs K T wr1521 (stR X1523 13 nd2 (nI r1522)) nd2 nd1519 nd2 [(nd2, (279 + 4 * (21 - ne)))] := (Frs.set (s := 2) (k := 44) hf1551 (by omega) (by omega) (by simp) (by omega) (by omega) hn1547.2.2.1 hn1547.1 (by decide) ⟨by decide, by decide, by decide, hc1542, fun h => absurd h (by decide)⟩ (by omega) (by omega) (by decide) (fun h1 h2 => by omega))
                                    have hf1557 : Frs K T wr1521 (stR X1523 13 nd2 (nI r1522)) nd2 nd1519 20000 [(nd2, (279 + 4 * (21 - ne)))] := (Frs.fin (k := 44) hf1556 hn1554 rfl (by decide) (fun _ => nI_m1 (by omega)) (fun _ => nI_m1 (by omega)) (fun h => absurd h (by decide)) (fun h => absurd h (by decide)))
                                    refine lv_iload_n hx hb dX12_attempt_137 rfl (lv_at hl 4 rfl) ?_
                                    refine lv_iconst (v := (-1)) hx hb dX12_attempt_138 (by decide) ?_
                                    refine lv_icmp_ne (tgt := 153) hx hb dX12_attempt_139 (by decide) (fun c1558 => ?_) (fun c1558 => absurd c1558 (nI_m1 (by omega)))
                                    refine lv_aload_n hx hb dX12_attempt_153 rfl (lv_at hl 6 rfl) ?_
                                    refine r_get (v := .ref (a 16)) hx hb hown hq hE hP 24 59 tFX12_24 (by decide) pw_1446 rfl dX12_attempt_154 ?_
                                    refine lv_iload_n hx hb dX12_attempt_157 rfl (lv_at hl 4 rfl) ?_
                                    refine lv_iload hx hb dX12_attempt_158 (lv_at hl 0 rfl) ?_
                                    refine r_sti (f := ((stR X1523 13 nd2 (nI r1522)) 16)) (j := la) hx hb hE hP hD hS 16 (ma_16 G a _) rfl (mas_16 G a _) (by omega) (by decide) dX12_attempt_160 (fun H locs hP hD hS => ?_)
                                    have hP : va_P G.1 pCl (mW G h0 a (upd (upd (upd (upd (upd (upd (upd F 15 0) 16 pl1518) 27 (nI nd1519)) 31 (nI wr1521)) 64 (nI at1516)) 65 (nI ne)) 66 (nI lk1520)) (updA (stR (stR X1523 13 nd2 (nI r1522)) 16 la (nI nd2)) 2 K)) _ := mW_to (F := F) (l1 := [(15, 0), (16, pl1518), (27, (nI nd1519)), (31, (nI wr1521)), (64, (nI at1516)), (65, (nI ne)), (66, (nI lk1520))]) (l2 := [(15, 0), (16, pl1518), (27, (nI nd1519)), (31, (nI wr1521)), (64, (nI at1516)), (65, (nI ne)), (66, (nI lk1520))]) (V := [0, pl1518, (nI nd1519), (nI wr1521), (nI at1516), (nI ne), (nI lk1520), 0, pl1518, (nI nd1519), (nI wr1521), (nI at1516), (nI ne), (nI lk1520)]) rfl rfl (show (updA (updA (stR X1523 13 nd2 (nI r1522)) 2 K) 16 (upd ((stR X1523 13 nd2 (nI r1522)) 16) la (nI nd2))) = (updA (stR (stR X1523 13 nd2 (nI r1522)) 16 la (nI nd2)) 2 K) from updsA_eq2 (F := X1523) (l1 := [(13, (upd (X1523 13) nd2 (nI r1522))), (2, K), (16, (upd ((stR X1523 13 nd2 (nI r1522)) 16) la (nI nd2)))]) (l2 := [(13, (upd (X1523 13) nd2 (nI r1522))), (16, (upd ((stR X1523 13 nd2 (nI r1522)) 16) la (nI nd2))), (2, K)]) (V := [(upd (X1523 13) nd2 (nI r1522)), K, (upd ((stR X1523 13 nd2 (nI r1522)) 16) la (nI nd2)), (upd (X1523 13) nd2 (nI r1522)), (upd ((stR X1523 13 nd2 (nI r1522)) 16) la (nI nd2)), K]) rfl rfl) hP
                                    have hD : va_D A (mW G h0 a (upd (upd (upd (upd (upd (upd (upd F 15 0) 16 pl1518) 27 (nI nd1519)) 31 (nI wr1521)) 64 (nI at1516)) 65 (nI ne)) 66 (nI lk1520)) (updA (stR (stR X1523 13 nd2 (nI r1522)) 16 la (nI nd2)) 2 K)) := mW_D hD
                                    have hkp1559 : Kp B (stR (stR X1523 13 nd2 (nI r1522)) 16 la (nI nd2)) wr1521 T := (Kp.row hkp1549 (by omega))
                                    have hlo1560 : Low B (stR (stR X1523 13 nd2 (nI r1522)) 16 la (nI nd2)) nd wr := (Low.st hlo1550 (by omega) (by omega))
                                    have hn1561 : Nd (stR (stR X1523 13 nd2 (nI r1522)) 16 la (nI nd2)) nd 41 xa2 xb2 (-1) (-1) := (Nd.stn hn1553 (by omega))
                                    have hn1562 : Nd (stR (stR X1523 13 nd2 (nI r1522)) 16 la (nI nd2)) nd2 44 (nI at1445) (nI r1522) (-1) (-1) := (Nd.stn hn1554 (by omega))
                                    have hf1563 : FrL K T wr1521 (stR (stR X1523 13 nd2 (nI r1522)) 16 la (nI nd2)) nd nd1519 20000 nd (280 + 4 * (21 - ne)) nd2 3 := (FrL.next hf1552 hf1557 (by omega) (by omega) (by omega) (by omega) (by rw [hn1554.1]; decide) (by omega) (by omega) (fun h => by omega))
                                    refine lv_iload hx hb dX12_attempt_161 (lv_at hl 0 rfl) ?_
                                    refine lv_istore_n (lv' := [(2, .int (nI nd2)), (6, .int (nI nd2)), (5, .int (nI at1460)), (4, .int (nI at1445)), (3, .int (nI (at1428 - 1))), (1, .int (nI nd)), (0, .ref h0)]) hx hb dX12_attempt_163 rfl hl (by decide) rfl (fun ls hl => ?_)
                                    refine lv_goto (tgt := 71) hx hb dX12_attempt_164 (by decide) ?_
                                    have hP : va_P G.1 pCl (mW G h0 a (upd (upd (upd (upd (upd (upd (upd F 15 0) 16 pl1518) 27 (nI nd1519)) 31 (nI wr1521)) 64 (nI at1516)) 65 (nI ne)) 66 (nI lk1520)) (updA (stR (stR X1523 13 nd2 (nI r1522)) 16 la (nI nd2)) 2 K)) _ := hP
                                    have hD : va_D A (mW G h0 a (upd (upd (upd (upd (upd (upd (upd F 15 0) 16 pl1518) 27 (nI nd1519)) 31 (nI wr1521)) 64 (nI at1516)) 65 (nI ne)) 66 (nI lk1520)) (updA (stR (stR X1523 13 nd2 (nI r1522)) 16 la (nI nd2)) 2 K)) := mW_D hD
                                    exact ih_o at1516 nd1519 wr1521 lk1520 pl1518 (stR (stR X1523 13 nd2 (nI r1522)) 16 la (nI nd2)) nd2 xa2 xb2 _ _ _ (by omega) (by omega) (by omega) (by omega) (by omega) (by omega) (by omega) (by omega) (by omega) (by omega) (by omega) hkp1559 hlo1560 hf1563 hn1561 hP hD hS (lv_sub hl [0, 5, 6] rfl)
                                  · have e1539 := e1539
                                    refine r_sti (f := (X1523 13)) (j := nd2) hx hb hE hP hD hS 13 (ma_13 G a _) rfl (mas_13 G a _) (by omega) (by decide) dX12_attempt_136 (fun H locs hP hD hS => ?_)
                                    have hP : va_P G.1 pCl (mW G h0 a (upd (upd (upd (upd (upd (upd (upd F 15 (nI fa1517)) 16 pl1518) 27 (nI nd1519)) 31 (nI wr1521)) 64 (nI at1516)) 65 (nI ne)) 66 (nI lk1520)) (updA (stR X1523 13 nd2 (nI r1522)) 2 K)) _ := mW_to (F := F) (l1 := [(15, (nI fa1517)), (16, pl1518), (27, (nI nd1519)), (31, (nI wr1521)), (64, (nI at1516)), (65, (nI ne)), (66, (nI lk1520))]) (l2 := [(15, (nI fa1517)), (16, pl1518), (27, (nI nd1519)), (31, (nI wr1521)), (64, (nI at1516)), (65, (nI ne)), (66, (nI lk1520))]) (V := [(nI fa1517), pl1518, (nI nd1519), (nI wr1521), (nI at1516), (nI ne), (nI lk1520), (nI fa1517), pl1518, (nI nd1519), (nI wr1521), (nI at1516), (nI ne), (nI lk1520)]) rfl rfl (show (updA (updA X1523 2 K) 13 (upd (X1523 13) nd2 (nI r1522))) = (updA (stR X1523 13 nd2 (nI r1522)) 2 K) from updsA_eq2 (F := X1523) (l1 := [(2, K), (13, (upd (X1523 13) nd2 (nI r1522)))]) (l2 := [(13, (upd (X1523 13) nd2 (nI r1522))), (2, K)]) (V := [K, (upd (X1523 13) nd2 (nI r1522)), (upd (X1523 13) nd2 (nI r1522)), K]) rfl rfl) hP
                                    have hD : va_D A (mW G h0 a (upd (upd (upd (upd (upd (upd (upd F 15 (nI fa1517)) 16 pl1518) 27 (nI nd1519)) 31 (nI wr1521)) 64 (nI at1516)) 65 (nI ne)) 66 (nI lk1520)) (updA (stR X1523 13 nd2 (nI r1522)) 2 K)) := mW_D hD
                                    have hkp1564 : Kp B (stR X1523 13 nd2 (nI r1522)) wr1521 T := (Kp.row hkp1538 (by omega))
                                    refine lv_iload_n hx hb dX12_attempt_137 rfl (lv_at hl 4 rfl) ?_
                                    refine lv_iconst (v := (-1)) hx hb dX12_attempt_138 (by decide) ?_
                                    refine lv_icmp_ne (tgt := 153) hx hb dX12_attempt_139 (by decide) (fun c1565 => ?_) (fun c1565 => absurd c1565 (nI_m1 (by omega)))
                                    refine lv_aload_n hx hb dX12_attempt_153 rfl (lv_at hl 6 rfl) ?_
                                    refine r_get (v := .ref (a 16)) hx hb hown hq hE hP 24 59 tFX12_24 (by decide) pw_1446 rfl dX12_attempt_154 ?_
                                    refine lv_iload_n hx hb dX12_attempt_157 rfl (lv_at hl 4 rfl) ?_
                                    refine lv_iload hx hb dX12_attempt_158 (lv_at hl 0 rfl) ?_
                                    refine r_sti (f := ((stR X1523 13 nd2 (nI r1522)) 16)) (j := la) hx hb hE hP hD hS 16 (ma_16 G a _) rfl (mas_16 G a _) (by omega) (by decide) dX12_attempt_160 (fun H locs hP hD hS => ?_)
                                    have hP : va_P G.1 pCl (mW G h0 a (upd (upd (upd (upd (upd (upd (upd F 15 (nI fa1517)) 16 pl1518) 27 (nI nd1519)) 31 (nI wr1521)) 64 (nI at1516)) 65 (nI ne)) 66 (nI lk1520)) (updA (stR (stR X1523 13 nd2 (nI r1522)) 16 la (nI nd2)) 2 K)) _ := mW_to (F := F) (l1 := [(15, (nI fa1517)), (16, pl1518), (27, (nI nd1519)), (31, (nI wr1521)), (64, (nI at1516)), (65, (nI ne)), (66, (nI lk1520))]) (l2 := [(15, (nI fa1517)), (16, pl1518), (27, (nI nd1519)), (31, (nI wr1521)), (64, (nI at1516)), (65, (nI ne)), (66, (nI lk1520))]) (V := [(nI fa1517), pl1518, (nI nd1519), (nI wr1521), (nI at1516), (nI ne), (nI lk1520), (nI fa1517), pl1518, (nI nd1519), (nI wr1521), (nI at1516), (nI ne), (nI lk1520)]) rfl rfl (show (updA (updA (stR X1523 13 nd2 (nI r1522)) 2 K) 16 (upd ((stR X1523 13 nd2 (nI r1522)) 16) la (nI nd2))) = (updA (stR (stR X1523 13 nd2 (nI r1522)) 16 la (nI nd2)) 2 K) from updsA_eq2 (F := X1523) (l1 := [(13, (upd (X1523 13) nd2 (nI r1522))), (2, K), (16, (upd ((stR X1523 13 nd2 (nI r1522)) 16) la (nI nd2)))]) (l2 := [(13, (upd (X1523 13) nd2 (nI r1522))), (16, (upd ((stR X1523 13 nd2 (nI r1522)) 16) la (nI nd2))), (2, K)]) (V := [(upd (X1523 13) nd2 (nI r1522)), K, (upd ((stR X1523 13 nd2 (nI r1522)) 16) la (nI nd2)), (upd (X1523 13) nd2 (nI r1522)), (upd ((stR X1523 13 nd2 (nI r1522)) 16) la (nI nd2)), K]) rfl rfl) hP
                                    have hD : va_D A (mW G h0 a (upd (upd (upd (upd (upd (upd (upd F 15 (nI fa1517)) 16 pl1518) 27 (nI nd1519)) 31 (nI wr1521)) 64 (nI at1516)) 65 (nI ne)) 66 (nI lk1520)) (updA (stR (stR X1523 13 nd2 (nI r1522)) 16 la (nI nd2)) 2 K)) := mW_D hD
                                    have hkp1566 : Kp B (stR (stR X1523 13 nd2 (nI r1522)) 16 la (nI nd2)) wr1521 T := (Kp.row hkp1564 (by omega))
                                    refine lv_iload hx hb dX12_attempt_161 (lv_at hl 0 rfl) ?_
                                    refine lv_istore_n (lv' := [(2, .int (nI nd2)), (6, .int (nI nd2)), (5, .int (nI at1460)), (4, .int (nI at1445)), (3, .int (nI (at1428 - 1))), (1, .int (nI nd)), (0, .ref h0)]) hx hb dX12_attempt_163 rfl hl (by decide) rfl (fun ls hl => ?_)
                                    refine lv_goto (tgt := 71) hx hb dX12_attempt_164 (by decide) ?_
                                    refine lv_aload_n hx hb dX12_attempt_71 rfl (lv_at hl 6 rfl) ?_
                                    refine lv_sipush (v := 313) hx hb dX12_attempt_72 (by decide) ?_
                                    have hP : va_P G.1 pCl (mW G h0 a (upd (upd (upd (upd (upd (upd (upd (upd (upd F 15 (nI fa1517)) 16 pl1518) 27 (nI nd1519)) 31 (nI wr1521)) 64 (nI at1516)) 65 (nI ne)) 66 (nI lk1520)) 15 (nI fa1517)) 64 (nI at1516)) (updA (updA (stR (stR X1523 13 nd2 (nI r1522)) 16 la (nI nd2)) 2 K) 2 K)) _ := mW_to (F := F) (l1 := [(15, (nI fa1517)), (16, pl1518), (27, (nI nd1519)), (31, (nI wr1521)), (64, (nI at1516)), (65, (nI ne)), (66, (nI lk1520))]) (l2 := [(15, (nI fa1517)), (16, pl1518), (27, (nI nd1519)), (31, (nI wr1521)), (64, (nI at1516)), (65, (nI ne)), (66, (nI lk1520)), (15, (nI fa1517)), (64, (nI at1516))]) (V := [(nI fa1517), pl1518, (nI nd1519), (nI wr1521), (nI at1516), (nI ne), (nI lk1520), (nI fa1517), pl1518, (nI nd1519), (nI wr1521), (nI at1516), (nI ne), (nI lk1520), (nI fa1517), (nI at1516)]) rfl rfl (show (updA (stR (stR X1523 13 nd2 (nI r1522)) 16 la (nI nd2)) 2 K) = (updA (updA (stR (stR X1523 13 nd2 (nI r1522)) 16 la (nI nd2)) 2 K) 2 K) from updsA_eq2 (F := X1523) (l1 := [(13, (upd (X1523 13) nd2 (nI r1522))), (16, (upd ((stR X1523 13 nd2 (nI r1522)) 16) la (nI nd2))), (2, K)]) (l2 := [(13, (upd (X1523 13) nd2 (nI r1522))), (16, (upd ((stR X1523 13 nd2 (nI r1522)) 16) la (nI nd2))), (2, K), (2, K)]) (V := [(upd (X1523 13) nd2 (nI r1522)), (upd ((stR X1523 13 nd2 (nI r1522)) 16) la (nI nd2)), K, (upd (X1523 13) nd2 (nI r1522)), (upd ((stR X1523 13 nd2 (nI r1522)) 16) la (nI nd2)), K, K]) rfl rfl) hP
                                    have hD : va_D A (mW G h0 a (upd (upd (upd (upd (upd (upd (upd (upd (upd F 15 (nI fa1517)) 16 pl1518) 27 (nI nd1519)) 31 (nI wr1521)) 64 (nI at1516)) 65 (nI ne)) 66 (nI lk1520)) 15 (nI fa1517)) 64 (nI at1516)) (updA (updA (stR (stR X1523 13 nd2 (nI r1522)) 16 la (nI nd2)) 2 K) 2 K)) := mW_D hD
                                    refine pc_V0 (G := G) (As := [.int 313]) (rest := []) hx hb hml hown hq hE hX pX0_al hP hD hS hA hl.1 (R_may l G h0 a (upd (upd (upd (upd (upd (upd (upd F 15 (nI fa1517)) 16 pl1518) 27 (nI nd1519)) 31 (nI wr1521)) 64 (nI at1516)) 65 (nI ne)) 66 (nI lk1520)) (updA (stR (stR X1523 13 nd2 (nI r1522)) 16 la (nI nd2)) 2 K) at1516 T fa1517 K 313 (by omega) (by omega) hK (by omega) (by decide) (by decide)) (gV pw_1621 pw_1622 pw_1623 pw_1523 pw_1605) hV_X12_may 0 9 rfl rfl rfl rfl (Nat.le_of_ble_eq_true rfl) dX12_attempt_75 ⟨Nat.le_of_ble_eq_true rfl, Nat.le_of_ble_eq_true rfl⟩ ⟨(by show 3 + 1 ≤ (26 * n + 43); omega), (by show 8 + (3 + 11) + 81 ≤ (2000 * n + 4300); omega)⟩ (fun v1569 u1567 H locs hw1568 hP hD hS => ?_)
                                    obtain ⟨at1570, r1571⟩ := u1567
                                    obtain ⟨hw1568, h1572, h1573, h1574, h1575, h1576, h1577⟩ := hw1568
                                    have h1572 : r1571 ≤ 1 := h1572
                                    have h1573 : fa1517 + 100 * r1571 ≤ 100 := h1573
                                    have h1574 : at1570 = at1516 + r1571 := h1574
                                    have h1575 : at1570 ≤ T := h1575
                                    have h1576 : If (r1571 = 1) (K at1516 = 313) := h1576
                                    have h1577 : If (r1571 = 0) (fa1517 = 0 → ¬ K at1516 = 313) := h1577
                                    obtain rfl : v1569 = some (.int (nI r1571)) := hw1568
                                    have hP : va_P G.1 pCl (mW G h0 a (upd (upd (upd (upd (upd (upd (upd F 15 (nI fa1517)) 16 pl1518) 27 (nI nd1519)) 31 (nI wr1521)) 64 (nI at1570)) 65 (nI ne)) 66 (nI lk1520)) (updA (stR (stR X1523 13 nd2 (nI r1522)) 16 la (nI nd2)) 2 K)) _ := mW_to (F := F) (l1 := [(15, (nI fa1517)), (16, pl1518), (27, (nI nd1519)), (31, (nI wr1521)), (64, (nI at1516)), (65, (nI ne)), (66, (nI lk1520)), (15, (nI fa1517)), (64, (nI at1570))]) (l2 := [(15, (nI fa1517)), (16, pl1518), (27, (nI nd1519)), (31, (nI wr1521)), (64, (nI at1570)), (65, (nI ne)), (66, (nI lk1520))]) (V := [(nI fa1517), pl1518, (nI nd1519), (nI wr1521), (nI at1570), (nI ne), (nI lk1520), (nI fa1517), (nI at1570), (nI fa1517), pl1518, (nI nd1519), (nI wr1521), (nI at1570), (nI ne), (nI lk1520)]) rfl rfl (show (updA (updA (stR (stR X1523 13 nd2 (nI r1522)) 16 la (nI nd2)) 2 K) 2 K) = (updA (stR (stR X1523 13 nd2 (nI r1522)) 16 la (nI nd2)) 2 K) from updsA_eq2 (F := X1523) (l1 := [(13, (upd (X1523 13) nd2 (nI r1522))), (16, (upd ((stR X1523 13 nd2 (nI r1522)) 16) la (nI nd2))), (2, K), (2, K)]) (l2 := [(13, (upd (X1523 13) nd2 (nI r1522))), (16, (upd ((stR X1523 13 nd2 (nI r1522)) 16) la (nI nd2))), (2, K)]) (V := [(upd (X1523 13) nd2 (nI r1522)), (upd ((stR X1523 13 nd2 (nI r1522)) 16) la (nI nd2)), K, K, (upd (X1523 13) nd2 (nI r1522)), (upd ((stR X1523 13 nd2 (nI r1522)) 16) la (nI nd2)), K]) rfl rfl) hP
                                    have hD : va_D A (mW G h0 a (upd (upd (upd (upd (upd (upd (upd F 15 (nI fa1517)) 16 pl1518) 27 (nI nd1519)) 31 (nI wr1521)) 64 (nI at1570)) 65 (nI ne)) 66 (nI lk1520)) (updA (stR (stR X1523 13 nd2 (nI r1522)) 16 la (nI nd2)) 2 K)) := mW_D hD
                                    refine W.widen (k := 0) (n := 0) (Nat.le_of_ble_eq_true rfl) (Nat.le_of_ble_eq_true rfl) ?_
                                    refine W.eq (g2 := F0 m 78 ls [.int (nI r1571)]) rfl ?_
                                    obtain rfl : at1516 = at1570 := (by omega)
                                    refine lv_if_eq (tgt := 167) hx hb dX12_attempt_78 (by decide) (fun c1578 => ?_) (fun c1578 => (by have n1579 : ¬ (r1571 = 0) := fun h9 => c1578 ((nI_eq (a := r1571) (b := 0) (by omega) (by omega)).mpr h9); omega))
                                    refine lv_aload_n hx hb dX12_attempt_167 rfl (lv_at hl 6 rfl) ?_
                                    refine lv_sipush (v := 319) hx hb dX12_attempt_168 (by decide) ?_
                                    have hP : va_P G.1 pCl (mW G h0 a (upd (upd (upd (upd (upd (upd (upd (upd (upd F 15 (nI fa1517)) 16 pl1518) 27 (nI nd1519)) 31 (nI wr1521)) 64 (nI at1516)) 65 (nI ne)) 66 (nI lk1520)) 15 (nI fa1517)) 64 (nI at1516)) (updA (updA (stR (stR X1523 13 nd2 (nI r1522)) 16 la (nI nd2)) 2 K) 2 K)) _ := hP
                                    have hD : va_D A (mW G h0 a (upd (upd (upd (upd (upd (upd (upd (upd (upd F 15 (nI fa1517)) 16 pl1518) 27 (nI nd1519)) 31 (nI wr1521)) 64 (nI at1516)) 65 (nI ne)) 66 (nI lk1520)) 15 (nI fa1517)) 64 (nI at1516)) (updA (updA (stR (stR X1523 13 nd2 (nI r1522)) 16 la (nI nd2)) 2 K) 2 K)) := mW_D hD
                                    refine pc_V0 (G := G) (As := [.int 319]) (rest := []) hx hb hml hown hq hE hX pX0_al hP hD hS hA hl.1 (R_may l G h0 a (upd (upd (upd (upd (upd (upd (upd F 15 (nI fa1517)) 16 pl1518) 27 (nI nd1519)) 31 (nI wr1521)) 64 (nI at1516)) 65 (nI ne)) 66 (nI lk1520)) (updA (stR (stR X1523 13 nd2 (nI r1522)) 16 la (nI nd2)) 2 K) at1516 T fa1517 K 319 (by omega) (by omega) hK (by omega) (by decide) (by decide)) (gV pw_1621 pw_1622 pw_1623 pw_1523 pw_1605) hV_X12_may 0 9 rfl rfl rfl rfl (Nat.le_of_ble_eq_true rfl) dX12_attempt_171 ⟨Nat.le_of_ble_eq_true rfl, Nat.le_of_ble_eq_true rfl⟩ ⟨(by show 3 + 1 ≤ (26 * n + 43); omega), (by show 8 + (3 + 11) + 81 ≤ (2000 * n + 4300); omega)⟩ (fun v1582 u1580 H locs hw1581 hP hD hS => ?_)
                                    obtain ⟨at1583, r1584⟩ := u1580
                                    obtain ⟨hw1581, h1585, h1586, h1587, h1588, h1589, h1590⟩ := hw1581
                                    have h1585 : r1584 ≤ 1 := h1585
                                    have h1586 : fa1517 + 100 * r1584 ≤ 100 := h1586
                                    have h1587 : at1583 = at1516 + r1584 := h1587
                                    have h1588 : at1583 ≤ T := h1588
                                    have h1589 : If (r1584 = 1) (K at1516 = 319) := h1589
                                    have h1590 : If (r1584 = 0) (fa1517 = 0 → ¬ K at1516 = 319) := h1590
                                    obtain rfl : v1582 = some (.int (nI r1584)) := hw1581
                                    have hP : va_P G.1 pCl (mW G h0 a (upd (upd (upd (upd (upd (upd (upd F 15 (nI fa1517)) 16 pl1518) 27 (nI nd1519)) 31 (nI wr1521)) 64 (nI at1583)) 65 (nI ne)) 66 (nI lk1520)) (updA (stR (stR X1523 13 nd2 (nI r1522)) 16 la (nI nd2)) 2 K)) _ := mW_to (F := F) (l1 := [(15, (nI fa1517)), (16, pl1518), (27, (nI nd1519)), (31, (nI wr1521)), (64, (nI at1516)), (65, (nI ne)), (66, (nI lk1520)), (15, (nI fa1517)), (64, (nI at1583))]) (l2 := [(15, (nI fa1517)), (16, pl1518), (27, (nI nd1519)), (31, (nI wr1521)), (64, (nI at1583)), (65, (nI ne)), (66, (nI lk1520))]) (V := [(nI fa1517), pl1518, (nI nd1519), (nI wr1521), (nI at1583), (nI ne), (nI lk1520), (nI fa1517), (nI at1583), (nI fa1517), pl1518, (nI nd1519), (nI wr1521), (nI at1583), (nI ne), (nI lk1520)]) rfl rfl (show (updA (updA (stR (stR X1523 13 nd2 (nI r1522)) 16 la (nI nd2)) 2 K) 2 K) = (updA (stR (stR X1523 13 nd2 (nI r1522)) 16 la (nI nd2)) 2 K) from updsA_eq2 (F := X1523) (l1 := [(13, (upd (X1523 13) nd2 (nI r1522))), (16, (upd ((stR X1523 13 nd2 (nI r1522)) 16) la (nI nd2))), (2, K), (2, K)]) (l2 := [(13, (upd (X1523 13) nd2 (nI r1522))), (16, (upd ((stR X1523 13 nd2 (nI r1522)) 16) la (nI nd2))), (2, K)]) (V := [(upd (X1523 13) nd2 (nI r1522)), (upd ((stR X1523 13 nd2 (nI r1522)) 16) la (nI nd2)), K, K, (upd (X1523 13) nd2 (nI r1522)), (upd ((stR X1523 13 nd2 (nI r1522)) 16) la (nI nd2)), K]) rfl rfl) hP
                                    have hD : va_D A (mW G h0 a (upd (upd (upd (upd (upd (upd (upd F 15 (nI fa1517)) 16 pl1518) 27 (nI nd1519)) 31 (nI wr1521)) 64 (nI at1583)) 65 (nI ne)) 66 (nI lk1520)) (updA (stR (stR X1523 13 nd2 (nI r1522)) 16 la (nI nd2)) 2 K)) := mW_D hD
                                    refine W.widen (k := 0) (n := 0) (Nat.le_of_ble_eq_true rfl) (Nat.le_of_ble_eq_true rfl) ?_
                                    refine W.eq (g2 := F0 m 174 ls [.int (nI r1584)]) rfl ?_
                                    obtain rfl : at1516 = at1583 := (by omega)
                                    refine lv_if_eq (tgt := 187) hx hb dX12_attempt_174 (by decide) (fun c1591 => ?_) (fun c1591 => (by have n1592 : ¬ (r1584 = 0) := fun h9 => c1591 ((nI_eq (a := r1584) (b := 0) (by omega) (by omega)).mpr h9); omega))
                                    refine lv_iload_n hx hb dX12_attempt_187 rfl (lv_at hl 5 rfl) ?_
                                    have hz1593 : at0 ≤ at1516 := (by omega)
                                    have hz1594 : at1516 ≤ T := (by omega)
                                    have hz1595 : fa1517 ≤ 100 := (by omega)
                                    have hz1596 : nd ≤ nd1519 := (by omega)
                                    have hz1597 : nd1519 + 2 * at0 ≤ nd + 2 * at1516 + 100000 * fa1517 := (by omega)
                                    have hz1598 : nd1519 + 2 * at0 ≤ nd + 2 * at1516 + (60 * (21 - ne) + 40) := (by omega)
                                    have hz1599 : wr ≤ wr1521 := (by omega)
                                    have hz1600 : wr1521 + at0 ≤ wr + at1516 := (by omega)
                                    have hz1601 : lk ≤ lk1520 := (by omega)
                                    have hz1602 : lk1520 ≤ 60 + 100 * fa1517 := (by omega)
                                    have hz1603 : at0 + 1 ≤ at1516 + fa1517 := (by omega)
                                    have hz1604 : nd ≤ nd1519 := (by omega)
                                    have hz1605 : Kp B (stR (stR X1523 13 nd2 (nI r1522)) 16 la (nI nd2)) wr1521 T := hkp1566
                                    have hz1606 : If (fa1517 = 0) (Low B (stR (stR X1523 13 nd2 (nI r1522)) 16 la (nI nd2)) nd wr ∧ Frs K T wr1521 (stR (stR X1523 13 nd2 (nI r1522)) 16 la (nI nd2)) nd nd1519 20000 [(nd, (280 + 4 * (21 - ne)))] ∧ kcl 3 ((stR (stR X1523 13 nd2 (nI r1522)) 16 la (nI nd2)) 9 nd) = true) := (fun e => absurd e (by omega))
                                    have hP : va_P G.1 pCl (mW G h0 a (upd (upd (upd (upd (upd (upd (upd F 15 (nI fa1517)) 16 pl1518) 27 (nI nd1519)) 31 (nI wr1521)) 64 (nI at1516)) 65 (nI ne)) 66 (nI lk1520)) (updA (stR (stR X1523 13 nd2 (nI r1522)) 16 la (nI nd2)) 2 K)) _ := hP
                                    have hD : va_D A (mW G h0 a (upd (upd (upd (upd (upd (upd (upd F 15 (nI fa1517)) 16 pl1518) 27 (nI nd1519)) 31 (nI wr1521)) 64 (nI at1516)) 65 (nI ne)) 66 (nI lk1520)) (updA (stR (stR X1523 13 nd2 (nI r1522)) 16 la (nI nd2)) 2 K)) := mW_D hD
                                    exact W.iret (v := (nI nd)) hx hb hr (fun t9 ht9 hW9 => ⟨⟨_, (at1516, fa1517, pl1518, nd1519, lk1520, wr1521, nd, (stR (stR X1523 13 nd2 (nI r1522)) 16 la (nI nd2))), rfl, ⟨rfl, hz1593, hz1594, hz1595, hz1596, hz1597, hz1598, hz1599, hz1600, hz1601, hz1602, hz1603, hz1604, hz1605, hz1606⟩, by rw [ht9]; exact hP, hD⟩, hS.F ht9⟩) hS.2.2 dX12_attempt_188
                                · have e1501 := e1501
                                  refine lv_aload_n hx hb dX12_attempt_112 rfl (lv_at hl 5 rfl) ?_
                                  refine lv_bipush (v := 44) hx hb dX12_attempt_113 (by decide) ?_
                                  refine lv_iload_n hx hb dX12_attempt_115 rfl (lv_at hl 2 rfl) ?_
                                  refine lv_iload hx hb dX12_attempt_116 (lv_at hl 0 rfl) ?_
                                  refine lv_iload hx hb dX12_attempt_118 (lv_at hl 1 rfl) ?_
                                  refine lv_iconst (v := (-1)) hx hb dX12_attempt_120 (by decide) ?_
                                  have hP : va_P G.1 pCl (mW G h0 a (upd (upd (upd (upd (upd (upd (upd (upd F 15 (nI fa1491)) 16 pl1492) 27 (nI nd2)) 31 (nI wr2)) 64 (nI at1490)) 65 (nI ne)) 66 (nI lk2)) 27 (nI nd2)) (updA X2 2 K)) _ := mW_to (F := F) (l1 := [(15, (nI fa1491)), (16, pl1492), (27, (nI nd2)), (31, (nI wr2)), (64, (nI at1490)), (65, (nI ne)), (66, (nI lk2))]) (l2 := [(15, (nI fa1491)), (16, pl1492), (27, (nI nd2)), (31, (nI wr2)), (64, (nI at1490)), (65, (nI ne)), (66, (nI lk2)), (27, (nI nd2))]) (V := [(nI fa1491), pl1492, (nI nd2), (nI wr2), (nI at1490), (nI ne), (nI lk2), (nI fa1491), pl1492, (nI nd2), (nI wr2), (nI at1490), (nI ne), (nI lk2), (nI nd2)]) rfl rfl rfl hP
                                  have hD : va_D A (mW G h0 a (upd (upd (upd (upd (upd (upd (upd (upd F 15 (nI fa1491)) 16 pl1492) 27 (nI nd2)) 31 (nI wr2)) 64 (nI at1490)) 65 (nI ne)) 66 (nI lk2)) 27 (nI nd2)) (updA X2 2 K)) := mW_D hD
                                  refine pc_V0 (G := G) (As := [.int 44, .int (nI (at1428 - 1)), .int (nI at1460), .int (nI at1445), .int (-1)]) (rest := []) hx hb hml hown hq hE hX pX0_al hP hD hS hA hl.1 (R_nodeB l G h0 a (upd (upd (upd (upd (upd (upd (upd F 15 (nI fa1491)) 16 pl1492) 27 (nI nd2)) 31 (nI wr2)) 64 (nI at1490)) 65 (nI ne)) 66 (nI lk2)) X2 44 (nI (at1428 - 1)) (nI at1460) (nI at1445) (-1) nd2 K (by omega)) (gV pw_1650 pw_1651 pw_1652 pw_1523 pw_1589) hV_X12_node 0 9 rfl rfl rfl rfl (Nat.le_of_ble_eq_true rfl) dX12_attempt_121 ⟨Nat.le_of_ble_eq_true rfl, Nat.le_of_ble_eq_true rfl⟩ ⟨(by show 2 + 1 ≤ (26 * n + 43); omega), (by show 8 + (7 + 11) + 60 ≤ (2000 * n + 4300); omega)⟩ (fun v1609 u1607 H locs hw1608 hP hD hS => ?_)
                                  obtain ⟨X1610, rfl⟩ : ∃ z, z = u1607 := ⟨_, rfl⟩
                                  obtain ⟨hw1608, h1611⟩ := hw1608
                                  have h1611 : NewN X2 X1610 nd2 44 (nI (at1428 - 1)) (nI at1460) (nI at1445) (-1) := h1611
                                  obtain rfl : v1609 = some (.int (nI nd2)) := hw1608
                                  have hP : va_P G.1 pCl (mW G h0 a (upd (upd (upd (upd (upd (upd (upd F 15 (nI fa1491)) 16 pl1492) 27 (nI (nd2 + 1))) 31 (nI wr2)) 64 (nI at1490)) 65 (nI ne)) 66 (nI lk2)) (updA X1610 2 K)) _ := mW_to (F := F) (l1 := [(15, (nI fa1491)), (16, pl1492), (27, (nI nd2)), (31, (nI wr2)), (64, (nI at1490)), (65, (nI ne)), (66, (nI lk2)), (27, (nI (nd2 + 1)))]) (l2 := [(15, (nI fa1491)), (16, pl1492), (27, (nI (nd2 + 1))), (31, (nI wr2)), (64, (nI at1490)), (65, (nI ne)), (66, (nI lk2))]) (V := [(nI fa1491), pl1492, (nI (nd2 + 1)), (nI wr2), (nI at1490), (nI ne), (nI lk2), (nI (nd2 + 1)), (nI fa1491), pl1492, (nI (nd2 + 1)), (nI wr2), (nI at1490), (nI ne), (nI lk2)]) rfl rfl rfl hP
                                  have hD : va_D A (mW G h0 a (upd (upd (upd (upd (upd (upd (upd F 15 (nI fa1491)) 16 pl1492) 27 (nI (nd2 + 1))) 31 (nI wr2)) 64 (nI at1490)) 65 (nI ne)) 66 (nI lk2)) (updA X1610 2 K)) := mW_D hD
                                  refine W.widen (k := 0) (n := 0) (Nat.le_of_ble_eq_true rfl) (Nat.le_of_ble_eq_true rfl) ?_
                                  refine W.eq (g2 := F0 m 124 ls [.int (nI nd2)]) rfl ?_
                                  have hkp1612 : Kp B X1610 wr2 T := (Kp.new hkp2 h1611)
                                  refine lv_istore (lv' := [(6, .int (nI nd2)), (5, .int (nI at1460)), (4, .int (nI at1445)), (3, .int (nI (at1428 - 1))), (2, .int (nI la)), (1, .int (nI nd)), (0, .ref h0)]) hx hb dX12_attempt_124 hl (by decide) rfl (fun ls hl => ?_)
                                  refine lv_aload_n hx hb dX12_attempt_126 rfl (lv_at hl 6 rfl) ?_
                                  refine r_get (v := .ref (a 13)) hx hb hown hq hE hP 21 50 tFX12_21 (by decide) pw_1443 rfl dX12_attempt_127 ?_
                                  refine lv_iload hx hb dX12_attempt_130 (lv_at hl 0 rfl) ?_
                                  refine lv_aload_n hx hb dX12_attempt_132 rfl (lv_at hl 6 rfl) ?_
                                  have hP : va_P G.1 pCl (mW G h0 a (upd (upd (upd (upd (upd (upd (upd (upd (upd (upd (upd F 15 (nI fa1491)) 16 pl1492) 27 (nI (nd2 + 1))) 31 (nI wr2)) 64 (nI at1490)) 65 (nI ne)) 66 (nI lk2)) 15 (nI fa1491)) 27 (nI (nd2 + 1))) 31 (nI wr2)) 64 (nI at1490)) (updA X1610 2 K)) _ := mW_to (F := F) (l1 := [(15, (nI fa1491)), (16, pl1492), (27, (nI (nd2 + 1))), (31, (nI wr2)), (64, (nI at1490)), (65, (nI ne)), (66, (nI lk2))]) (l2 := [(15, (nI fa1491)), (16, pl1492), (27, (nI (nd2 + 1))), (31, (nI wr2)), (64, (nI at1490)), (65, (nI ne)), (66, (nI lk2)), (15, (nI fa1491)), (27, (nI (nd2 + 1))), (31, (nI wr2)), (64, (nI at1490))]) (V := [(nI fa1491), pl1492, (nI (nd2 + 1)), (nI wr2), (nI at1490), (nI ne), (nI lk2), (nI fa1491), pl1492, (nI (nd2 + 1)), (nI wr2), (nI at1490), (nI ne), (nI lk2), (nI fa1491), (nI (nd2 + 1)), (nI wr2), (nI at1490)]) rfl rfl rfl hP
                                  have hD : va_D A (mW G h0 a (upd (upd (upd (upd (upd (upd (upd (upd (upd (upd (upd F 15 (nI fa1491)) 16 pl1492) 27 (nI (nd2 + 1))) 31 (nI wr2)) 64 (nI at1490)) 65 (nI ne)) 66 (nI lk2)) 15 (nI fa1491)) 27 (nI (nd2 + 1))) 31 (nI wr2)) 64 (nI at1490)) (updA X1610 2 K)) := mW_D hD
                                  refine pc_V0 (G := G) (As := []) (rest := [.int (nI nd2), .ref (a 13)]) hx hb hml hown hq hE hX pX0_al hP hD hS hA hl.1 (RF_block l G h0 a (upd (upd (upd (upd (upd (upd (upd F 15 (nI fa1491)) 16 pl1492) 27 (nI (nd2 + 1))) 31 (nI wr2)) 64 (nI at1490)) 65 (nI ne)) 66 (nI lk2)) X1610 at1490 T fa1491 (nd2 + 1) wr2 K (by omega) (by omega) hK (by omega) e1501 (by omega) (by omega) (hkp1612).2) (gV pw_1685 pw_1686 pw_1687 pw_1523 pw_1688) hV_X12_block 0 9 rfl rfl rfl rfl (Nat.le_of_ble_eq_true rfl) dX12_attempt_133 ⟨Nat.le_of_ble_eq_true rfl, Nat.le_of_ble_eq_true rfl⟩ ⟨(by show 5 + 1 ≤ (26 * n + 43); omega), (by show 8 + (4 + 11) + 124 ≤ (2000 * n + 4300); omega)⟩ (fun v1615 u1613 H locs hw1614 hP hD hS => ?_)
                                  obtain ⟨pl1616, wr1617, X1618⟩ := u1613
                                  obtain ⟨hw1614, h1619, h1620, h1621⟩ := hw1614
                                  have h1619 : wr2 ≤ wr1617 := h1619
                                  have h1620 : wr1617 ≤ wr2 := h1620
                                  have h1621 : Kp X1610 X1618 wr1617 T := h1621
                                  obtain rfl : v1615 = some (.int (nI (nd2 + 1))) := hw1614
                                  have hP : va_P G.1 pCl (mW G h0 a (upd (upd (upd (upd (upd (upd (upd F 15 (nI fa1491)) 16 pl1616) 27 (nI ((nd2 + 1) + 1))) 31 (nI wr1617)) 64 (nI at1490)) 65 (nI ne)) 66 (nI lk2)) (updA X1618 2 K)) _ := mW_to (F := F) (l1 := [(15, (nI fa1491)), (16, pl1492), (27, (nI (nd2 + 1))), (31, (nI wr2)), (64, (nI at1490)), (65, (nI ne)), (66, (nI lk2)), (15, (nI fa1491)), (16, pl1616), (27, (nI ((nd2 + 1) + 1))), (31, (nI wr1617)), (64, (nI at1490))]) (l2 := [(15, (nI fa1491)), (16, pl1616), (27, (nI ((nd2 + 1) + 1))), (31, (nI wr1617)), (64, (nI at1490)), (65, (nI ne)), (66, (nI lk2))]) (V := [(nI fa1491), pl1616, (nI ((nd2 + 1) + 1)), (nI wr1617), (nI at1490), (nI ne), (nI lk2), (nI fa1491), pl1616, (nI ((nd2 + 1) + 1)), (nI wr1617), (nI at1490), (nI fa1491), pl1616, (nI ((nd2 + 1) + 1)), (nI wr1617), (nI at1490), (nI ne), (nI lk2)]) rfl rfl rfl hP
                                  have hD : va_D A (mW G h0 a (upd (upd (upd (upd (upd (upd (upd F 15 (nI fa1491)) 16 pl1616) 27 (nI ((nd2 + 1) + 1))) 31 (nI wr1617)) 64 (nI at1490)) 65 (nI ne)) 66 (nI lk2)) (updA X1618 2 K)) := mW_D hD
                                  refine W.widen (k := 0) (n := 0) (Nat.le_of_ble_eq_true rfl) (Nat.le_of_ble_eq_true rfl) ?_
                                  refine W.eq (g2 := F0 m 136 ls [.int (nI (nd2 + 1)), .int (nI nd2), .ref (a 13)]) rfl ?_
                                  have hkp1622 : Kp B X1618 wr1617 T := (Kp.trans hkp1612 h1621)
                                  refine r_sti (f := (X1618 13)) (j := nd2) hx hb hE hP hD hS 13 (ma_13 G a _) rfl (mas_13 G a _) (by omega) (by decide) dX12_attempt_136 (fun H locs hP hD hS => ?_)
                                  have hP : va_P G.1 pCl (mW G h0 a (upd (upd (upd (upd (upd (upd (upd F 15 (nI fa1491)) 16 pl1616) 27 (nI ((nd2 + 1) + 1))) 31 (nI wr1617)) 64 (nI at1490)) 65 (nI ne)) 66 (nI lk2)) (updA (stR X1618 13 nd2 (nI (nd2 + 1))) 2 K)) _ := mW_to (F := F) (l1 := [(15, (nI fa1491)), (16, pl1616), (27, (nI ((nd2 + 1) + 1))), (31, (nI wr1617)), (64, (nI at1490)), (65, (nI ne)), (66, (nI lk2))]) (l2 := [(15, (nI fa1491)), (16, pl1616), (27, (nI ((nd2 + 1) + 1))), (31, (nI wr1617)), (64, (nI at1490)), (65, (nI ne)), (66, (nI lk2))]) (V := [(nI fa1491), pl1616, (nI ((nd2 + 1) + 1)), (nI wr1617), (nI at1490), (nI ne), (nI lk2), (nI fa1491), pl1616, (nI ((nd2 + 1) + 1)), (nI wr1617), (nI at1490), (nI ne), (nI lk2)]) rfl rfl (show (updA (updA X1618 2 K) 13 (upd (X1618 13) nd2 (nI (nd2 + 1)))) = (updA (stR X1618 13 nd2 (nI (nd2 + 1))) 2 K) from updsA_eq2 (F := X1618) (l1 := [(2, K), (13, (upd (X1618 13) nd2 (nI (nd2 + 1))))]) (l2 := [(13, (upd (X1618 13) nd2 (nI (nd2 + 1)))), (2, K)]) (V := [K, (upd (X1618 13) nd2 (nI (nd2 + 1))), (upd (X1618 13) nd2 (nI (nd2 + 1))), K]) rfl rfl) hP
                                  have hD : va_D A (mW G h0 a (upd (upd (upd (upd (upd (upd (upd F 15 (nI fa1491)) 16 pl1616) 27 (nI ((nd2 + 1) + 1))) 31 (nI wr1617)) 64 (nI at1490)) 65 (nI ne)) 66 (nI lk2)) (updA (stR X1618 13 nd2 (nI (nd2 + 1))) 2 K)) := mW_D hD
                                  have hkp1623 : Kp B (stR X1618 13 nd2 (nI (nd2 + 1))) wr1617 T := (Kp.row hkp1622 (by omega))
                                  refine lv_iload_n hx hb dX12_attempt_137 rfl (lv_at hl 4 rfl) ?_
                                  refine lv_iconst (v := (-1)) hx hb dX12_attempt_138 (by decide) ?_
                                  refine lv_icmp_ne (tgt := 153) hx hb dX12_attempt_139 (by decide) (fun c1624 => ?_) (fun c1624 => absurd c1624 (nI_m1 (by omega)))
                                  refine lv_aload_n hx hb dX12_attempt_153 rfl (lv_at hl 6 rfl) ?_
                                  refine r_get (v := .ref (a 16)) hx hb hown hq hE hP 24 59 tFX12_24 (by decide) pw_1446 rfl dX12_attempt_154 ?_
                                  refine lv_iload_n hx hb dX12_attempt_157 rfl (lv_at hl 4 rfl) ?_
                                  refine lv_iload hx hb dX12_attempt_158 (lv_at hl 0 rfl) ?_
                                  refine r_sti (f := ((stR X1618 13 nd2 (nI (nd2 + 1))) 16)) (j := la) hx hb hE hP hD hS 16 (ma_16 G a _) rfl (mas_16 G a _) (by omega) (by decide) dX12_attempt_160 (fun H locs hP hD hS => ?_)
                                  have hP : va_P G.1 pCl (mW G h0 a (upd (upd (upd (upd (upd (upd (upd F 15 (nI fa1491)) 16 pl1616) 27 (nI ((nd2 + 1) + 1))) 31 (nI wr1617)) 64 (nI at1490)) 65 (nI ne)) 66 (nI lk2)) (updA (stR (stR X1618 13 nd2 (nI (nd2 + 1))) 16 la (nI nd2)) 2 K)) _ := mW_to (F := F) (l1 := [(15, (nI fa1491)), (16, pl1616), (27, (nI ((nd2 + 1) + 1))), (31, (nI wr1617)), (64, (nI at1490)), (65, (nI ne)), (66, (nI lk2))]) (l2 := [(15, (nI fa1491)), (16, pl1616), (27, (nI ((nd2 + 1) + 1))), (31, (nI wr1617)), (64, (nI at1490)), (65, (nI ne)), (66, (nI lk2))]) (V := [(nI fa1491), pl1616, (nI ((nd2 + 1) + 1)), (nI wr1617), (nI at1490), (nI ne), (nI lk2), (nI fa1491), pl1616, (nI ((nd2 + 1) + 1)), (nI wr1617), (nI at1490), (nI ne), (nI lk2)]) rfl rfl (show (updA (updA (stR X1618 13 nd2 (nI (nd2 + 1))) 2 K) 16 (upd ((stR X1618 13 nd2 (nI (nd2 + 1))) 16) la (nI nd2))) = (updA (stR (stR X1618 13 nd2 (nI (nd2 + 1))) 16 la (nI nd2)) 2 K) from updsA_eq2 (F := X1618) (l1 := [(13, (upd (X1618 13) nd2 (nI (nd2 + 1)))), (2, K), (16, (upd ((stR X1618 13 nd2 (nI (nd2 + 1))) 16) la (nI nd2)))]) (l2 := [(13, (upd (X1618 13) nd2 (nI (nd2 + 1)))), (16, (upd ((stR X1618 13 nd2 (nI (nd2 + 1))) 16) la (nI nd2))), (2, K)]) (V := [(upd (X1618 13) nd2 (nI (nd2 + 1))), K, (upd ((stR X1618 13 nd2 (nI (nd2 + 1))) 16) la (nI nd2)), (upd (X1618 13) nd2 (nI (nd2 + 1))), (upd ((stR X1618 13 nd2 (nI (nd2 + 1))) 16) la (nI nd2)), K]) rfl rfl) hP
                                  have hD : va_D A (mW G h0 a (upd (upd (upd (upd (upd (upd (upd F 15 (nI fa1491)) 16 pl1616) 27 (nI ((nd2 + 1) + 1))) 31 (nI wr1617)) 64 (nI at1490)) 65 (nI ne)) 66 (nI lk2)) (updA (stR (stR X1618 13 nd2 (nI (nd2 + 1))) 16 la (nI nd2)) 2 K)) := mW_D hD
                                  have hkp1625 : Kp B (stR (stR X1618 13 nd2 (nI (nd2 + 1))) 16 la (nI nd2)) wr1617 T := (Kp.row hkp1623 (by omega))
                                  refine lv_iload hx hb dX12_attempt_161 (lv_at hl 0 rfl) ?_
                                  refine lv_istore_n (lv' := [(2, .int (nI nd2)), (6, .int (nI nd2)), (5, .int (nI at1460)), (4, .int (nI at1445)), (3, .int (nI (at1428 - 1))), (1, .int (nI nd)), (0, .ref h0)]) hx hb dX12_attempt_163 rfl hl (by decide) rfl (fun ls hl => ?_)
                                  refine lv_goto (tgt := 71) hx hb dX12_attempt_164 (by decide) ?_
                                  refine lv_aload_n hx hb dX12_attempt_71 rfl (lv_at hl 6 rfl) ?_
                                  refine lv_sipush (v := 313) hx hb dX12_attempt_72 (by decide) ?_
                                  have hP : va_P G.1 pCl (mW G h0 a (upd (upd (upd (upd (upd (upd (upd (upd (upd F 15 (nI fa1491)) 16 pl1616) 27 (nI ((nd2 + 1) + 1))) 31 (nI wr1617)) 64 (nI at1490)) 65 (nI ne)) 66 (nI lk2)) 15 (nI fa1491)) 64 (nI at1490)) (updA (updA (stR (stR X1618 13 nd2 (nI (nd2 + 1))) 16 la (nI nd2)) 2 K) 2 K)) _ := mW_to (F := F) (l1 := [(15, (nI fa1491)), (16, pl1616), (27, (nI ((nd2 + 1) + 1))), (31, (nI wr1617)), (64, (nI at1490)), (65, (nI ne)), (66, (nI lk2))]) (l2 := [(15, (nI fa1491)), (16, pl1616), (27, (nI ((nd2 + 1) + 1))), (31, (nI wr1617)), (64, (nI at1490)), (65, (nI ne)), (66, (nI lk2)), (15, (nI fa1491)), (64, (nI at1490))]) (V := [(nI fa1491), pl1616, (nI ((nd2 + 1) + 1)), (nI wr1617), (nI at1490), (nI ne), (nI lk2), (nI fa1491), pl1616, (nI ((nd2 + 1) + 1)), (nI wr1617), (nI at1490), (nI ne), (nI lk2), (nI fa1491), (nI at1490)]) rfl rfl (show (updA (stR (stR X1618 13 nd2 (nI (nd2 + 1))) 16 la (nI nd2)) 2 K) = (updA (updA (stR (stR X1618 13 nd2 (nI (nd2 + 1))) 16 la (nI nd2)) 2 K) 2 K) from updsA_eq2 (F := X1618) (l1 := [(13, (upd (X1618 13) nd2 (nI (nd2 + 1)))), (16, (upd ((stR X1618 13 nd2 (nI (nd2 + 1))) 16) la (nI nd2))), (2, K)]) (l2 := [(13, (upd (X1618 13) nd2 (nI (nd2 + 1)))), (16, (upd ((stR X1618 13 nd2 (nI (nd2 + 1))) 16) la (nI nd2))), (2, K), (2, K)]) (V := [(upd (X1618 13) nd2 (nI (nd2 + 1))), (upd ((stR X1618 13 nd2 (nI (nd2 + 1))) 16) la (nI nd2)), K, (upd (X1618 13) nd2 (nI (nd2 + 1))), (upd ((stR X1618 13 nd2 (nI (nd2 + 1))) 16) la (nI nd2)), K, K]) rfl rfl) hP
                                  have hD : va_D A (mW G h0 a (upd (upd (upd (upd (upd (upd (upd (upd (upd F 15 (nI fa1491)) 16 pl1616) 27 (nI ((nd2 + 1) + 1))) 31 (nI wr1617)) 64 (nI at1490)) 65 (nI ne)) 66 (nI lk2)) 15 (nI fa1491)) 64 (nI at1490)) (updA (updA (stR (stR X1618 13 nd2 (nI (nd2 + 1))) 16 la (nI nd2)) 2 K) 2 K)) := mW_D hD
                                  refine pc_V0 (G := G) (As := [.int 313]) (rest := []) hx hb hml hown hq hE hX pX0_al hP hD hS hA hl.1 (R_may l G h0 a (upd (upd (upd (upd (upd (upd (upd F 15 (nI fa1491)) 16 pl1616) 27 (nI ((nd2 + 1) + 1))) 31 (nI wr1617)) 64 (nI at1490)) 65 (nI ne)) 66 (nI lk2)) (updA (stR (stR X1618 13 nd2 (nI (nd2 + 1))) 16 la (nI nd2)) 2 K) at1490 T fa1491 K 313 (by omega) (by omega) hK (by omega) (by decide) (by decide)) (gV pw_1621 pw_1622 pw_1623 pw_1523 pw_1605) hV_X12_may 0 9 rfl rfl rfl rfl (Nat.le_of_ble_eq_true rfl) dX12_attempt_75 ⟨Nat.le_of_ble_eq_true rfl, Nat.le_of_ble_eq_true rfl⟩ ⟨(by show 3 + 1 ≤ (26 * n + 43); omega), (by show 8 + (3 + 11) + 81 ≤ (2000 * n + 4300); omega)⟩ (fun v1628 u1626 H locs hw1627 hP hD hS => ?_)
                                  obtain ⟨at1629, r1630⟩ := u1626
                                  obtain ⟨hw1627, h1631, h1632, h1633, h1634, h1635, h1636⟩ := hw1627
                                  have h1631 : r1630 ≤ 1 := h1631
                                  have h1632 : fa1491 + 100 * r1630 ≤ 100 := h1632
                                  have h1633 : at1629 = at1490 + r1630 := h1633
                                  have h1634 : at1629 ≤ T := h1634
                                  have h1635 : If (r1630 = 1) (K at1490 = 313) := h1635
                                  have h1636 : If (r1630 = 0) (fa1491 = 0 → ¬ K at1490 = 313) := h1636
                                  obtain rfl : v1628 = some (.int (nI r1630)) := hw1627
                                  have hP : va_P G.1 pCl (mW G h0 a (upd (upd (upd (upd (upd (upd (upd F 15 (nI fa1491)) 16 pl1616) 27 (nI ((nd2 + 1) + 1))) 31 (nI wr1617)) 64 (nI at1629)) 65 (nI ne)) 66 (nI lk2)) (updA (stR (stR X1618 13 nd2 (nI (nd2 + 1))) 16 la (nI nd2)) 2 K)) _ := mW_to (F := F) (l1 := [(15, (nI fa1491)), (16, pl1616), (27, (nI ((nd2 + 1) + 1))), (31, (nI wr1617)), (64, (nI at1490)), (65, (nI ne)), (66, (nI lk2)), (15, (nI fa1491)), (64, (nI at1629))]) (l2 := [(15, (nI fa1491)), (16, pl1616), (27, (nI ((nd2 + 1) + 1))), (31, (nI wr1617)), (64, (nI at1629)), (65, (nI ne)), (66, (nI lk2))]) (V := [(nI fa1491), pl1616, (nI ((nd2 + 1) + 1)), (nI wr1617), (nI at1629), (nI ne), (nI lk2), (nI fa1491), (nI at1629), (nI fa1491), pl1616, (nI ((nd2 + 1) + 1)), (nI wr1617), (nI at1629), (nI ne), (nI lk2)]) rfl rfl (show (updA (updA (stR (stR X1618 13 nd2 (nI (nd2 + 1))) 16 la (nI nd2)) 2 K) 2 K) = (updA (stR (stR X1618 13 nd2 (nI (nd2 + 1))) 16 la (nI nd2)) 2 K) from updsA_eq2 (F := X1618) (l1 := [(13, (upd (X1618 13) nd2 (nI (nd2 + 1)))), (16, (upd ((stR X1618 13 nd2 (nI (nd2 + 1))) 16) la (nI nd2))), (2, K), (2, K)]) (l2 := [(13, (upd (X1618 13) nd2 (nI (nd2 + 1)))), (16, (upd ((stR X1618 13 nd2 (nI (nd2 + 1))) 16) la (nI nd2))), (2, K)]) (V := [(upd (X1618 13) nd2 (nI (nd2 + 1))), (upd ((stR X1618 13 nd2 (nI (nd2 + 1))) 16) la (nI nd2)), K, K, (upd (X1618 13) nd2 (nI (nd2 + 1))), (upd ((stR X1618 13 nd2 (nI (nd2 + 1))) 16) la (nI nd2)), K]) rfl rfl) hP
                                  have hD : va_D A (mW G h0 a (upd (upd (upd (upd (upd (upd (upd F 15 (nI fa1491)) 16 pl1616) 27 (nI ((nd2 + 1) + 1))) 31 (nI wr1617)) 64 (nI at1629)) 65 (nI ne)) 66 (nI lk2)) (updA (stR (stR X1618 13 nd2 (nI (nd2 + 1))) 16 la (nI nd2)) 2 K)) := mW_D hD
                                  refine W.widen (k := 0) (n := 0) (Nat.le_of_ble_eq_true rfl) (Nat.le_of_ble_eq_true rfl) ?_
                                  refine W.eq (g2 := F0 m 78 ls [.int (nI r1630)]) rfl ?_
                                  obtain rfl : at1490 = at1629 := (by omega)
                                  refine lv_if_eq (tgt := 167) hx hb dX12_attempt_78 (by decide) (fun c1637 => ?_) (fun c1637 => (by have n1638 : ¬ (r1630 = 0) := fun h9 => c1637 ((nI_eq (a := r1630) (b := 0) (by omega) (by omega)).mpr h9); omega))
                                  refine lv_aload_n hx hb dX12_attempt_167 rfl (lv_at hl 6 rfl) ?_
                                  refine lv_sipush (v := 319) hx hb dX12_attempt_168 (by decide) ?_
                                  have hP : va_P G.1 pCl (mW G h0 a (upd (upd (upd (upd (upd (upd (upd (upd (upd F 15 (nI fa1491)) 16 pl1616) 27 (nI ((nd2 + 1) + 1))) 31 (nI wr1617)) 64 (nI at1490)) 65 (nI ne)) 66 (nI lk2)) 15 (nI fa1491)) 64 (nI at1490)) (updA (updA (stR (stR X1618 13 nd2 (nI (nd2 + 1))) 16 la (nI nd2)) 2 K) 2 K)) _ := hP
                                  have hD : va_D A (mW G h0 a (upd (upd (upd (upd (upd (upd (upd (upd (upd F 15 (nI fa1491)) 16 pl1616) 27 (nI ((nd2 + 1) + 1))) 31 (nI wr1617)) 64 (nI at1490)) 65 (nI ne)) 66 (nI lk2)) 15 (nI fa1491)) 64 (nI at1490)) (updA (updA (stR (stR X1618 13 nd2 (nI (nd2 + 1))) 16 la (nI nd2)) 2 K) 2 K)) := mW_D hD
                                  refine pc_V0 (G := G) (As := [.int 319]) (rest := []) hx hb hml hown hq hE hX pX0_al hP hD hS hA hl.1 (R_may l G h0 a (upd (upd (upd (upd (upd (upd (upd F 15 (nI fa1491)) 16 pl1616) 27 (nI ((nd2 + 1) + 1))) 31 (nI wr1617)) 64 (nI at1490)) 65 (nI ne)) 66 (nI lk2)) (updA (stR (stR X1618 13 nd2 (nI (nd2 + 1))) 16 la (nI nd2)) 2 K) at1490 T fa1491 K 319 (by omega) (by omega) hK (by omega) (by decide) (by decide)) (gV pw_1621 pw_1622 pw_1623 pw_1523 pw_1605) hV_X12_may 0 9 rfl rfl rfl rfl (Nat.le_of_ble_eq_true rfl) dX12_attempt_171 ⟨Nat.le_of_ble_eq_true rfl, Nat.le_of_ble_eq_true rfl⟩ ⟨(by show 3 + 1 ≤ (26 * n + 43); omega), (by show 8 + (3 + 11) + 81 ≤ (2000 * n + 4300); omega)⟩ (fun v1641 u1639 H locs hw1640 hP hD hS => ?_)
                                  obtain ⟨at1642, r1643⟩ := u1639
                                  obtain ⟨hw1640, h1644, h1645, h1646, h1647, h1648, h1649⟩ := hw1640
                                  have h1644 : r1643 ≤ 1 := h1644
                                  have h1645 : fa1491 + 100 * r1643 ≤ 100 := h1645
                                  have h1646 : at1642 = at1490 + r1643 := h1646
                                  have h1647 : at1642 ≤ T := h1647
                                  have h1648 : If (r1643 = 1) (K at1490 = 319) := h1648
                                  have h1649 : If (r1643 = 0) (fa1491 = 0 → ¬ K at1490 = 319) := h1649
                                  obtain rfl : v1641 = some (.int (nI r1643)) := hw1640
                                  have hP : va_P G.1 pCl (mW G h0 a (upd (upd (upd (upd (upd (upd (upd F 15 (nI fa1491)) 16 pl1616) 27 (nI ((nd2 + 1) + 1))) 31 (nI wr1617)) 64 (nI at1642)) 65 (nI ne)) 66 (nI lk2)) (updA (stR (stR X1618 13 nd2 (nI (nd2 + 1))) 16 la (nI nd2)) 2 K)) _ := mW_to (F := F) (l1 := [(15, (nI fa1491)), (16, pl1616), (27, (nI ((nd2 + 1) + 1))), (31, (nI wr1617)), (64, (nI at1490)), (65, (nI ne)), (66, (nI lk2)), (15, (nI fa1491)), (64, (nI at1642))]) (l2 := [(15, (nI fa1491)), (16, pl1616), (27, (nI ((nd2 + 1) + 1))), (31, (nI wr1617)), (64, (nI at1642)), (65, (nI ne)), (66, (nI lk2))]) (V := [(nI fa1491), pl1616, (nI ((nd2 + 1) + 1)), (nI wr1617), (nI at1642), (nI ne), (nI lk2), (nI fa1491), (nI at1642), (nI fa1491), pl1616, (nI ((nd2 + 1) + 1)), (nI wr1617), (nI at1642), (nI ne), (nI lk2)]) rfl rfl (show (updA (updA (stR (stR X1618 13 nd2 (nI (nd2 + 1))) 16 la (nI nd2)) 2 K) 2 K) = (updA (stR (stR X1618 13 nd2 (nI (nd2 + 1))) 16 la (nI nd2)) 2 K) from updsA_eq2 (F := X1618) (l1 := [(13, (upd (X1618 13) nd2 (nI (nd2 + 1)))), (16, (upd ((stR X1618 13 nd2 (nI (nd2 + 1))) 16) la (nI nd2))), (2, K), (2, K)]) (l2 := [(13, (upd (X1618 13) nd2 (nI (nd2 + 1)))), (16, (upd ((stR X1618 13 nd2 (nI (nd2 + 1))) 16) la (nI nd2))), (2, K)]) (V := [(upd (X1618 13) nd2 (nI (nd2 + 1))), (upd ((stR X1618 13 nd2 (nI (nd2 + 1))) 16) la (nI nd2)), K, K, (upd (X1618 13) nd2 (nI (nd2 + 1))), (upd ((stR X1618 13 nd2 (nI (nd2 + 1))) 16) la (nI nd2)), K]) rfl rfl) hP
                                  have hD : va_D A (mW G h0 a (upd (upd (upd (upd (upd (upd (upd F 15 (nI fa1491)) 16 pl1616) 27 (nI ((nd2 + 1) + 1))) 31 (nI wr1617)) 64 (nI at1642)) 65 (nI ne)) 66 (nI lk2)) (updA (stR (stR X1618 13 nd2 (nI (nd2 + 1))) 16 la (nI nd2)) 2 K)) := mW_D hD
                                  refine W.widen (k := 0) (n := 0) (Nat.le_of_ble_eq_true rfl) (Nat.le_of_ble_eq_true rfl) ?_
                                  refine W.eq (g2 := F0 m 174 ls [.int (nI r1643)]) rfl ?_
                                  obtain rfl : at1490 = at1642 := (by omega)
                                  refine lv_if_eq (tgt := 187) hx hb dX12_attempt_174 (by decide) (fun c1650 => ?_) (fun c1650 => (by have n1651 : ¬ (r1643 = 0) := fun h9 => c1650 ((nI_eq (a := r1643) (b := 0) (by omega) (by omega)).mpr h9); omega))
                                  refine lv_iload_n hx hb dX12_attempt_187 rfl (lv_at hl 5 rfl) ?_
                                  have hz1652 : at0 ≤ at1490 := (by omega)
                                  have hz1653 : at1490 ≤ T := (by omega)
                                  have hz1654 : fa1491 ≤ 100 := (by omega)
                                  have hz1655 : nd ≤ ((nd2 + 1) + 1) := (by omega)
                                  have hz1656 : ((nd2 + 1) + 1) + 2 * at0 ≤ nd + 2 * at1490 + 100000 * fa1491 := (by omega)
                                  have hz1657 : ((nd2 + 1) + 1) + 2 * at0 ≤ nd + 2 * at1490 + (60 * (21 - ne) + 40) := (by omega)
                                  have hz1658 : wr ≤ wr1617 := (by omega)
                                  have hz1659 : wr1617 + at0 ≤ wr + at1490 := (by omega)
                                  have hz1660 : lk ≤ lk2 := (by omega)
                                  have hz1661 : lk2 ≤ 60 + 100 * fa1491 := (by omega)
                                  have hz1662 : at0 + 1 ≤ at1490 + fa1491 := (by omega)
                                  have hz1663 : nd ≤ ((nd2 + 1) + 1) := (by omega)
                                  have hz1664 : Kp B (stR (stR X1618 13 nd2 (nI (nd2 + 1))) 16 la (nI nd2)) wr1617 T := hkp1625
                                  have hz1665 : If (fa1491 = 0) (Low B (stR (stR X1618 13 nd2 (nI (nd2 + 1))) 16 la (nI nd2)) nd wr ∧ Frs K T wr1617 (stR (stR X1618 13 nd2 (nI (nd2 + 1))) 16 la (nI nd2)) nd ((nd2 + 1) + 1) 20000 [(nd, (280 + 4 * (21 - ne)))] ∧ kcl 3 ((stR (stR X1618 13 nd2 (nI (nd2 + 1))) 16 la (nI nd2)) 9 nd) = true) := (fun e => absurd e (by omega))
                                  have hP : va_P G.1 pCl (mW G h0 a (upd (upd (upd (upd (upd (upd (upd F 15 (nI fa1491)) 16 pl1616) 27 (nI ((nd2 + 1) + 1))) 31 (nI wr1617)) 64 (nI at1490)) 65 (nI ne)) 66 (nI lk2)) (updA (stR (stR X1618 13 nd2 (nI (nd2 + 1))) 16 la (nI nd2)) 2 K)) _ := hP
                                  have hD : va_D A (mW G h0 a (upd (upd (upd (upd (upd (upd (upd F 15 (nI fa1491)) 16 pl1616) 27 (nI ((nd2 + 1) + 1))) 31 (nI wr1617)) 64 (nI at1490)) 65 (nI ne)) 66 (nI lk2)) (updA (stR (stR X1618 13 nd2 (nI (nd2 + 1))) 16 la (nI nd2)) 2 K)) := mW_D hD
                                  exact W.iret (v := (nI nd)) hx hb hr (fun t9 ht9 hW9 => ⟨⟨_, (at1490, fa1491, pl1616, ((nd2 + 1) + 1), lk2, wr1617, nd, (stR (stR X1618 13 nd2 (nI (nd2 + 1))) 16 la (nI nd2))), rfl, ⟨rfl, hz1652, hz1653, hz1654, hz1655, hz1656, hz1657, hz1658, hz1659, hz1660, hz1661, hz1662, hz1663, hz1664, hz1665⟩, by rw [ht9]; exact hP, hD⟩, hS.F ht9⟩) hS.2.2 dX12_attempt_188
                              · have e1486 := e1486
                                refine lv_istore (lv' := [(5, .int (nI at1460)), (4, .int (nI at1445)), (3, .int (nI (at1428 - 1))), (2, .int (nI la)), (1, .int (nI nd)), (0, .ref h0)]) hx hb dX12_attempt_104 hl (by decide) rfl (fun ls hl => ?_)
                                refine lv_aload_n hx hb dX12_attempt_106 rfl (lv_at hl 5 rfl) ?_
                                refine lv_bipush (v := 41) hx hb dX12_attempt_107 (by decide) ?_
                                have hP : va_P G.1 pCl (mW G h0 a (upd (upd (upd (upd (upd (upd (upd (upd (upd F 15 (nI fa1476)) 16 pl1477) 27 (nI nd2)) 31 (nI wr2)) 64 (nI at1475)) 65 (nI ne)) 66 (nI lk2)) 15 (nI fa1476)) 64 (nI at1475)) (updA (updA X2 2 K) 2 K)) _ := mW_to (F := F) (l1 := [(15, (nI fa1476)), (16, pl1477), (27, (nI nd2)), (31, (nI wr2)), (64, (nI at1475)), (65, (nI ne)), (66, (nI lk2))]) (l2 := [(15, (nI fa1476)), (16, pl1477), (27, (nI nd2)), (31, (nI wr2)), (64, (nI at1475)), (65, (nI ne)), (66, (nI lk2)), (15, (nI fa1476)), (64, (nI at1475))]) (V := [(nI fa1476), pl1477, (nI nd2), (nI wr2), (nI at1475), (nI ne), (nI lk2), (nI fa1476), pl1477, (nI nd2), (nI wr2), (nI at1475), (nI ne), (nI lk2), (nI fa1476), (nI at1475)]) rfl rfl (show (updA X2 2 K) = (updA (updA X2 2 K) 2 K) from updsA_eq2 (F := X2) (l1 := [(2, K)]) (l2 := [(2, K), (2, K)]) (V := [K, K, K]) rfl rfl) hP
                                have hD : va_D A (mW G h0 a (upd (upd (upd (upd (upd (upd (upd (upd (upd F 15 (nI fa1476)) 16 pl1477) 27 (nI nd2)) 31 (nI wr2)) 64 (nI at1475)) 65 (nI ne)) 66 (nI lk2)) 15 (nI fa1476)) 64 (nI at1475)) (updA (updA X2 2 K) 2 K)) := mW_D hD
                                refine pc_V0 (G := G) (As := [.int 41]) (rest := []) hx hb hml hown hq hE hX pX0_al hP hD hS hA hl.1 (R_take l G h0 a (upd (upd (upd (upd (upd (upd (upd F 15 (nI fa1476)) 16 pl1477) 27 (nI nd2)) 31 (nI wr2)) 64 (nI at1475)) 65 (nI ne)) 66 (nI lk2)) (updA X2 2 K) at1475 T fa1476 K 41 (by omega) (by omega) hK (by omega) (by decide) (by decide)) (gV pw_1614 pw_1615 pw_1616 pw_1523 pw_1601) hV_X12_take 0 9 rfl rfl rfl rfl (Nat.le_of_ble_eq_true rfl) dX12_attempt_109 ⟨Nat.le_of_ble_eq_true rfl, Nat.le_of_ble_eq_true rfl⟩ ⟨(by show 4 + 1 ≤ (26 * n + 43); omega), (by show 8 + (2 + 11) + 103 ≤ (2000 * n + 4300); omega)⟩ (fun v1668 u1666 H locs hw1667 hP hD hS => ?_)
                                obtain ⟨at1669, fa1670, pl1671⟩ := u1666
                                obtain ⟨hw1667, h1672, h1673, h1674, h1675, h1676, h1677, h1678, h1679⟩ := hw1667
                                have h1672 : at1475 ≤ at1669 := h1672
                                have h1673 : at1669 ≤ T := h1673
                                have h1674 : fa1476 ≤ fa1670 := h1674
                                have h1675 : fa1670 ≤ 100 := h1675
                                have h1676 : If (0 < fa1476) (at1669 = at1475 ∧ fa1670 = fa1476) := h1676
                                have h1677 : at1669 ≤ at1475 + 1 := h1677
                                have h1678 : at1475 + 1 ≤ at1669 + fa1670 := h1678
                                have h1679 : If (fa1670 = 0) (K at1475 = 41) := h1679
                                obtain rfl : v1668 = none := hw1667
                                have hP : va_P G.1 pCl (mW G h0 a (upd (upd (upd (upd (upd (upd (upd F 15 (nI fa1670)) 16 pl1671) 27 (nI nd2)) 31 (nI wr2)) 64 (nI at1669)) 65 (nI ne)) 66 (nI lk2)) (updA X2 2 K)) _ := mW_to (F := F) (l1 := [(15, (nI fa1476)), (16, pl1477), (27, (nI nd2)), (31, (nI wr2)), (64, (nI at1475)), (65, (nI ne)), (66, (nI lk2)), (15, (nI fa1670)), (16, pl1671), (64, (nI at1669))]) (l2 := [(15, (nI fa1670)), (16, pl1671), (27, (nI nd2)), (31, (nI wr2)), (64, (nI at1669)), (65, (nI ne)), (66, (nI lk2))]) (V := [(nI fa1670), pl1671, (nI nd2), (nI wr2), (nI at1669), (nI ne), (nI lk2), (nI fa1670), pl1671, (nI at1669), (nI fa1670), pl1671, (nI nd2), (nI wr2), (nI at1669), (nI ne), (nI lk2)]) rfl rfl (show (updA (updA X2 2 K) 2 K) = (updA X2 2 K) from updsA_eq2 (F := X2) (l1 := [(2, K), (2, K)]) (l2 := [(2, K)]) (V := [K, K, K]) rfl rfl) hP
                                have hD : va_D A (mW G h0 a (upd (upd (upd (upd (upd (upd (upd F 15 (nI fa1670)) 16 pl1671) 27 (nI nd2)) 31 (nI wr2)) 64 (nI at1669)) 65 (nI ne)) 66 (nI lk2)) (updA X2 2 K)) := mW_D hD
                                refine W.widen (k := 0) (n := 0) (Nat.le_of_ble_eq_true rfl) (Nat.le_of_ble_eq_true rfl) ?_
                                refine W.eq (g2 := F0 m 112 ls []) rfl ?_
                                obtain ⟨n1681, n1680⟩ := h1676 e1486
                                replace n1681 := n1681.symm
                                subst n1681
                                replace n1680 := n1680.symm
                                subst n1680
                                refine lv_aload_n hx hb dX12_attempt_112 rfl (lv_at hl 5 rfl) ?_
                                refine lv_bipush (v := 44) hx hb dX12_attempt_113 (by decide) ?_
                                refine lv_iload_n hx hb dX12_attempt_115 rfl (lv_at hl 2 rfl) ?_
                                refine lv_iload hx hb dX12_attempt_116 (lv_at hl 0 rfl) ?_
                                refine lv_iload hx hb dX12_attempt_118 (lv_at hl 1 rfl) ?_
                                refine lv_iconst (v := (-1)) hx hb dX12_attempt_120 (by decide) ?_
                                have hP : va_P G.1 pCl (mW G h0 a (upd (upd (upd (upd (upd (upd (upd (upd F 15 (nI fa1476)) 16 pl1671) 27 (nI nd2)) 31 (nI wr2)) 64 (nI at1475)) 65 (nI ne)) 66 (nI lk2)) 27 (nI nd2)) (updA X2 2 K)) _ := hP
                                have hD : va_D A (mW G h0 a (upd (upd (upd (upd (upd (upd (upd (upd F 15 (nI fa1476)) 16 pl1671) 27 (nI nd2)) 31 (nI wr2)) 64 (nI at1475)) 65 (nI ne)) 66 (nI lk2)) 27 (nI nd2)) (updA X2 2 K)) := mW_D hD
                                refine pc_V0 (G := G) (As := [.int 44, .int (nI (at1428 - 1)), .int (nI at1460), .int (nI at1445), .int (-1)]) (rest := []) hx hb hml hown hq hE hX pX0_al hP hD hS hA hl.1 (R_nodeB l G h0 a (upd (upd (upd (upd (upd (upd (upd F 15 (nI fa1476)) 16 pl1671) 27 (nI nd2)) 31 (nI wr2)) 64 (nI at1475)) 65 (nI ne)) 66 (nI lk2)) X2 44 (nI (at1428 - 1)) (nI at1460) (nI at1445) (-1) nd2 K (by omega)) (gV pw_1650 pw_1651 pw_1652 pw_1523 pw_1589) hV_X12_node 0 9 rfl rfl rfl rfl (Nat.le_of_ble_eq_true rfl) dX12_attempt_121 ⟨Nat.le_of_ble_eq_true rfl, Nat.le_of_ble_eq_true rfl⟩ ⟨(by show 2 + 1 ≤ (26 * n + 43); omega), (by show 8 + (7 + 11) + 60 ≤ (2000 * n + 4300); omega)⟩ (fun v1684 u1682 H locs hw1683 hP hD hS => ?_)
                                obtain ⟨X1685, rfl⟩ : ∃ z, z = u1682 := ⟨_, rfl⟩
                                obtain ⟨hw1683, h1686⟩ := hw1683
                                have h1686 : NewN X2 X1685 nd2 44 (nI (at1428 - 1)) (nI at1460) (nI at1445) (-1) := h1686
                                obtain rfl : v1684 = some (.int (nI nd2)) := hw1683
                                have hP : va_P G.1 pCl (mW G h0 a (upd (upd (upd (upd (upd (upd (upd F 15 (nI fa1476)) 16 pl1671) 27 (nI (nd2 + 1))) 31 (nI wr2)) 64 (nI at1475)) 65 (nI ne)) 66 (nI lk2)) (updA X1685 2 K)) _ := mW_to (F := F) (l1 := [(15, (nI fa1476)), (16, pl1671), (27, (nI nd2)), (31, (nI wr2)), (64, (nI at1475)), (65, (nI ne)), (66, (nI lk2)), (27, (nI (nd2 + 1)))]) (l2 := [(15, (nI fa1476)), (16, pl1671), (27, (nI (nd2 + 1))), (31, (nI wr2)), (64, (nI at1475)), (65, (nI ne)), (66, (nI lk2))]) (V := [(nI fa1476), pl1671, (nI (nd2 + 1)), (nI wr2), (nI at1475), (nI ne), (nI lk2), (nI (nd2 + 1)), (nI fa1476), pl1671, (nI (nd2 + 1)), (nI wr2), (nI at1475), (nI ne), (nI lk2)]) rfl rfl rfl hP
                                have hD : va_D A (mW G h0 a (upd (upd (upd (upd (upd (upd (upd F 15 (nI fa1476)) 16 pl1671) 27 (nI (nd2 + 1))) 31 (nI wr2)) 64 (nI at1475)) 65 (nI ne)) 66 (nI lk2)) (updA X1685 2 K)) := mW_D hD
                                refine W.widen (k := 0) (n := 0) (Nat.le_of_ble_eq_true rfl) (Nat.le_of_ble_eq_true rfl) ?_
                                refine W.eq (g2 := F0 m 124 ls [.int (nI nd2)]) rfl ?_
                                have hkp1687 : Kp B X1685 wr2 T := (Kp.new hkp2 h1686)
                                refine lv_istore (lv' := [(6, .int (nI nd2)), (5, .int (nI at1460)), (4, .int (nI at1445)), (3, .int (nI (at1428 - 1))), (2, .int (nI la)), (1, .int (nI nd)), (0, .ref h0)]) hx hb dX12_attempt_124 hl (by decide) rfl (fun ls hl => ?_)
                                refine lv_aload_n hx hb dX12_attempt_126 rfl (lv_at hl 6 rfl) ?_
                                refine r_get (v := .ref (a 13)) hx hb hown hq hE hP 21 50 tFX12_21 (by decide) pw_1443 rfl dX12_attempt_127 ?_
                                refine lv_iload hx hb dX12_attempt_130 (lv_at hl 0 rfl) ?_
                                refine lv_aload_n hx hb dX12_attempt_132 rfl (lv_at hl 6 rfl) ?_
                                have hP : va_P G.1 pCl (mW G h0 a (upd (upd (upd (upd (upd (upd (upd (upd (upd (upd (upd F 15 (nI fa1476)) 16 pl1671) 27 (nI (nd2 + 1))) 31 (nI wr2)) 64 (nI at1475)) 65 (nI ne)) 66 (nI lk2)) 15 (nI fa1476)) 27 (nI (nd2 + 1))) 31 (nI wr2)) 64 (nI at1475)) (updA X1685 2 K)) _ := mW_to (F := F) (l1 := [(15, (nI fa1476)), (16, pl1671), (27, (nI (nd2 + 1))), (31, (nI wr2)), (64, (nI at1475)), (65, (nI ne)), (66, (nI lk2))]) (l2 := [(15, (nI fa1476)), (16, pl1671), (27, (nI (nd2 + 1))), (31, (nI wr2)), (64, (nI at1475)), (65, (nI ne)), (66, (nI lk2)), (15, (nI fa1476)), (27, (nI (nd2 + 1))), (31, (nI wr2)), (64, (nI at1475))]) (V := [(nI fa1476), pl1671, (nI (nd2 + 1)), (nI wr2), (nI at1475), (nI ne), (nI lk2), (nI fa1476), pl1671, (nI (nd2 + 1)), (nI wr2), (nI at1475), (nI ne), (nI lk2), (nI fa1476), (nI (nd2 + 1)), (nI wr2), (nI at1475)]) rfl rfl rfl hP
                                have hD : va_D A (mW G h0 a (upd (upd (upd (upd (upd (upd (upd (upd (upd (upd (upd F 15 (nI fa1476)) 16 pl1671) 27 (nI (nd2 + 1))) 31 (nI wr2)) 64 (nI at1475)) 65 (nI ne)) 66 (nI lk2)) 15 (nI fa1476)) 27 (nI (nd2 + 1))) 31 (nI wr2)) 64 (nI at1475)) (updA X1685 2 K)) := mW_D hD
                                refine pc_V0 (G := G) (As := []) (rest := [.int (nI nd2), .ref (a 13)]) hx hb hml hown hq hE hX pX0_al hP hD hS hA hl.1 (RF_block l G h0 a (upd (upd (upd (upd (upd (upd (upd F 15 (nI fa1476)) 16 pl1671) 27 (nI (nd2 + 1))) 31 (nI wr2)) 64 (nI at1475)) 65 (nI ne)) 66 (nI lk2)) X1685 at1475 T fa1476 (nd2 + 1) wr2 K (by omega) (by omega) hK (by omega) e1486 (by omega) (by omega) (hkp1687).2) (gV pw_1685 pw_1686 pw_1687 pw_1523 pw_1688) hV_X12_block 0 9 rfl rfl rfl rfl (Nat.le_of_ble_eq_true rfl) dX12_attempt_133 ⟨Nat.le_of_ble_eq_true rfl, Nat.le_of_ble_eq_true rfl⟩ ⟨(by show 5 + 1 ≤ (26 * n + 43); omega), (by show 8 + (4 + 11) + 124 ≤ (2000 * n + 4300); omega)⟩ (fun v1690 u1688 H locs hw1689 hP hD hS => ?_)
                                obtain ⟨pl1691, wr1692, X1693⟩ := u1688
                                obtain ⟨hw1689, h1694, h1695, h1696⟩ := hw1689
                                have h1694 : wr2 ≤ wr1692 := h1694
                                have h1695 : wr1692 ≤ wr2 := h1695
                                have h1696 : Kp X1685 X1693 wr1692 T := h1696
                                obtain rfl : v1690 = some (.int (nI (nd2 + 1))) := hw1689
                                have hP : va_P G.1 pCl (mW G h0 a (upd (upd (upd (upd (upd (upd (upd F 15 (nI fa1476)) 16 pl1691) 27 (nI ((nd2 + 1) + 1))) 31 (nI wr1692)) 64 (nI at1475)) 65 (nI ne)) 66 (nI lk2)) (updA X1693 2 K)) _ := mW_to (F := F) (l1 := [(15, (nI fa1476)), (16, pl1671), (27, (nI (nd2 + 1))), (31, (nI wr2)), (64, (nI at1475)), (65, (nI ne)), (66, (nI lk2)), (15, (nI fa1476)), (16, pl1691), (27, (nI ((nd2 + 1) + 1))), (31, (nI wr1692)), (64, (nI at1475))]) (l2 := [(15, (nI fa1476)), (16, pl1691), (27, (nI ((nd2 + 1) + 1))), (31, (nI wr1692)), (64, (nI at1475)), (65, (nI ne)), (66, (nI lk2))]) (V := [(nI fa1476), pl1691, (nI ((nd2 + 1) + 1)), (nI wr1692), (nI at1475), (nI ne), (nI lk2), (nI fa1476), pl1691, (nI ((nd2 + 1) + 1)), (nI wr1692), (nI at1475), (nI fa1476), pl1691, (nI ((nd2 + 1) + 1)), (nI wr1692), (nI at1475), (nI ne), (nI lk2)]) rfl rfl rfl hP
                                have hD : va_D A (mW G h0 a (upd (upd (upd (upd (upd (upd (upd F 15 (nI fa1476)) 16 pl1691) 27 (nI ((nd2 + 1) + 1))) 31 (nI wr1692)) 64 (nI at1475)) 65 (nI ne)) 66 (nI lk2)) (updA X1693 2 K)) := mW_D hD
                                refine W.widen (k := 0) (n := 0) (Nat.le_of_ble_eq_true rfl) (Nat.le_of_ble_eq_true rfl) ?_
                                refine W.eq (g2 := F0 m 136 ls [.int (nI (nd2 + 1)), .int (nI nd2), .ref (a 13)]) rfl ?_
                                have hkp1697 : Kp B X1693 wr1692 T := (Kp.trans hkp1687 h1696)
                                refine r_sti (f := (X1693 13)) (j := nd2) hx hb hE hP hD hS 13 (ma_13 G a _) rfl (mas_13 G a _) (by omega) (by decide) dX12_attempt_136 (fun H locs hP hD hS => ?_)
                                have hP : va_P G.1 pCl (mW G h0 a (upd (upd (upd (upd (upd (upd (upd F 15 (nI fa1476)) 16 pl1691) 27 (nI ((nd2 + 1) + 1))) 31 (nI wr1692)) 64 (nI at1475)) 65 (nI ne)) 66 (nI lk2)) (updA (stR X1693 13 nd2 (nI (nd2 + 1))) 2 K)) _ := mW_to (F := F) (l1 := [(15, (nI fa1476)), (16, pl1691), (27, (nI ((nd2 + 1) + 1))), (31, (nI wr1692)), (64, (nI at1475)), (65, (nI ne)), (66, (nI lk2))]) (l2 := [(15, (nI fa1476)), (16, pl1691), (27, (nI ((nd2 + 1) + 1))), (31, (nI wr1692)), (64, (nI at1475)), (65, (nI ne)), (66, (nI lk2))]) (V := [(nI fa1476), pl1691, (nI ((nd2 + 1) + 1)), (nI wr1692), (nI at1475), (nI ne), (nI lk2), (nI fa1476), pl1691, (nI ((nd2 + 1) + 1)), (nI wr1692), (nI at1475), (nI ne), (nI lk2)]) rfl rfl (show (updA (updA X1693 2 K) 13 (upd (X1693 13) nd2 (nI (nd2 + 1)))) = (updA (stR X1693 13 nd2 (nI (nd2 + 1))) 2 K) from updsA_eq2 (F := X1693) (l1 := [(2, K), (13, (upd (X1693 13) nd2 (nI (nd2 + 1))))]) (l2 := [(13, (upd (X1693 13) nd2 (nI (nd2 + 1)))), (2, K)]) (V := [K, (upd (X1693 13) nd2 (nI (nd2 + 1))), (upd (X1693 13) nd2 (nI (nd2 + 1))), K]) rfl rfl) hP
                                have hD : va_D A (mW G h0 a (upd (upd (upd (upd (upd (upd (upd F 15 (nI fa1476)) 16 pl1691) 27 (nI ((nd2 + 1) + 1))) 31 (nI wr1692)) 64 (nI at1475)) 65 (nI ne)) 66 (nI lk2)) (updA (stR X1693 13 nd2 (nI (nd2 + 1))) 2 K)) := mW_D hD
                                have hkp1698 : Kp B (stR X1693 13 nd2 (nI (nd2 + 1))) wr1692 T := (Kp.row hkp1697 (by omega))
                                refine lv_iload_n hx hb dX12_attempt_137 rfl (lv_at hl 4 rfl) ?_
                                refine lv_iconst (v := (-1)) hx hb dX12_attempt_138 (by decide) ?_
                                refine lv_icmp_ne (tgt := 153) hx hb dX12_attempt_139 (by decide) (fun c1699 => ?_) (fun c1699 => absurd c1699 (nI_m1 (by omega)))
                                refine lv_aload_n hx hb dX12_attempt_153 rfl (lv_at hl 6 rfl) ?_
                                refine r_get (v := .ref (a 16)) hx hb hown hq hE hP 24 59 tFX12_24 (by decide) pw_1446 rfl dX12_attempt_154 ?_
                                refine lv_iload_n hx hb dX12_attempt_157 rfl (lv_at hl 4 rfl) ?_
                                refine lv_iload hx hb dX12_attempt_158 (lv_at hl 0 rfl) ?_
                                refine r_sti (f := ((stR X1693 13 nd2 (nI (nd2 + 1))) 16)) (j := la) hx hb hE hP hD hS 16 (ma_16 G a _) rfl (mas_16 G a _) (by omega) (by decide) dX12_attempt_160 (fun H locs hP hD hS => ?_)
                                have hP : va_P G.1 pCl (mW G h0 a (upd (upd (upd (upd (upd (upd (upd F 15 (nI fa1476)) 16 pl1691) 27 (nI ((nd2 + 1) + 1))) 31 (nI wr1692)) 64 (nI at1475)) 65 (nI ne)) 66 (nI lk2)) (updA (stR (stR X1693 13 nd2 (nI (nd2 + 1))) 16 la (nI nd2)) 2 K)) _ := mW_to (F := F) (l1 := [(15, (nI fa1476)), (16, pl1691), (27, (nI ((nd2 + 1) + 1))), (31, (nI wr1692)), (64, (nI at1475)), (65, (nI ne)), (66, (nI lk2))]) (l2 := [(15, (nI fa1476)), (16, pl1691), (27, (nI ((nd2 + 1) + 1))), (31, (nI wr1692)), (64, (nI at1475)), (65, (nI ne)), (66, (nI lk2))]) (V := [(nI fa1476), pl1691, (nI ((nd2 + 1) + 1)), (nI wr1692), (nI at1475), (nI ne), (nI lk2), (nI fa1476), pl1691, (nI ((nd2 + 1) + 1)), (nI wr1692), (nI at1475), (nI ne), (nI lk2)]) rfl rfl (show (updA (updA (stR X1693 13 nd2 (nI (nd2 + 1))) 2 K) 16 (upd ((stR X1693 13 nd2 (nI (nd2 + 1))) 16) la (nI nd2))) = (updA (stR (stR X1693 13 nd2 (nI (nd2 + 1))) 16 la (nI nd2)) 2 K) from updsA_eq2 (F := X1693) (l1 := [(13, (upd (X1693 13) nd2 (nI (nd2 + 1)))), (2, K), (16, (upd ((stR X1693 13 nd2 (nI (nd2 + 1))) 16) la (nI nd2)))]) (l2 := [(13, (upd (X1693 13) nd2 (nI (nd2 + 1)))), (16, (upd ((stR X1693 13 nd2 (nI (nd2 + 1))) 16) la (nI nd2))), (2, K)]) (V := [(upd (X1693 13) nd2 (nI (nd2 + 1))), K, (upd ((stR X1693 13 nd2 (nI (nd2 + 1))) 16) la (nI nd2)), (upd (X1693 13) nd2 (nI (nd2 + 1))), (upd ((stR X1693 13 nd2 (nI (nd2 + 1))) 16) la (nI nd2)), K]) rfl rfl) hP
                                have hD : va_D A (mW G h0 a (upd (upd (upd (upd (upd (upd (upd F 15 (nI fa1476)) 16 pl1691) 27 (nI ((nd2 + 1) + 1))) 31 (nI wr1692)) 64 (nI at1475)) 65 (nI ne)) 66 (nI lk2)) (updA (stR (stR X1693 13 nd2 (nI (nd2 + 1))) 16 la (nI nd2)) 2 K)) := mW_D hD
                                have hkp1700 : Kp B (stR (stR X1693 13 nd2 (nI (nd2 + 1))) 16 la (nI nd2)) wr1692 T := (Kp.row hkp1698 (by omega))
                                refine lv_iload hx hb dX12_attempt_161 (lv_at hl 0 rfl) ?_
                                refine lv_istore_n (lv' := [(2, .int (nI nd2)), (6, .int (nI nd2)), (5, .int (nI at1460)), (4, .int (nI at1445)), (3, .int (nI (at1428 - 1))), (1, .int (nI nd)), (0, .ref h0)]) hx hb dX12_attempt_163 rfl hl (by decide) rfl (fun ls hl => ?_)
                                refine lv_goto (tgt := 71) hx hb dX12_attempt_164 (by decide) ?_
                                refine lv_aload_n hx hb dX12_attempt_71 rfl (lv_at hl 6 rfl) ?_
                                refine lv_sipush (v := 313) hx hb dX12_attempt_72 (by decide) ?_
                                have hP : va_P G.1 pCl (mW G h0 a (upd (upd (upd (upd (upd (upd (upd (upd (upd F 15 (nI fa1476)) 16 pl1691) 27 (nI ((nd2 + 1) + 1))) 31 (nI wr1692)) 64 (nI at1475)) 65 (nI ne)) 66 (nI lk2)) 15 (nI fa1476)) 64 (nI at1475)) (updA (updA (stR (stR X1693 13 nd2 (nI (nd2 + 1))) 16 la (nI nd2)) 2 K) 2 K)) _ := mW_to (F := F) (l1 := [(15, (nI fa1476)), (16, pl1691), (27, (nI ((nd2 + 1) + 1))), (31, (nI wr1692)), (64, (nI at1475)), (65, (nI ne)), (66, (nI lk2))]) (l2 := [(15, (nI fa1476)), (16, pl1691), (27, (nI ((nd2 + 1) + 1))), (31, (nI wr1692)), (64, (nI at1475)), (65, (nI ne)), (66, (nI lk2)), (15, (nI fa1476)), (64, (nI at1475))]) (V := [(nI fa1476), pl1691, (nI ((nd2 + 1) + 1)), (nI wr1692), (nI at1475), (nI ne), (nI lk2), (nI fa1476), pl1691, (nI ((nd2 + 1) + 1)), (nI wr1692), (nI at1475), (nI ne), (nI lk2), (nI fa1476), (nI at1475)]) rfl rfl (show (updA (stR (stR X1693 13 nd2 (nI (nd2 + 1))) 16 la (nI nd2)) 2 K) = (updA (updA (stR (stR X1693 13 nd2 (nI (nd2 + 1))) 16 la (nI nd2)) 2 K) 2 K) from updsA_eq2 (F := X1693) (l1 := [(13, (upd (X1693 13) nd2 (nI (nd2 + 1)))), (16, (upd ((stR X1693 13 nd2 (nI (nd2 + 1))) 16) la (nI nd2))), (2, K)]) (l2 := [(13, (upd (X1693 13) nd2 (nI (nd2 + 1)))), (16, (upd ((stR X1693 13 nd2 (nI (nd2 + 1))) 16) la (nI nd2))), (2, K), (2, K)]) (V := [(upd (X1693 13) nd2 (nI (nd2 + 1))), (upd ((stR X1693 13 nd2 (nI (nd2 + 1))) 16) la (nI nd2)), K, (upd (X1693 13) nd2 (nI (nd2 + 1))), (upd ((stR X1693 13 nd2 (nI (nd2 + 1))) 16) la (nI nd2)), K, K]) rfl rfl) hP
                                have hD : va_D A (mW G h0 a (upd (upd (upd (upd (upd (upd (upd (upd (upd F 15 (nI fa1476)) 16 pl1691) 27 (nI ((nd2 + 1) + 1))) 31 (nI wr1692)) 64 (nI at1475)) 65 (nI ne)) 66 (nI lk2)) 15 (nI fa1476)) 64 (nI at1475)) (updA (updA (stR (stR X1693 13 nd2 (nI (nd2 + 1))) 16 la (nI nd2)) 2 K) 2 K)) := mW_D hD
                                refine pc_V0 (G := G) (As := [.int 313]) (rest := []) hx hb hml hown hq hE hX pX0_al hP hD hS hA hl.1 (R_may l G h0 a (upd (upd (upd (upd (upd (upd (upd F 15 (nI fa1476)) 16 pl1691) 27 (nI ((nd2 + 1) + 1))) 31 (nI wr1692)) 64 (nI at1475)) 65 (nI ne)) 66 (nI lk2)) (updA (stR (stR X1693 13 nd2 (nI (nd2 + 1))) 16 la (nI nd2)) 2 K) at1475 T fa1476 K 313 (by omega) (by omega) hK (by omega) (by decide) (by decide)) (gV pw_1621 pw_1622 pw_1623 pw_1523 pw_1605) hV_X12_may 0 9 rfl rfl rfl rfl (Nat.le_of_ble_eq_true rfl) dX12_attempt_75 ⟨Nat.le_of_ble_eq_true rfl, Nat.le_of_ble_eq_true rfl⟩ ⟨(by show 3 + 1 ≤ (26 * n + 43); omega), (by show 8 + (3 + 11) + 81 ≤ (2000 * n + 4300); omega)⟩ (fun v1703 u1701 H locs hw1702 hP hD hS => ?_)
                                obtain ⟨at1704, r1705⟩ := u1701
                                obtain ⟨hw1702, h1706, h1707, h1708, h1709, h1710, h1711⟩ := hw1702
                                have h1706 : r1705 ≤ 1 := h1706
                                have h1707 : fa1476 + 100 * r1705 ≤ 100 := h1707
                                have h1708 : at1704 = at1475 + r1705 := h1708
                                have h1709 : at1704 ≤ T := h1709
                                have h1710 : If (r1705 = 1) (K at1475 = 313) := h1710
                                have h1711 : If (r1705 = 0) (fa1476 = 0 → ¬ K at1475 = 313) := h1711
                                obtain rfl : v1703 = some (.int (nI r1705)) := hw1702
                                have hP : va_P G.1 pCl (mW G h0 a (upd (upd (upd (upd (upd (upd (upd F 15 (nI fa1476)) 16 pl1691) 27 (nI ((nd2 + 1) + 1))) 31 (nI wr1692)) 64 (nI at1704)) 65 (nI ne)) 66 (nI lk2)) (updA (stR (stR X1693 13 nd2 (nI (nd2 + 1))) 16 la (nI nd2)) 2 K)) _ := mW_to (F := F) (l1 := [(15, (nI fa1476)), (16, pl1691), (27, (nI ((nd2 + 1) + 1))), (31, (nI wr1692)), (64, (nI at1475)), (65, (nI ne)), (66, (nI lk2)), (15, (nI fa1476)), (64, (nI at1704))]) (l2 := [(15, (nI fa1476)), (16, pl1691), (27, (nI ((nd2 + 1) + 1))), (31, (nI wr1692)), (64, (nI at1704)), (65, (nI ne)), (66, (nI lk2))]) (V := [(nI fa1476), pl1691, (nI ((nd2 + 1) + 1)), (nI wr1692), (nI at1704), (nI ne), (nI lk2), (nI fa1476), (nI at1704), (nI fa1476), pl1691, (nI ((nd2 + 1) + 1)), (nI wr1692), (nI at1704), (nI ne), (nI lk2)]) rfl rfl (show (updA (updA (stR (stR X1693 13 nd2 (nI (nd2 + 1))) 16 la (nI nd2)) 2 K) 2 K) = (updA (stR (stR X1693 13 nd2 (nI (nd2 + 1))) 16 la (nI nd2)) 2 K) from updsA_eq2 (F := X1693) (l1 := [(13, (upd (X1693 13) nd2 (nI (nd2 + 1)))), (16, (upd ((stR X1693 13 nd2 (nI (nd2 + 1))) 16) la (nI nd2))), (2, K), (2, K)]) (l2 := [(13, (upd (X1693 13) nd2 (nI (nd2 + 1)))), (16, (upd ((stR X1693 13 nd2 (nI (nd2 + 1))) 16) la (nI nd2))), (2, K)]) (V := [(upd (X1693 13) nd2 (nI (nd2 + 1))), (upd ((stR X1693 13 nd2 (nI (nd2 + 1))) 16) la (nI nd2)), K, K, (upd (X1693 13) nd2 (nI (nd2 + 1))), (upd ((stR X1693 13 nd2 (nI (nd2 + 1))) 16) la (nI nd2)), K]) rfl rfl) hP
                                have hD : va_D A (mW G h0 a (upd (upd (upd (upd (upd (upd (upd F 15 (nI fa1476)) 16 pl1691) 27 (nI ((nd2 + 1) + 1))) 31 (nI wr1692)) 64 (nI at1704)) 65 (nI ne)) 66 (nI lk2)) (updA (stR (stR X1693 13 nd2 (nI (nd2 + 1))) 16 la (nI nd2)) 2 K)) := mW_D hD
                                refine W.widen (k := 0) (n := 0) (Nat.le_of_ble_eq_true rfl) (Nat.le_of_ble_eq_true rfl) ?_
                                refine W.eq (g2 := F0 m 78 ls [.int (nI r1705)]) rfl ?_
                                obtain rfl : at1475 = at1704 := (by omega)
                                refine lv_if_eq (tgt := 167) hx hb dX12_attempt_78 (by decide) (fun c1712 => ?_) (fun c1712 => (by have n1713 : ¬ (r1705 = 0) := fun h9 => c1712 ((nI_eq (a := r1705) (b := 0) (by omega) (by omega)).mpr h9); omega))
                                refine lv_aload_n hx hb dX12_attempt_167 rfl (lv_at hl 6 rfl) ?_
                                refine lv_sipush (v := 319) hx hb dX12_attempt_168 (by decide) ?_
                                have hP : va_P G.1 pCl (mW G h0 a (upd (upd (upd (upd (upd (upd (upd (upd (upd F 15 (nI fa1476)) 16 pl1691) 27 (nI ((nd2 + 1) + 1))) 31 (nI wr1692)) 64 (nI at1475)) 65 (nI ne)) 66 (nI lk2)) 15 (nI fa1476)) 64 (nI at1475)) (updA (updA (stR (stR X1693 13 nd2 (nI (nd2 + 1))) 16 la (nI nd2)) 2 K) 2 K)) _ := hP
                                have hD : va_D A (mW G h0 a (upd (upd (upd (upd (upd (upd (upd (upd (upd F 15 (nI fa1476)) 16 pl1691) 27 (nI ((nd2 + 1) + 1))) 31 (nI wr1692)) 64 (nI at1475)) 65 (nI ne)) 66 (nI lk2)) 15 (nI fa1476)) 64 (nI at1475)) (updA (updA (stR (stR X1693 13 nd2 (nI (nd2 + 1))) 16 la (nI nd2)) 2 K) 2 K)) := mW_D hD
                                refine pc_V0 (G := G) (As := [.int 319]) (rest := []) hx hb hml hown hq hE hX pX0_al hP hD hS hA hl.1 (R_may l G h0 a (upd (upd (upd (upd (upd (upd (upd F 15 (nI fa1476)) 16 pl1691) 27 (nI ((nd2 + 1) + 1))) 31 (nI wr1692)) 64 (nI at1475)) 65 (nI ne)) 66 (nI lk2)) (updA (stR (stR X1693 13 nd2 (nI (nd2 + 1))) 16 la (nI nd2)) 2 K) at1475 T fa1476 K 319 (by omega) (by omega) hK (by omega) (by decide) (by decide)) (gV pw_1621 pw_1622 pw_1623 pw_1523 pw_1605) hV_X12_may 0 9 rfl rfl rfl rfl (Nat.le_of_ble_eq_true rfl) dX12_attempt_171 ⟨Nat.le_of_ble_eq_true rfl, Nat.le_of_ble_eq_true rfl⟩ ⟨(by show 3 + 1 ≤ (26 * n + 43); omega), (by show 8 + (3 + 11) + 81 ≤ (2000 * n + 4300); omega)⟩ (fun v1716 u1714 H locs hw1715 hP hD hS => ?_)
                                obtain ⟨at1717, r1718⟩ := u1714
                                obtain ⟨hw1715, h1719, h1720, h1721, h1722, h1723, h1724⟩ := hw1715
                                have h1719 : r1718 ≤ 1 := h1719
                                have h1720 : fa1476 + 100 * r1718 ≤ 100 := h1720
                                have h1721 : at1717 = at1475 + r1718 := h1721
                                have h1722 : at1717 ≤ T := h1722
                                have h1723 : If (r1718 = 1) (K at1475 = 319) := h1723
                                have h1724 : If (r1718 = 0) (fa1476 = 0 → ¬ K at1475 = 319) := h1724
                                obtain rfl : v1716 = some (.int (nI r1718)) := hw1715
                                have hP : va_P G.1 pCl (mW G h0 a (upd (upd (upd (upd (upd (upd (upd F 15 (nI fa1476)) 16 pl1691) 27 (nI ((nd2 + 1) + 1))) 31 (nI wr1692)) 64 (nI at1717)) 65 (nI ne)) 66 (nI lk2)) (updA (stR (stR X1693 13 nd2 (nI (nd2 + 1))) 16 la (nI nd2)) 2 K)) _ := mW_to (F := F) (l1 := [(15, (nI fa1476)), (16, pl1691), (27, (nI ((nd2 + 1) + 1))), (31, (nI wr1692)), (64, (nI at1475)), (65, (nI ne)), (66, (nI lk2)), (15, (nI fa1476)), (64, (nI at1717))]) (l2 := [(15, (nI fa1476)), (16, pl1691), (27, (nI ((nd2 + 1) + 1))), (31, (nI wr1692)), (64, (nI at1717)), (65, (nI ne)), (66, (nI lk2))]) (V := [(nI fa1476), pl1691, (nI ((nd2 + 1) + 1)), (nI wr1692), (nI at1717), (nI ne), (nI lk2), (nI fa1476), (nI at1717), (nI fa1476), pl1691, (nI ((nd2 + 1) + 1)), (nI wr1692), (nI at1717), (nI ne), (nI lk2)]) rfl rfl (show (updA (updA (stR (stR X1693 13 nd2 (nI (nd2 + 1))) 16 la (nI nd2)) 2 K) 2 K) = (updA (stR (stR X1693 13 nd2 (nI (nd2 + 1))) 16 la (nI nd2)) 2 K) from updsA_eq2 (F := X1693) (l1 := [(13, (upd (X1693 13) nd2 (nI (nd2 + 1)))), (16, (upd ((stR X1693 13 nd2 (nI (nd2 + 1))) 16) la (nI nd2))), (2, K), (2, K)]) (l2 := [(13, (upd (X1693 13) nd2 (nI (nd2 + 1)))), (16, (upd ((stR X1693 13 nd2 (nI (nd2 + 1))) 16) la (nI nd2))), (2, K)]) (V := [(upd (X1693 13) nd2 (nI (nd2 + 1))), (upd ((stR X1693 13 nd2 (nI (nd2 + 1))) 16) la (nI nd2)), K, K, (upd (X1693 13) nd2 (nI (nd2 + 1))), (upd ((stR X1693 13 nd2 (nI (nd2 + 1))) 16) la (nI nd2)), K]) rfl rfl) hP
                                have hD : va_D A (mW G h0 a (upd (upd (upd (upd (upd (upd (upd F 15 (nI fa1476)) 16 pl1691) 27 (nI ((nd2 + 1) + 1))) 31 (nI wr1692)) 64 (nI at1717)) 65 (nI ne)) 66 (nI lk2)) (updA (stR (stR X1693 13 nd2 (nI (nd2 + 1))) 16 la (nI nd2)) 2 K)) := mW_D hD
                                refine W.widen (k := 0) (n := 0) (Nat.le_of_ble_eq_true rfl) (Nat.le_of_ble_eq_true rfl) ?_
                                refine W.eq (g2 := F0 m 174 ls [.int (nI r1718)]) rfl ?_
                                obtain rfl : at1475 = at1717 := (by omega)
                                refine lv_if_eq (tgt := 187) hx hb dX12_attempt_174 (by decide) (fun c1725 => ?_) (fun c1725 => (by have n1726 : ¬ (r1718 = 0) := fun h9 => c1725 ((nI_eq (a := r1718) (b := 0) (by omega) (by omega)).mpr h9); omega))
                                refine lv_iload_n hx hb dX12_attempt_187 rfl (lv_at hl 5 rfl) ?_
                                have hz1727 : at0 ≤ at1475 := (by omega)
                                have hz1728 : at1475 ≤ T := (by omega)
                                have hz1729 : fa1476 ≤ 100 := (by omega)
                                have hz1730 : nd ≤ ((nd2 + 1) + 1) := (by omega)
                                have hz1731 : ((nd2 + 1) + 1) + 2 * at0 ≤ nd + 2 * at1475 + 100000 * fa1476 := (by omega)
                                have hz1732 : ((nd2 + 1) + 1) + 2 * at0 ≤ nd + 2 * at1475 + (60 * (21 - ne) + 40) := (by omega)
                                have hz1733 : wr ≤ wr1692 := (by omega)
                                have hz1734 : wr1692 + at0 ≤ wr + at1475 := (by omega)
                                have hz1735 : lk ≤ lk2 := (by omega)
                                have hz1736 : lk2 ≤ 60 + 100 * fa1476 := (by omega)
                                have hz1737 : at0 + 1 ≤ at1475 + fa1476 := (by omega)
                                have hz1738 : nd ≤ ((nd2 + 1) + 1) := (by omega)
                                have hz1739 : Kp B (stR (stR X1693 13 nd2 (nI (nd2 + 1))) 16 la (nI nd2)) wr1692 T := hkp1700
                                have hz1740 : If (fa1476 = 0) (Low B (stR (stR X1693 13 nd2 (nI (nd2 + 1))) 16 la (nI nd2)) nd wr ∧ Frs K T wr1692 (stR (stR X1693 13 nd2 (nI (nd2 + 1))) 16 la (nI nd2)) nd ((nd2 + 1) + 1) 20000 [(nd, (280 + 4 * (21 - ne)))] ∧ kcl 3 ((stR (stR X1693 13 nd2 (nI (nd2 + 1))) 16 la (nI nd2)) 9 nd) = true) := (fun e => absurd e (by omega))
                                have hP : va_P G.1 pCl (mW G h0 a (upd (upd (upd (upd (upd (upd (upd F 15 (nI fa1476)) 16 pl1691) 27 (nI ((nd2 + 1) + 1))) 31 (nI wr1692)) 64 (nI at1475)) 65 (nI ne)) 66 (nI lk2)) (updA (stR (stR X1693 13 nd2 (nI (nd2 + 1))) 16 la (nI nd2)) 2 K)) _ := hP
                                have hD : va_D A (mW G h0 a (upd (upd (upd (upd (upd (upd (upd F 15 (nI fa1476)) 16 pl1691) 27 (nI ((nd2 + 1) + 1))) 31 (nI wr1692)) 64 (nI at1475)) 65 (nI ne)) 66 (nI lk2)) (updA (stR (stR X1693 13 nd2 (nI (nd2 + 1))) 16 la (nI nd2)) 2 K)) := mW_D hD
                                exact W.iret (v := (nI nd)) hx hb hr (fun t9 ht9 hW9 => ⟨⟨_, (at1475, fa1476, pl1691, ((nd2 + 1) + 1), lk2, wr1692, nd, (stR (stR X1693 13 nd2 (nI (nd2 + 1))) 16 la (nI nd2))), rfl, ⟨rfl, hz1727, hz1728, hz1729, hz1730, hz1731, hz1732, hz1733, hz1734, hz1735, hz1736, hz1737, hz1738, hz1739, hz1740⟩, by rw [ht9]; exact hP, hD⟩, hS.F ht9⟩) hS.2.2 dX12_attempt_188
                            · have e1471 := e1471
                              refine lv_istore (lv' := [(4, .int (nI at1445)), (3, .int (nI (at1428 - 1))), (2, .int (nI la)), (1, .int (nI nd)), (0, .ref h0)]) hx hb dX12_attempt_98 hl (by decide) rfl (fun ls hl => ?_)
                              refine lv_aload_n hx hb dX12_attempt_100 rfl (lv_at hl 4 rfl) ?_
                              have hP : va_P G.1 pCl (mW G h0 a (upd (upd (upd (upd (upd (upd (upd (upd (upd F 15 (nI fa1461)) 16 pl1462) 27 (nI nd2)) 31 (nI wr2)) 64 (nI at1460)) 65 (nI ne)) 66 (nI lk2)) 15 (nI fa1461)) 64 (nI at1460)) (updA (updA X2 2 K) 2 K)) _ := mW_to (F := F) (l1 := [(15, (nI fa1461)), (16, pl1462), (27, (nI nd2)), (31, (nI wr2)), (64, (nI at1460)), (65, (nI ne)), (66, (nI lk2))]) (l2 := [(15, (nI fa1461)), (16, pl1462), (27, (nI nd2)), (31, (nI wr2)), (64, (nI at1460)), (65, (nI ne)), (66, (nI lk2)), (15, (nI fa1461)), (64, (nI at1460))]) (V := [(nI fa1461), pl1462, (nI nd2), (nI wr2), (nI at1460), (nI ne), (nI lk2), (nI fa1461), pl1462, (nI nd2), (nI wr2), (nI at1460), (nI ne), (nI lk2), (nI fa1461), (nI at1460)]) rfl rfl (show (updA X2 2 K) = (updA (updA X2 2 K) 2 K) from updsA_eq2 (F := X2) (l1 := [(2, K)]) (l2 := [(2, K), (2, K)]) (V := [K, K, K]) rfl rfl) hP
                              have hD : va_D A (mW G h0 a (upd (upd (upd (upd (upd (upd (upd (upd (upd F 15 (nI fa1461)) 16 pl1462) 27 (nI nd2)) 31 (nI wr2)) 64 (nI at1460)) 65 (nI ne)) 66 (nI lk2)) 15 (nI fa1461)) 64 (nI at1460)) (updA (updA X2 2 K) 2 K)) := mW_D hD
                              refine pc_V0 (G := G) (As := []) (rest := []) hx hb hml hown hq hE hX pX0_al hP hD hS hA hl.1 (R_name l G h0 a (upd (upd (upd (upd (upd (upd (upd F 15 (nI fa1461)) 16 pl1462) 27 (nI nd2)) 31 (nI wr2)) 64 (nI at1460)) 65 (nI ne)) 66 (nI lk2)) (updA X2 2 K) at1460 T fa1461 K (by omega) (by omega) hK (by omega)) (gV pw_1618 pw_1619 pw_1620 pw_1523 pw_1613) hV_X12_name 0 9 rfl rfl rfl rfl (Nat.le_of_ble_eq_true rfl) dX12_attempt_101 ⟨Nat.le_of_ble_eq_true rfl, Nat.le_of_ble_eq_true rfl⟩ ⟨(by show 5 + 1 ≤ (26 * n + 43); omega), (by show 8 + (2 + 11) + 124 ≤ (2000 * n + 4300); omega)⟩ (fun v1743 u1741 H locs hw1742 hP hD hS => ?_)
                              obtain ⟨at1744, fa1745, pl1746⟩ := u1741
                              obtain ⟨hw1742, h1747, h1748, h1749, h1750, h1751, h1752, h1753, h1754⟩ := hw1742
                              have h1747 : at1460 ≤ at1744 := h1747
                              have h1748 : at1744 ≤ T := h1748
                              have h1749 : fa1461 ≤ fa1745 := h1749
                              have h1750 : fa1745 ≤ 100 := h1750
                              have h1751 : If (0 < fa1461) (at1744 = at1460 ∧ fa1745 = fa1461) := h1751
                              have h1752 : at1744 ≤ at1460 + 1 := h1752
                              have h1753 : at1460 + 1 ≤ at1744 + fa1745 := h1753
                              have h1754 : If (fa1745 = 0) (K at1460 = 1) := h1754
                              obtain rfl : v1743 = some (.int (nI at1460)) := hw1742
                              have hP : va_P G.1 pCl (mW G h0 a (upd (upd (upd (upd (upd (upd (upd F 15 (nI fa1745)) 16 pl1746) 27 (nI nd2)) 31 (nI wr2)) 64 (nI at1744)) 65 (nI ne)) 66 (nI lk2)) (updA X2 2 K)) _ := mW_to (F := F) (l1 := [(15, (nI fa1461)), (16, pl1462), (27, (nI nd2)), (31, (nI wr2)), (64, (nI at1460)), (65, (nI ne)), (66, (nI lk2)), (15, (nI fa1745)), (16, pl1746), (64, (nI at1744))]) (l2 := [(15, (nI fa1745)), (16, pl1746), (27, (nI nd2)), (31, (nI wr2)), (64, (nI at1744)), (65, (nI ne)), (66, (nI lk2))]) (V := [(nI fa1745), pl1746, (nI nd2), (nI wr2), (nI at1744), (nI ne), (nI lk2), (nI fa1745), pl1746, (nI at1744), (nI fa1745), pl1746, (nI nd2), (nI wr2), (nI at1744), (nI ne), (nI lk2)]) rfl rfl (show (updA (updA X2 2 K) 2 K) = (updA X2 2 K) from updsA_eq2 (F := X2) (l1 := [(2, K), (2, K)]) (l2 := [(2, K)]) (V := [K, K, K]) rfl rfl) hP
                              have hD : va_D A (mW G h0 a (upd (upd (upd (upd (upd (upd (upd F 15 (nI fa1745)) 16 pl1746) 27 (nI nd2)) 31 (nI wr2)) 64 (nI at1744)) 65 (nI ne)) 66 (nI lk2)) (updA X2 2 K)) := mW_D hD
                              refine W.widen (k := 0) (n := 0) (Nat.le_of_ble_eq_true rfl) (Nat.le_of_ble_eq_true rfl) ?_
                              refine W.eq (g2 := F0 m 104 ls [.int (nI at1460)]) rfl ?_
                              obtain ⟨n1756, n1755⟩ := h1751 e1471
                              replace n1756 := n1756.symm
                              subst n1756
                              replace n1755 := n1755.symm
                              subst n1755
                              refine lv_istore (lv' := [(5, .int (nI at1460)), (4, .int (nI at1445)), (3, .int (nI (at1428 - 1))), (2, .int (nI la)), (1, .int (nI nd)), (0, .ref h0)]) hx hb dX12_attempt_104 hl (by decide) rfl (fun ls hl => ?_)
                              refine lv_aload_n hx hb dX12_attempt_106 rfl (lv_at hl 5 rfl) ?_
                              refine lv_bipush (v := 41) hx hb dX12_attempt_107 (by decide) ?_
                              have hP : va_P G.1 pCl (mW G h0 a (upd (upd (upd (upd (upd (upd (upd (upd (upd F 15 (nI fa1461)) 16 pl1746) 27 (nI nd2)) 31 (nI wr2)) 64 (nI at1460)) 65 (nI ne)) 66 (nI lk2)) 15 (nI fa1461)) 64 (nI at1460)) (updA (updA X2 2 K) 2 K)) _ := hP
                              have hD : va_D A (mW G h0 a (upd (upd (upd (upd (upd (upd (upd (upd (upd F 15 (nI fa1461)) 16 pl1746) 27 (nI nd2)) 31 (nI wr2)) 64 (nI at1460)) 65 (nI ne)) 66 (nI lk2)) 15 (nI fa1461)) 64 (nI at1460)) (updA (updA X2 2 K) 2 K)) := mW_D hD
                              refine pc_V0 (G := G) (As := [.int 41]) (rest := []) hx hb hml hown hq hE hX pX0_al hP hD hS hA hl.1 (R_take l G h0 a (upd (upd (upd (upd (upd (upd (upd F 15 (nI fa1461)) 16 pl1746) 27 (nI nd2)) 31 (nI wr2)) 64 (nI at1460)) 65 (nI ne)) 66 (nI lk2)) (updA X2 2 K) at1460 T fa1461 K 41 (by omega) (by omega) hK (by omega) (by decide) (by decide)) (gV pw_1614 pw_1615 pw_1616 pw_1523 pw_1601) hV_X12_take 0 9 rfl rfl rfl rfl (Nat.le_of_ble_eq_true rfl) dX12_attempt_109 ⟨Nat.le_of_ble_eq_true rfl, Nat.le_of_ble_eq_true rfl⟩ ⟨(by show 4 + 1 ≤ (26 * n + 43); omega), (by show 8 + (2 + 11) + 103 ≤ (2000 * n + 4300); omega)⟩ (fun v1759 u1757 H locs hw1758 hP hD hS => ?_)
                              obtain ⟨at1760, fa1761, pl1762⟩ := u1757
                              obtain ⟨hw1758, h1763, h1764, h1765, h1766, h1767, h1768, h1769, h1770⟩ := hw1758
                              have h1763 : at1460 ≤ at1760 := h1763
                              have h1764 : at1760 ≤ T := h1764
                              have h1765 : fa1461 ≤ fa1761 := h1765
                              have h1766 : fa1761 ≤ 100 := h1766
                              have h1767 : If (0 < fa1461) (at1760 = at1460 ∧ fa1761 = fa1461) := h1767
                              have h1768 : at1760 ≤ at1460 + 1 := h1768
                              have h1769 : at1460 + 1 ≤ at1760 + fa1761 := h1769
                              have h1770 : If (fa1761 = 0) (K at1460 = 41) := h1770
                              obtain rfl : v1759 = none := hw1758
                              have hP : va_P G.1 pCl (mW G h0 a (upd (upd (upd (upd (upd (upd (upd F 15 (nI fa1761)) 16 pl1762) 27 (nI nd2)) 31 (nI wr2)) 64 (nI at1760)) 65 (nI ne)) 66 (nI lk2)) (updA X2 2 K)) _ := mW_to (F := F) (l1 := [(15, (nI fa1461)), (16, pl1746), (27, (nI nd2)), (31, (nI wr2)), (64, (nI at1460)), (65, (nI ne)), (66, (nI lk2)), (15, (nI fa1761)), (16, pl1762), (64, (nI at1760))]) (l2 := [(15, (nI fa1761)), (16, pl1762), (27, (nI nd2)), (31, (nI wr2)), (64, (nI at1760)), (65, (nI ne)), (66, (nI lk2))]) (V := [(nI fa1761), pl1762, (nI nd2), (nI wr2), (nI at1760), (nI ne), (nI lk2), (nI fa1761), pl1762, (nI at1760), (nI fa1761), pl1762, (nI nd2), (nI wr2), (nI at1760), (nI ne), (nI lk2)]) rfl rfl (show (updA (updA X2 2 K) 2 K) = (updA X2 2 K) from updsA_eq2 (F := X2) (l1 := [(2, K), (2, K)]) (l2 := [(2, K)]) (V := [K, K, K]) rfl rfl) hP
                              have hD : va_D A (mW G h0 a (upd (upd (upd (upd (upd (upd (upd F 15 (nI fa1761)) 16 pl1762) 27 (nI nd2)) 31 (nI wr2)) 64 (nI at1760)) 65 (nI ne)) 66 (nI lk2)) (updA X2 2 K)) := mW_D hD
                              refine W.widen (k := 0) (n := 0) (Nat.le_of_ble_eq_true rfl) (Nat.le_of_ble_eq_true rfl) ?_
                              refine W.eq (g2 := F0 m 112 ls []) rfl ?_
                              obtain ⟨n1772, n1771⟩ := h1767 e1471
                              replace n1772 := n1772.symm
                              subst n1772
                              replace n1771 := n1771.symm
                              subst n1771
                              refine lv_aload_n hx hb dX12_attempt_112 rfl (lv_at hl 5 rfl) ?_
                              refine lv_bipush (v := 44) hx hb dX12_attempt_113 (by decide) ?_
                              refine lv_iload_n hx hb dX12_attempt_115 rfl (lv_at hl 2 rfl) ?_
                              refine lv_iload hx hb dX12_attempt_116 (lv_at hl 0 rfl) ?_
                              refine lv_iload hx hb dX12_attempt_118 (lv_at hl 1 rfl) ?_
                              refine lv_iconst (v := (-1)) hx hb dX12_attempt_120 (by decide) ?_
                              have hP : va_P G.1 pCl (mW G h0 a (upd (upd (upd (upd (upd (upd (upd (upd F 15 (nI fa1461)) 16 pl1762) 27 (nI nd2)) 31 (nI wr2)) 64 (nI at1460)) 65 (nI ne)) 66 (nI lk2)) 27 (nI nd2)) (updA X2 2 K)) _ := hP
                              have hD : va_D A (mW G h0 a (upd (upd (upd (upd (upd (upd (upd (upd F 15 (nI fa1461)) 16 pl1762) 27 (nI nd2)) 31 (nI wr2)) 64 (nI at1460)) 65 (nI ne)) 66 (nI lk2)) 27 (nI nd2)) (updA X2 2 K)) := mW_D hD
                              refine pc_V0 (G := G) (As := [.int 44, .int (nI (at1428 - 1)), .int (nI at1460), .int (nI at1445), .int (-1)]) (rest := []) hx hb hml hown hq hE hX pX0_al hP hD hS hA hl.1 (R_nodeB l G h0 a (upd (upd (upd (upd (upd (upd (upd F 15 (nI fa1461)) 16 pl1762) 27 (nI nd2)) 31 (nI wr2)) 64 (nI at1460)) 65 (nI ne)) 66 (nI lk2)) X2 44 (nI (at1428 - 1)) (nI at1460) (nI at1445) (-1) nd2 K (by omega)) (gV pw_1650 pw_1651 pw_1652 pw_1523 pw_1589) hV_X12_node 0 9 rfl rfl rfl rfl (Nat.le_of_ble_eq_true rfl) dX12_attempt_121 ⟨Nat.le_of_ble_eq_true rfl, Nat.le_of_ble_eq_true rfl⟩ ⟨(by show 2 + 1 ≤ (26 * n + 43); omega), (by show 8 + (7 + 11) + 60 ≤ (2000 * n + 4300); omega)⟩ (fun v1775 u1773 H locs hw1774 hP hD hS => ?_)
                              obtain ⟨X1776, rfl⟩ : ∃ z, z = u1773 := ⟨_, rfl⟩
                              obtain ⟨hw1774, h1777⟩ := hw1774
                              have h1777 : NewN X2 X1776 nd2 44 (nI (at1428 - 1)) (nI at1460) (nI at1445) (-1) := h1777
                              obtain rfl : v1775 = some (.int (nI nd2)) := hw1774
                              have hP : va_P G.1 pCl (mW G h0 a (upd (upd (upd (upd (upd (upd (upd F 15 (nI fa1461)) 16 pl1762) 27 (nI (nd2 + 1))) 31 (nI wr2)) 64 (nI at1460)) 65 (nI ne)) 66 (nI lk2)) (updA X1776 2 K)) _ := mW_to (F := F) (l1 := [(15, (nI fa1461)), (16, pl1762), (27, (nI nd2)), (31, (nI wr2)), (64, (nI at1460)), (65, (nI ne)), (66, (nI lk2)), (27, (nI (nd2 + 1)))]) (l2 := [(15, (nI fa1461)), (16, pl1762), (27, (nI (nd2 + 1))), (31, (nI wr2)), (64, (nI at1460)), (65, (nI ne)), (66, (nI lk2))]) (V := [(nI fa1461), pl1762, (nI (nd2 + 1)), (nI wr2), (nI at1460), (nI ne), (nI lk2), (nI (nd2 + 1)), (nI fa1461), pl1762, (nI (nd2 + 1)), (nI wr2), (nI at1460), (nI ne), (nI lk2)]) rfl rfl rfl hP
                              have hD : va_D A (mW G h0 a (upd (upd (upd (upd (upd (upd (upd F 15 (nI fa1461)) 16 pl1762) 27 (nI (nd2 + 1))) 31 (nI wr2)) 64 (nI at1460)) 65 (nI ne)) 66 (nI lk2)) (updA X1776 2 K)) := mW_D hD
                              refine W.widen (k := 0) (n := 0) (Nat.le_of_ble_eq_true rfl) (Nat.le_of_ble_eq_true rfl) ?_
                              refine W.eq (g2 := F0 m 124 ls [.int (nI nd2)]) rfl ?_
                              have hkp1778 : Kp B X1776 wr2 T := (Kp.new hkp2 h1777)
                              refine lv_istore (lv' := [(6, .int (nI nd2)), (5, .int (nI at1460)), (4, .int (nI at1445)), (3, .int (nI (at1428 - 1))), (2, .int (nI la)), (1, .int (nI nd)), (0, .ref h0)]) hx hb dX12_attempt_124 hl (by decide) rfl (fun ls hl => ?_)
                              refine lv_aload_n hx hb dX12_attempt_126 rfl (lv_at hl 6 rfl) ?_
                              refine r_get (v := .ref (a 13)) hx hb hown hq hE hP 21 50 tFX12_21 (by decide) pw_1443 rfl dX12_attempt_127 ?_
                              refine lv_iload hx hb dX12_attempt_130 (lv_at hl 0 rfl) ?_
                              refine lv_aload_n hx hb dX12_attempt_132 rfl (lv_at hl 6 rfl) ?_
                              have hP : va_P G.1 pCl (mW G h0 a (upd (upd (upd (upd (upd (upd (upd (upd (upd (upd (upd F 15 (nI fa1461)) 16 pl1762) 27 (nI (nd2 + 1))) 31 (nI wr2)) 64 (nI at1460)) 65 (nI ne)) 66 (nI lk2)) 15 (nI fa1461)) 27 (nI (nd2 + 1))) 31 (nI wr2)) 64 (nI at1460)) (updA X1776 2 K)) _ := mW_to (F := F) (l1 := [(15, (nI fa1461)), (16, pl1762), (27, (nI (nd2 + 1))), (31, (nI wr2)), (64, (nI at1460)), (65, (nI ne)), (66, (nI lk2))]) (l2 := [(15, (nI fa1461)), (16, pl1762), (27, (nI (nd2 + 1))), (31, (nI wr2)), (64, (nI at1460)), (65, (nI ne)), (66, (nI lk2)), (15, (nI fa1461)), (27, (nI (nd2 + 1))), (31, (nI wr2)), (64, (nI at1460))]) (V := [(nI fa1461), pl1762, (nI (nd2 + 1)), (nI wr2), (nI at1460), (nI ne), (nI lk2), (nI fa1461), pl1762, (nI (nd2 + 1)), (nI wr2), (nI at1460), (nI ne), (nI lk2), (nI fa1461), (nI (nd2 + 1)), (nI wr2), (nI at1460)]) rfl rfl rfl hP
                              have hD : va_D A (mW G h0 a (upd (upd (upd (upd (upd (upd (upd (upd (upd (upd (upd F 15 (nI fa1461)) 16 pl1762) 27 (nI (nd2 + 1))) 31 (nI wr2)) 64 (nI at1460)) 65 (nI ne)) 66 (nI lk2)) 15 (nI fa1461)) 27 (nI (nd2 + 1))) 31 (nI wr2)) 64 (nI at1460)) (updA X1776 2 K)) := mW_D hD
                              refine pc_V0 (G := G) (As := []) (rest := [.int (nI nd2), .ref (a 13)]) hx hb hml hown hq hE hX pX0_al hP hD hS hA hl.1 (RF_block l G h0 a (upd (upd (upd (upd (upd (upd (upd F 15 (nI fa1461)) 16 pl1762) 27 (nI (nd2 + 1))) 31 (nI wr2)) 64 (nI at1460)) 65 (nI ne)) 66 (nI lk2)) X1776 at1460 T fa1461 (nd2 + 1) wr2 K (by omega) (by omega) hK (by omega) e1471 (by omega) (by omega) (hkp1778).2) (gV pw_1685 pw_1686 pw_1687 pw_1523 pw_1688) hV_X12_block 0 9 rfl rfl rfl rfl (Nat.le_of_ble_eq_true rfl) dX12_attempt_133 ⟨Nat.le_of_ble_eq_true rfl, Nat.le_of_ble_eq_true rfl⟩ ⟨(by show 5 + 1 ≤ (26 * n + 43); omega), (by show 8 + (4 + 11) + 124 ≤ (2000 * n + 4300); omega)⟩ (fun v1781 u1779 H locs hw1780 hP hD hS => ?_)
                              obtain ⟨pl1782, wr1783, X1784⟩ := u1779
                              obtain ⟨hw1780, h1785, h1786, h1787⟩ := hw1780
                              have h1785 : wr2 ≤ wr1783 := h1785
                              have h1786 : wr1783 ≤ wr2 := h1786
                              have h1787 : Kp X1776 X1784 wr1783 T := h1787
                              obtain rfl : v1781 = some (.int (nI (nd2 + 1))) := hw1780
                              have hP : va_P G.1 pCl (mW G h0 a (upd (upd (upd (upd (upd (upd (upd F 15 (nI fa1461)) 16 pl1782) 27 (nI ((nd2 + 1) + 1))) 31 (nI wr1783)) 64 (nI at1460)) 65 (nI ne)) 66 (nI lk2)) (updA X1784 2 K)) _ := mW_to (F := F) (l1 := [(15, (nI fa1461)), (16, pl1762), (27, (nI (nd2 + 1))), (31, (nI wr2)), (64, (nI at1460)), (65, (nI ne)), (66, (nI lk2)), (15, (nI fa1461)), (16, pl1782), (27, (nI ((nd2 + 1) + 1))), (31, (nI wr1783)), (64, (nI at1460))]) (l2 := [(15, (nI fa1461)), (16, pl1782), (27, (nI ((nd2 + 1) + 1))), (31, (nI wr1783)), (64, (nI at1460)), (65, (nI ne)), (66, (nI lk2))]) (V := [(nI fa1461), pl1782, (nI ((nd2 + 1) + 1)), (nI wr1783), (nI at1460), (nI ne), (nI lk2), (nI fa1461), pl1782, (nI ((nd2 + 1) + 1)), (nI wr1783), (nI at1460), (nI fa1461), pl1782, (nI ((nd2 + 1) + 1)), (nI wr1783), (nI at1460), (nI ne), (nI lk2)]) rfl rfl rfl hP
                              have hD : va_D A (mW G h0 a (upd (upd (upd (upd (upd (upd (upd F 15 (nI fa1461)) 16 pl1782) 27 (nI ((nd2 + 1) + 1))) 31 (nI wr1783)) 64 (nI at1460)) 65 (nI ne)) 66 (nI lk2)) (updA X1784 2 K)) := mW_D hD
                              refine W.widen (k := 0) (n := 0) (Nat.le_of_ble_eq_true rfl) (Nat.le_of_ble_eq_true rfl) ?_
                              refine W.eq (g2 := F0 m 136 ls [.int (nI (nd2 + 1)), .int (nI nd2), .ref (a 13)]) rfl ?_
                              have hkp1788 : Kp B X1784 wr1783 T := (Kp.trans hkp1778 h1787)
                              refine r_sti (f := (X1784 13)) (j := nd2) hx hb hE hP hD hS 13 (ma_13 G a _) rfl (mas_13 G a _) (by omega) (by decide) dX12_attempt_136 (fun H locs hP hD hS => ?_)
                              have hP : va_P G.1 pCl (mW G h0 a (upd (upd (upd (upd (upd (upd (upd F 15 (nI fa1461)) 16 pl1782) 27 (nI ((nd2 + 1) + 1))) 31 (nI wr1783)) 64 (nI at1460)) 65 (nI ne)) 66 (nI lk2)) (updA (stR X1784 13 nd2 (nI (nd2 + 1))) 2 K)) _ := mW_to (F := F) (l1 := [(15, (nI fa1461)), (16, pl1782), (27, (nI ((nd2 + 1) + 1))), (31, (nI wr1783)), (64, (nI at1460)), (65, (nI ne)), (66, (nI lk2))]) (l2 := [(15, (nI fa1461)), (16, pl1782), (27, (nI ((nd2 + 1) + 1))), (31, (nI wr1783)), (64, (nI at1460)), (65, (nI ne)), (66, (nI lk2))]) (V := [(nI fa1461), pl1782, (nI ((nd2 + 1) + 1)), (nI wr1783), (nI at1460), (nI ne), (nI lk2), (nI fa1461), pl1782, (nI ((nd2 + 1) + 1)), (nI wr1783), (nI at1460), (nI ne), (nI lk2)]) rfl rfl (show (updA (updA X1784 2 K) 13 (upd (X1784 13) nd2 (nI (nd2 + 1)))) = (updA (stR X1784 13 nd2 (nI (nd2 + 1))) 2 K) from updsA_eq2 (F := X1784) (l1 := [(2, K), (13, (upd (X1784 13) nd2 (nI (nd2 + 1))))]) (l2 := [(13, (upd (X1784 13) nd2 (nI (nd2 + 1)))), (2, K)]) (V := [K, (upd (X1784 13) nd2 (nI (nd2 + 1))), (upd (X1784 13) nd2 (nI (nd2 + 1))), K]) rfl rfl) hP
                              have hD : va_D A (mW G h0 a (upd (upd (upd (upd (upd (upd (upd F 15 (nI fa1461)) 16 pl1782) 27 (nI ((nd2 + 1) + 1))) 31 (nI wr1783)) 64 (nI at1460)) 65 (nI ne)) 66 (nI lk2)) (updA (stR X1784 13 nd2 (nI (nd2 + 1))) 2 K)) := mW_D hD
                              have hkp1789 : Kp B (stR X1784 13 nd2 (nI (nd2 + 1))) wr1783 T := (Kp.row hkp1788 (by omega))
                              refine lv_iload_n hx hb dX12_attempt_137 rfl (lv_at hl 4 rfl) ?_
                              refine lv_iconst (v := (-1)) hx hb dX12_attempt_138 (by decide) ?_
                              refine lv_icmp_ne (tgt := 153) hx hb dX12_attempt_139 (by decide) (fun c1790 => ?_) (fun c1790 => absurd c1790 (nI_m1 (by omega)))
                              refine lv_aload_n hx hb dX12_attempt_153 rfl (lv_at hl 6 rfl) ?_
                              refine r_get (v := .ref (a 16)) hx hb hown hq hE hP 24 59 tFX12_24 (by decide) pw_1446 rfl dX12_attempt_154 ?_
                              refine lv_iload_n hx hb dX12_attempt_157 rfl (lv_at hl 4 rfl) ?_
                              refine lv_iload hx hb dX12_attempt_158 (lv_at hl 0 rfl) ?_
                              refine r_sti (f := ((stR X1784 13 nd2 (nI (nd2 + 1))) 16)) (j := la) hx hb hE hP hD hS 16 (ma_16 G a _) rfl (mas_16 G a _) (by omega) (by decide) dX12_attempt_160 (fun H locs hP hD hS => ?_)
                              have hP : va_P G.1 pCl (mW G h0 a (upd (upd (upd (upd (upd (upd (upd F 15 (nI fa1461)) 16 pl1782) 27 (nI ((nd2 + 1) + 1))) 31 (nI wr1783)) 64 (nI at1460)) 65 (nI ne)) 66 (nI lk2)) (updA (stR (stR X1784 13 nd2 (nI (nd2 + 1))) 16 la (nI nd2)) 2 K)) _ := mW_to (F := F) (l1 := [(15, (nI fa1461)), (16, pl1782), (27, (nI ((nd2 + 1) + 1))), (31, (nI wr1783)), (64, (nI at1460)), (65, (nI ne)), (66, (nI lk2))]) (l2 := [(15, (nI fa1461)), (16, pl1782), (27, (nI ((nd2 + 1) + 1))), (31, (nI wr1783)), (64, (nI at1460)), (65, (nI ne)), (66, (nI lk2))]) (V := [(nI fa1461), pl1782, (nI ((nd2 + 1) + 1)), (nI wr1783), (nI at1460), (nI ne), (nI lk2), (nI fa1461), pl1782, (nI ((nd2 + 1) + 1)), (nI wr1783), (nI at1460), (nI ne), (nI lk2)]) rfl rfl (show (updA (updA (stR X1784 13 nd2 (nI (nd2 + 1))) 2 K) 16 (upd ((stR X1784 13 nd2 (nI (nd2 + 1))) 16) la (nI nd2))) = (updA (stR (stR X1784 13 nd2 (nI (nd2 + 1))) 16 la (nI nd2)) 2 K) from updsA_eq2 (F := X1784) (l1 := [(13, (upd (X1784 13) nd2 (nI (nd2 + 1)))), (2, K), (16, (upd ((stR X1784 13 nd2 (nI (nd2 + 1))) 16) la (nI nd2)))]) (l2 := [(13, (upd (X1784 13) nd2 (nI (nd2 + 1)))), (16, (upd ((stR X1784 13 nd2 (nI (nd2 + 1))) 16) la (nI nd2))), (2, K)]) (V := [(upd (X1784 13) nd2 (nI (nd2 + 1))), K, (upd ((stR X1784 13 nd2 (nI (nd2 + 1))) 16) la (nI nd2)), (upd (X1784 13) nd2 (nI (nd2 + 1))), (upd ((stR X1784 13 nd2 (nI (nd2 + 1))) 16) la (nI nd2)), K]) rfl rfl) hP
                              have hD : va_D A (mW G h0 a (upd (upd (upd (upd (upd (upd (upd F 15 (nI fa1461)) 16 pl1782) 27 (nI ((nd2 + 1) + 1))) 31 (nI wr1783)) 64 (nI at1460)) 65 (nI ne)) 66 (nI lk2)) (updA (stR (stR X1784 13 nd2 (nI (nd2 + 1))) 16 la (nI nd2)) 2 K)) := mW_D hD
                              have hkp1791 : Kp B (stR (stR X1784 13 nd2 (nI (nd2 + 1))) 16 la (nI nd2)) wr1783 T := (Kp.row hkp1789 (by omega))
                              refine lv_iload hx hb dX12_attempt_161 (lv_at hl 0 rfl) ?_
                              refine lv_istore_n (lv' := [(2, .int (nI nd2)), (6, .int (nI nd2)), (5, .int (nI at1460)), (4, .int (nI at1445)), (3, .int (nI (at1428 - 1))), (1, .int (nI nd)), (0, .ref h0)]) hx hb dX12_attempt_163 rfl hl (by decide) rfl (fun ls hl => ?_)
                              refine lv_goto (tgt := 71) hx hb dX12_attempt_164 (by decide) ?_
                              refine lv_aload_n hx hb dX12_attempt_71 rfl (lv_at hl 6 rfl) ?_
                              refine lv_sipush (v := 313) hx hb dX12_attempt_72 (by decide) ?_
                              have hP : va_P G.1 pCl (mW G h0 a (upd (upd (upd (upd (upd (upd (upd (upd (upd F 15 (nI fa1461)) 16 pl1782) 27 (nI ((nd2 + 1) + 1))) 31 (nI wr1783)) 64 (nI at1460)) 65 (nI ne)) 66 (nI lk2)) 15 (nI fa1461)) 64 (nI at1460)) (updA (updA (stR (stR X1784 13 nd2 (nI (nd2 + 1))) 16 la (nI nd2)) 2 K) 2 K)) _ := mW_to (F := F) (l1 := [(15, (nI fa1461)), (16, pl1782), (27, (nI ((nd2 + 1) + 1))), (31, (nI wr1783)), (64, (nI at1460)), (65, (nI ne)), (66, (nI lk2))]) (l2 := [(15, (nI fa1461)), (16, pl1782), (27, (nI ((nd2 + 1) + 1))), (31, (nI wr1783)), (64, (nI at1460)), (65, (nI ne)), (66, (nI lk2)), (15, (nI fa1461)), (64, (nI at1460))]) (V := [(nI fa1461), pl1782, (nI ((nd2 + 1) + 1)), (nI wr1783), (nI at1460), (nI ne), (nI lk2), (nI fa1461), pl1782, (nI ((nd2 + 1) + 1)), (nI wr1783), (nI at1460), (nI ne), (nI lk2), (nI fa1461), (nI at1460)]) rfl rfl (show (updA (stR (stR X1784 13 nd2 (nI (nd2 + 1))) 16 la (nI nd2)) 2 K) = (updA (updA (stR (stR X1784 13 nd2 (nI (nd2 + 1))) 16 la (nI nd2)) 2 K) 2 K) from updsA_eq2 (F := X1784) (l1 := [(13, (upd (X1784 13) nd2 (nI (nd2 + 1)))), (16, (upd ((stR X1784 13 nd2 (nI (nd2 + 1))) 16) la (nI nd2))), (2, K)]) (l2 := [(13, (upd (X1784 13) nd2 (nI (nd2 + 1)))), (16, (upd ((stR X1784 13 nd2 (nI (nd2 + 1))) 16) la (nI nd2))), (2, K), (2, K)]) (V := [(upd (X1784 13) nd2 (nI (nd2 + 1))), (upd ((stR X1784 13 nd2 (nI (nd2 + 1))) 16) la (nI nd2)), K, (upd (X1784 13) nd2 (nI (nd2 + 1))), (upd ((stR X1784 13 nd2 (nI (nd2 + 1))) 16) la (nI nd2)), K, K]) rfl rfl) hP
                              have hD : va_D A (mW G h0 a (upd (upd (upd (upd (upd (upd (upd (upd (upd F 15 (nI fa1461)) 16 pl1782) 27 (nI ((nd2 + 1) + 1))) 31 (nI wr1783)) 64 (nI at1460)) 65 (nI ne)) 66 (nI lk2)) 15 (nI fa1461)) 64 (nI at1460)) (updA (updA (stR (stR X1784 13 nd2 (nI (nd2 + 1))) 16 la (nI nd2)) 2 K) 2 K)) := mW_D hD
                              refine pc_V0 (G := G) (As := [.int 313]) (rest := []) hx hb hml hown hq hE hX pX0_al hP hD hS hA hl.1 (R_may l G h0 a (upd (upd (upd (upd (upd (upd (upd F 15 (nI fa1461)) 16 pl1782) 27 (nI ((nd2 + 1) + 1))) 31 (nI wr1783)) 64 (nI at1460)) 65 (nI ne)) 66 (nI lk2)) (updA (stR (stR X1784 13 nd2 (nI (nd2 + 1))) 16 la (nI nd2)) 2 K) at1460 T fa1461 K 313 (by omega) (by omega) hK (by omega) (by decide) (by decide)) (gV pw_1621 pw_1622 pw_1623 pw_1523 pw_1605) hV_X12_may 0 9 rfl rfl rfl rfl (Nat.le_of_ble_eq_true rfl) dX12_attempt_75 ⟨Nat.le_of_ble_eq_true rfl, Nat.le_of_ble_eq_true rfl⟩ ⟨(by show 3 + 1 ≤ (26 * n + 43); omega), (by show 8 + (3 + 11) + 81 ≤ (2000 * n + 4300); omega)⟩ (fun v1794 u1792 H locs hw1793 hP hD hS => ?_)
                              obtain ⟨at1795, r1796⟩ := u1792
                              obtain ⟨hw1793, h1797, h1798, h1799, h1800, h1801, h1802⟩ := hw1793
                              have h1797 : r1796 ≤ 1 := h1797
                              have h1798 : fa1461 + 100 * r1796 ≤ 100 := h1798
                              have h1799 : at1795 = at1460 + r1796 := h1799
                              have h1800 : at1795 ≤ T := h1800
                              have h1801 : If (r1796 = 1) (K at1460 = 313) := h1801
                              have h1802 : If (r1796 = 0) (fa1461 = 0 → ¬ K at1460 = 313) := h1802
                              obtain rfl : v1794 = some (.int (nI r1796)) := hw1793
                              have hP : va_P G.1 pCl (mW G h0 a (upd (upd (upd (upd (upd (upd (upd F 15 (nI fa1461)) 16 pl1782) 27 (nI ((nd2 + 1) + 1))) 31 (nI wr1783)) 64 (nI at1795)) 65 (nI ne)) 66 (nI lk2)) (updA (stR (stR X1784 13 nd2 (nI (nd2 + 1))) 16 la (nI nd2)) 2 K)) _ := mW_to (F := F) (l1 := [(15, (nI fa1461)), (16, pl1782), (27, (nI ((nd2 + 1) + 1))), (31, (nI wr1783)), (64, (nI at1460)), (65, (nI ne)), (66, (nI lk2)), (15, (nI fa1461)), (64, (nI at1795))]) (l2 := [(15, (nI fa1461)), (16, pl1782), (27, (nI ((nd2 + 1) + 1))), (31, (nI wr1783)), (64, (nI at1795)), (65, (nI ne)), (66, (nI lk2))]) (V := [(nI fa1461), pl1782, (nI ((nd2 + 1) + 1)), (nI wr1783), (nI at1795), (nI ne), (nI lk2), (nI fa1461), (nI at1795), (nI fa1461), pl1782, (nI ((nd2 + 1) + 1)), (nI wr1783), (nI at1795), (nI ne), (nI lk2)]) rfl rfl (show (updA (updA (stR (stR X1784 13 nd2 (nI (nd2 + 1))) 16 la (nI nd2)) 2 K) 2 K) = (updA (stR (stR X1784 13 nd2 (nI (nd2 + 1))) 16 la (nI nd2)) 2 K) from updsA_eq2 (F := X1784) (l1 := [(13, (upd (X1784 13) nd2 (nI (nd2 + 1)))), (16, (upd ((stR X1784 13 nd2 (nI (nd2 + 1))) 16) la (nI nd2))), (2, K), (2, K)]) (l2 := [(13, (upd (X1784 13) nd2 (nI (nd2 + 1)))), (16, (upd ((stR X1784 13 nd2 (nI (nd2 + 1))) 16) la (nI nd2))), (2, K)]) (V := [(upd (X1784 13) nd2 (nI (nd2 + 1))), (upd ((stR X1784 13 nd2 (nI (nd2 + 1))) 16) la (nI nd2)), K, K, (upd (X1784 13) nd2 (nI (nd2 + 1))), (upd ((stR X1784 13 nd2 (nI (nd2 + 1))) 16) la (nI nd2)), K]) rfl rfl) hP
                              have hD : va_D A (mW G h0 a (upd (upd (upd (upd (upd (upd (upd F 15 (nI fa1461)) 16 pl1782) 27 (nI ((nd2 + 1) + 1))) 31 (nI wr1783)) 64 (nI at1795)) 65 (nI ne)) 66 (nI lk2)) (updA (stR (stR X1784 13 nd2 (nI (nd2 + 1))) 16 la (nI nd2)) 2 K)) := mW_D hD
                              refine W.widen (k := 0) (n := 0) (Nat.le_of_ble_eq_true rfl) (Nat.le_of_ble_eq_true rfl) ?_
                              refine W.eq (g2 := F0 m 78 ls [.int (nI r1796)]) rfl ?_
                              obtain rfl : at1460 = at1795 := (by omega)
                              refine lv_if_eq (tgt := 167) hx hb dX12_attempt_78 (by decide) (fun c1803 => ?_) (fun c1803 => (by have n1804 : ¬ (r1796 = 0) := fun h9 => c1803 ((nI_eq (a := r1796) (b := 0) (by omega) (by omega)).mpr h9); omega))
                              refine lv_aload_n hx hb dX12_attempt_167 rfl (lv_at hl 6 rfl) ?_
                              refine lv_sipush (v := 319) hx hb dX12_attempt_168 (by decide) ?_
                              have hP : va_P G.1 pCl (mW G h0 a (upd (upd (upd (upd (upd (upd (upd (upd (upd F 15 (nI fa1461)) 16 pl1782) 27 (nI ((nd2 + 1) + 1))) 31 (nI wr1783)) 64 (nI at1460)) 65 (nI ne)) 66 (nI lk2)) 15 (nI fa1461)) 64 (nI at1460)) (updA (updA (stR (stR X1784 13 nd2 (nI (nd2 + 1))) 16 la (nI nd2)) 2 K) 2 K)) _ := hP
                              have hD : va_D A (mW G h0 a (upd (upd (upd (upd (upd (upd (upd (upd (upd F 15 (nI fa1461)) 16 pl1782) 27 (nI ((nd2 + 1) + 1))) 31 (nI wr1783)) 64 (nI at1460)) 65 (nI ne)) 66 (nI lk2)) 15 (nI fa1461)) 64 (nI at1460)) (updA (updA (stR (stR X1784 13 nd2 (nI (nd2 + 1))) 16 la (nI nd2)) 2 K) 2 K)) := mW_D hD
                              refine pc_V0 (G := G) (As := [.int 319]) (rest := []) hx hb hml hown hq hE hX pX0_al hP hD hS hA hl.1 (R_may l G h0 a (upd (upd (upd (upd (upd (upd (upd F 15 (nI fa1461)) 16 pl1782) 27 (nI ((nd2 + 1) + 1))) 31 (nI wr1783)) 64 (nI at1460)) 65 (nI ne)) 66 (nI lk2)) (updA (stR (stR X1784 13 nd2 (nI (nd2 + 1))) 16 la (nI nd2)) 2 K) at1460 T fa1461 K 319 (by omega) (by omega) hK (by omega) (by decide) (by decide)) (gV pw_1621 pw_1622 pw_1623 pw_1523 pw_1605) hV_X12_may 0 9 rfl rfl rfl rfl (Nat.le_of_ble_eq_true rfl) dX12_attempt_171 ⟨Nat.le_of_ble_eq_true rfl, Nat.le_of_ble_eq_true rfl⟩ ⟨(by show 3 + 1 ≤ (26 * n + 43); omega), (by show 8 + (3 + 11) + 81 ≤ (2000 * n + 4300); omega)⟩ (fun v1807 u1805 H locs hw1806 hP hD hS => ?_)
                              obtain ⟨at1808, r1809⟩ := u1805
                              obtain ⟨hw1806, h1810, h1811, h1812, h1813, h1814, h1815⟩ := hw1806
                              have h1810 : r1809 ≤ 1 := h1810
                              have h1811 : fa1461 + 100 * r1809 ≤ 100 := h1811
                              have h1812 : at1808 = at1460 + r1809 := h1812
                              have h1813 : at1808 ≤ T := h1813
                              have h1814 : If (r1809 = 1) (K at1460 = 319) := h1814
                              have h1815 : If (r1809 = 0) (fa1461 = 0 → ¬ K at1460 = 319) := h1815
                              obtain rfl : v1807 = some (.int (nI r1809)) := hw1806
                              have hP : va_P G.1 pCl (mW G h0 a (upd (upd (upd (upd (upd (upd (upd F 15 (nI fa1461)) 16 pl1782) 27 (nI ((nd2 + 1) + 1))) 31 (nI wr1783)) 64 (nI at1808)) 65 (nI ne)) 66 (nI lk2)) (updA (stR (stR X1784 13 nd2 (nI (nd2 + 1))) 16 la (nI nd2)) 2 K)) _ := mW_to (F := F) (l1 := [(15, (nI fa1461)), (16, pl1782), (27, (nI ((nd2 + 1) + 1))), (31, (nI wr1783)), (64, (nI at1460)), (65, (nI ne)), (66, (nI lk2)), (15, (nI fa1461)), (64, (nI at1808))]) (l2 := [(15, (nI fa1461)), (16, pl1782), (27, (nI ((nd2 + 1) + 1))), (31, (nI wr1783)), (64, (nI at1808)), (65, (nI ne)), (66, (nI lk2))]) (V := [(nI fa1461), pl1782, (nI ((nd2 + 1) + 1)), (nI wr1783), (nI at1808), (nI ne), (nI lk2), (nI fa1461), (nI at1808), (nI fa1461), pl1782, (nI ((nd2 + 1) + 1)), (nI wr1783), (nI at1808), (nI ne), (nI lk2)]) rfl rfl (show (updA (updA (stR (stR X1784 13 nd2 (nI (nd2 + 1))) 16 la (nI nd2)) 2 K) 2 K) = (updA (stR (stR X1784 13 nd2 (nI (nd2 + 1))) 16 la (nI nd2)) 2 K) from updsA_eq2 (F := X1784) (l1 := [(13, (upd (X1784 13) nd2 (nI (nd2 + 1)))), (16, (upd ((stR X1784 13 nd2 (nI (nd2 + 1))) 16) la (nI nd2))), (2, K), (2, K)]) (l2 := [(13, (upd (X1784 13) nd2 (nI (nd2 + 1)))), (16, (upd ((stR X1784 13 nd2 (nI (nd2 + 1))) 16) la (nI nd2))), (2, K)]) (V := [(upd (X1784 13) nd2 (nI (nd2 + 1))), (upd ((stR X1784 13 nd2 (nI (nd2 + 1))) 16) la (nI nd2)), K, K, (upd (X1784 13) nd2 (nI (nd2 + 1))), (upd ((stR X1784 13 nd2 (nI (nd2 + 1))) 16) la (nI nd2)), K]) rfl rfl) hP
                              have hD : va_D A (mW G h0 a (upd (upd (upd (upd (upd (upd (upd F 15 (nI fa1461)) 16 pl1782) 27 (nI ((nd2 + 1) + 1))) 31 (nI wr1783)) 64 (nI at1808)) 65 (nI ne)) 66 (nI lk2)) (updA (stR (stR X1784 13 nd2 (nI (nd2 + 1))) 16 la (nI nd2)) 2 K)) := mW_D hD
                              refine W.widen (k := 0) (n := 0) (Nat.le_of_ble_eq_true rfl) (Nat.le_of_ble_eq_true rfl) ?_
                              refine W.eq (g2 := F0 m 174 ls [.int (nI r1809)]) rfl ?_
                              obtain rfl : at1460 = at1808 := (by omega)
                              refine lv_if_eq (tgt := 187) hx hb dX12_attempt_174 (by decide) (fun c1816 => ?_) (fun c1816 => (by have n1817 : ¬ (r1809 = 0) := fun h9 => c1816 ((nI_eq (a := r1809) (b := 0) (by omega) (by omega)).mpr h9); omega))
                              refine lv_iload_n hx hb dX12_attempt_187 rfl (lv_at hl 5 rfl) ?_
                              have hz1818 : at0 ≤ at1460 := (by omega)
                              have hz1819 : at1460 ≤ T := (by omega)
                              have hz1820 : fa1461 ≤ 100 := (by omega)
                              have hz1821 : nd ≤ ((nd2 + 1) + 1) := (by omega)
                              have hz1822 : ((nd2 + 1) + 1) + 2 * at0 ≤ nd + 2 * at1460 + 100000 * fa1461 := (by omega)
                              have hz1823 : ((nd2 + 1) + 1) + 2 * at0 ≤ nd + 2 * at1460 + (60 * (21 - ne) + 40) := (by omega)
                              have hz1824 : wr ≤ wr1783 := (by omega)
                              have hz1825 : wr1783 + at0 ≤ wr + at1460 := (by omega)
                              have hz1826 : lk ≤ lk2 := (by omega)
                              have hz1827 : lk2 ≤ 60 + 100 * fa1461 := (by omega)
                              have hz1828 : at0 + 1 ≤ at1460 + fa1461 := (by omega)
                              have hz1829 : nd ≤ ((nd2 + 1) + 1) := (by omega)
                              have hz1830 : Kp B (stR (stR X1784 13 nd2 (nI (nd2 + 1))) 16 la (nI nd2)) wr1783 T := hkp1791
                              have hz1831 : If (fa1461 = 0) (Low B (stR (stR X1784 13 nd2 (nI (nd2 + 1))) 16 la (nI nd2)) nd wr ∧ Frs K T wr1783 (stR (stR X1784 13 nd2 (nI (nd2 + 1))) 16 la (nI nd2)) nd ((nd2 + 1) + 1) 20000 [(nd, (280 + 4 * (21 - ne)))] ∧ kcl 3 ((stR (stR X1784 13 nd2 (nI (nd2 + 1))) 16 la (nI nd2)) 9 nd) = true) := (fun e => absurd e (by omega))
                              have hP : va_P G.1 pCl (mW G h0 a (upd (upd (upd (upd (upd (upd (upd F 15 (nI fa1461)) 16 pl1782) 27 (nI ((nd2 + 1) + 1))) 31 (nI wr1783)) 64 (nI at1460)) 65 (nI ne)) 66 (nI lk2)) (updA (stR (stR X1784 13 nd2 (nI (nd2 + 1))) 16 la (nI nd2)) 2 K)) _ := hP
                              have hD : va_D A (mW G h0 a (upd (upd (upd (upd (upd (upd (upd F 15 (nI fa1461)) 16 pl1782) 27 (nI ((nd2 + 1) + 1))) 31 (nI wr1783)) 64 (nI at1460)) 65 (nI ne)) 66 (nI lk2)) (updA (stR (stR X1784 13 nd2 (nI (nd2 + 1))) 16 la (nI nd2)) 2 K)) := mW_D hD
                              exact W.iret (v := (nI nd)) hx hb hr (fun t9 ht9 hW9 => ⟨⟨_, (at1460, fa1461, pl1782, ((nd2 + 1) + 1), lk2, wr1783, nd, (stR (stR X1784 13 nd2 (nI (nd2 + 1))) 16 la (nI nd2))), rfl, ⟨rfl, hz1818, hz1819, hz1820, hz1821, hz1822, hz1823, hz1824, hz1825, hz1826, hz1827, hz1828, hz1829, hz1830, hz1831⟩, by rw [ht9]; exact hP, hD⟩, hS.F ht9⟩) hS.2.2 dX12_attempt_188
                          · have e1456 := e1456
                            refine lv_aload_n hx hb dX12_attempt_94 rfl (lv_at hl 3 rfl) ?_
                            have hP : va_P G.1 pCl (mW G h0 a (upd (upd (upd (upd (upd (upd (upd (upd (upd F 15 (nI fa1446)) 16 pl1447) 27 (nI nd2)) 31 (nI wr2)) 64 (nI at1445)) 65 (nI ne)) 66 (nI lk2)) 15 (nI fa1446)) 64 (nI at1445)) (updA (updA X2 2 K) 2 K)) _ := mW_to (F := F) (l1 := [(15, (nI fa1446)), (16, pl1447), (27, (nI nd2)), (31, (nI wr2)), (64, (nI at1445)), (65, (nI ne)), (66, (nI lk2))]) (l2 := [(15, (nI fa1446)), (16, pl1447), (27, (nI nd2)), (31, (nI wr2)), (64, (nI at1445)), (65, (nI ne)), (66, (nI lk2)), (15, (nI fa1446)), (64, (nI at1445))]) (V := [(nI fa1446), pl1447, (nI nd2), (nI wr2), (nI at1445), (nI ne), (nI lk2), (nI fa1446), pl1447, (nI nd2), (nI wr2), (nI at1445), (nI ne), (nI lk2), (nI fa1446), (nI at1445)]) rfl rfl (show (updA X2 2 K) = (updA (updA X2 2 K) 2 K) from updsA_eq2 (F := X2) (l1 := [(2, K)]) (l2 := [(2, K), (2, K)]) (V := [K, K, K]) rfl rfl) hP
                            have hD : va_D A (mW G h0 a (upd (upd (upd (upd (upd (upd (upd (upd (upd F 15 (nI fa1446)) 16 pl1447) 27 (nI nd2)) 31 (nI wr2)) 64 (nI at1445)) 65 (nI ne)) 66 (nI lk2)) 15 (nI fa1446)) 64 (nI at1445)) (updA (updA X2 2 K) 2 K)) := mW_D hD
                            refine pc_V0 (G := G) (As := []) (rest := []) hx hb hml hown hq hE hX pX0_al hP hD hS hA hl.1 (R_name l G h0 a (upd (upd (upd (upd (upd (upd (upd F 15 (nI fa1446)) 16 pl1447) 27 (nI nd2)) 31 (nI wr2)) 64 (nI at1445)) 65 (nI ne)) 66 (nI lk2)) (updA X2 2 K) at1445 T fa1446 K (by omega) (by omega) hK (by omega)) (gV pw_1618 pw_1619 pw_1620 pw_1523 pw_1613) hV_X12_name 0 9 rfl rfl rfl rfl (Nat.le_of_ble_eq_true rfl) dX12_attempt_95 ⟨Nat.le_of_ble_eq_true rfl, Nat.le_of_ble_eq_true rfl⟩ ⟨(by show 5 + 1 ≤ (26 * n + 43); omega), (by show 8 + (2 + 11) + 124 ≤ (2000 * n + 4300); omega)⟩ (fun v1834 u1832 H locs hw1833 hP hD hS => ?_)
                            obtain ⟨at1835, fa1836, pl1837⟩ := u1832
                            obtain ⟨hw1833, h1838, h1839, h1840, h1841, h1842, h1843, h1844, h1845⟩ := hw1833
                            have h1838 : at1445 ≤ at1835 := h1838
                            have h1839 : at1835 ≤ T := h1839
                            have h1840 : fa1446 ≤ fa1836 := h1840
                            have h1841 : fa1836 ≤ 100 := h1841
                            have h1842 : If (0 < fa1446) (at1835 = at1445 ∧ fa1836 = fa1446) := h1842
                            have h1843 : at1835 ≤ at1445 + 1 := h1843
                            have h1844 : at1445 + 1 ≤ at1835 + fa1836 := h1844
                            have h1845 : If (fa1836 = 0) (K at1445 = 1) := h1845
                            obtain rfl : v1834 = some (.int (nI at1445)) := hw1833
                            have hP : va_P G.1 pCl (mW G h0 a (upd (upd (upd (upd (upd (upd (upd F 15 (nI fa1836)) 16 pl1837) 27 (nI nd2)) 31 (nI wr2)) 64 (nI at1835)) 65 (nI ne)) 66 (nI lk2)) (updA X2 2 K)) _ := mW_to (F := F) (l1 := [(15, (nI fa1446)), (16, pl1447), (27, (nI nd2)), (31, (nI wr2)), (64, (nI at1445)), (65, (nI ne)), (66, (nI lk2)), (15, (nI fa1836)), (16, pl1837), (64, (nI at1835))]) (l2 := [(15, (nI fa1836)), (16, pl1837), (27, (nI nd2)), (31, (nI wr2)), (64, (nI at1835)), (65, (nI ne)), (66, (nI lk2))]) (V := [(nI fa1836), pl1837, (nI nd2), (nI wr2), (nI at1835), (nI ne), (nI lk2), (nI fa1836), pl1837, (nI at1835), (nI fa1836), pl1837, (nI nd2), (nI wr2), (nI at1835), (nI ne), (nI lk2)]) rfl rfl (show (updA (updA X2 2 K) 2 K) = (updA X2 2 K) from updsA_eq2 (F := X2) (l1 := [(2, K), (2, K)]) (l2 := [(2, K)]) (V := [K, K, K]) rfl rfl) hP
                            have hD : va_D A (mW G h0 a (upd (upd (upd (upd (upd (upd (upd F 15 (nI fa1836)) 16 pl1837) 27 (nI nd2)) 31 (nI wr2)) 64 (nI at1835)) 65 (nI ne)) 66 (nI lk2)) (updA X2 2 K)) := mW_D hD
                            refine W.widen (k := 0) (n := 0) (Nat.le_of_ble_eq_true rfl) (Nat.le_of_ble_eq_true rfl) ?_
                            refine W.eq (g2 := F0 m 98 ls [.int (nI at1445)]) rfl ?_
                            obtain ⟨n1847, n1846⟩ := h1842 e1456
                            replace n1847 := n1847.symm
                            subst n1847
                            replace n1846 := n1846.symm
                            subst n1846
                            refine lv_istore (lv' := [(4, .int (nI at1445)), (3, .int (nI (at1428 - 1))), (2, .int (nI la)), (1, .int (nI nd)), (0, .ref h0)]) hx hb dX12_attempt_98 hl (by decide) rfl (fun ls hl => ?_)
                            refine lv_aload_n hx hb dX12_attempt_100 rfl (lv_at hl 4 rfl) ?_
                            have hP : va_P G.1 pCl (mW G h0 a (upd (upd (upd (upd (upd (upd (upd (upd (upd F 15 (nI fa1446)) 16 pl1837) 27 (nI nd2)) 31 (nI wr2)) 64 (nI at1445)) 65 (nI ne)) 66 (nI lk2)) 15 (nI fa1446)) 64 (nI at1445)) (updA (updA X2 2 K) 2 K)) _ := hP
                            have hD : va_D A (mW G h0 a (upd (upd (upd (upd (upd (upd (upd (upd (upd F 15 (nI fa1446)) 16 pl1837) 27 (nI nd2)) 31 (nI wr2)) 64 (nI at1445)) 65 (nI ne)) 66 (nI lk2)) 15 (nI fa1446)) 64 (nI at1445)) (updA (updA X2 2 K) 2 K)) := mW_D hD
                            refine pc_V0 (G := G) (As := []) (rest := []) hx hb hml hown hq hE hX pX0_al hP hD hS hA hl.1 (R_name l G h0 a (upd (upd (upd (upd (upd (upd (upd F 15 (nI fa1446)) 16 pl1837) 27 (nI nd2)) 31 (nI wr2)) 64 (nI at1445)) 65 (nI ne)) 66 (nI lk2)) (updA X2 2 K) at1445 T fa1446 K (by omega) (by omega) hK (by omega)) (gV pw_1618 pw_1619 pw_1620 pw_1523 pw_1613) hV_X12_name 0 9 rfl rfl rfl rfl (Nat.le_of_ble_eq_true rfl) dX12_attempt_101 ⟨Nat.le_of_ble_eq_true rfl, Nat.le_of_ble_eq_true rfl⟩ ⟨(by show 5 + 1 ≤ (26 * n + 43); omega), (by show 8 + (2 + 11) + 124 ≤ (2000 * n + 4300); omega)⟩ (fun v1850 u1848 H locs hw1849 hP hD hS => ?_)
                            obtain ⟨at1851, fa1852, pl1853⟩ := u1848
                            obtain ⟨hw1849, h1854, h1855, h1856, h1857, h1858, h1859, h1860, h1861⟩ := hw1849
                            have h1854 : at1445 ≤ at1851 := h1854
                            have h1855 : at1851 ≤ T := h1855
                            have h1856 : fa1446 ≤ fa1852 := h1856
                            have h1857 : fa1852 ≤ 100 := h1857
                            have h1858 : If (0 < fa1446) (at1851 = at1445 ∧ fa1852 = fa1446) := h1858
                            have h1859 : at1851 ≤ at1445 + 1 := h1859
                            have h1860 : at1445 + 1 ≤ at1851 + fa1852 := h1860
                            have h1861 : If (fa1852 = 0) (K at1445 = 1) := h1861
                            obtain rfl : v1850 = some (.int (nI at1445)) := hw1849
                            have hP : va_P G.1 pCl (mW G h0 a (upd (upd (upd (upd (upd (upd (upd F 15 (nI fa1852)) 16 pl1853) 27 (nI nd2)) 31 (nI wr2)) 64 (nI at1851)) 65 (nI ne)) 66 (nI lk2)) (updA X2 2 K)) _ := mW_to (F := F) (l1 := [(15, (nI fa1446)), (16, pl1837), (27, (nI nd2)), (31, (nI wr2)), (64, (nI at1445)), (65, (nI ne)), (66, (nI lk2)), (15, (nI fa1852)), (16, pl1853), (64, (nI at1851))]) (l2 := [(15, (nI fa1852)), (16, pl1853), (27, (nI nd2)), (31, (nI wr2)), (64, (nI at1851)), (65, (nI ne)), (66, (nI lk2))]) (V := [(nI fa1852), pl1853, (nI nd2), (nI wr2), (nI at1851), (nI ne), (nI lk2), (nI fa1852), pl1853, (nI at1851), (nI fa1852), pl1853, (nI nd2), (nI wr2), (nI at1851), (nI ne), (nI lk2)]) rfl rfl (show (updA (updA X2 2 K) 2 K) = (updA X2 2 K) from updsA_eq2 (F := X2) (l1 := [(2, K), (2, K)]) (l2 := [(2, K)]) (V := [K, K, K]) rfl rfl) hP
                            have hD : va_D A (mW G h0 a (upd (upd (upd (upd (upd (upd (upd F 15 (nI fa1852)) 16 pl1853) 27 (nI nd2)) 31 (nI wr2)) 64 (nI at1851)) 65 (nI ne)) 66 (nI lk2)) (updA X2 2 K)) := mW_D hD
                            refine W.widen (k := 0) (n := 0) (Nat.le_of_ble_eq_true rfl) (Nat.le_of_ble_eq_true rfl) ?_
                            refine W.eq (g2 := F0 m 104 ls [.int (nI at1445)]) rfl ?_
                            obtain ⟨n1863, n1862⟩ := h1858 e1456
                            replace n1863 := n1863.symm
                            subst n1863
                            replace n1862 := n1862.symm
                            subst n1862
                            refine lv_istore (lv' := [(5, .int (nI at1445)), (4, .int (nI at1445)), (3, .int (nI (at1428 - 1))), (2, .int (nI la)), (1, .int (nI nd)), (0, .ref h0)]) hx hb dX12_attempt_104 hl (by decide) rfl (fun ls hl => ?_)
                            refine lv_aload_n hx hb dX12_attempt_106 rfl (lv_at hl 5 rfl) ?_
                            refine lv_bipush (v := 41) hx hb dX12_attempt_107 (by decide) ?_
                            have hP : va_P G.1 pCl (mW G h0 a (upd (upd (upd (upd (upd (upd (upd (upd (upd F 15 (nI fa1446)) 16 pl1853) 27 (nI nd2)) 31 (nI wr2)) 64 (nI at1445)) 65 (nI ne)) 66 (nI lk2)) 15 (nI fa1446)) 64 (nI at1445)) (updA (updA X2 2 K) 2 K)) _ := hP
                            have hD : va_D A (mW G h0 a (upd (upd (upd (upd (upd (upd (upd (upd (upd F 15 (nI fa1446)) 16 pl1853) 27 (nI nd2)) 31 (nI wr2)) 64 (nI at1445)) 65 (nI ne)) 66 (nI lk2)) 15 (nI fa1446)) 64 (nI at1445)) (updA (updA X2 2 K) 2 K)) := mW_D hD
                            refine pc_V0 (G := G) (As := [.int 41]) (rest := []) hx hb hml hown hq hE hX pX0_al hP hD hS hA hl.1 (R_take l G h0 a (upd (upd (upd (upd (upd (upd (upd F 15 (nI fa1446)) 16 pl1853) 27 (nI nd2)) 31 (nI wr2)) 64 (nI at1445)) 65 (nI ne)) 66 (nI lk2)) (updA X2 2 K) at1445 T fa1446 K 41 (by omega) (by omega) hK (by omega) (by decide) (by decide)) (gV pw_1614 pw_1615 pw_1616 pw_1523 pw_1601) hV_X12_take 0 9 rfl rfl rfl rfl (Nat.le_of_ble_eq_true rfl) dX12_attempt_109 ⟨Nat.le_of_ble_eq_true rfl, Nat.le_of_ble_eq_true rfl⟩ ⟨(by show 4 + 1 ≤ (26 * n + 43); omega), (by show 8 + (2 + 11) + 103 ≤ (2000 * n + 4300); omega)⟩ (fun v1866 u1864 H locs hw1865 hP hD hS => ?_)
                            obtain ⟨at1867, fa1868, pl1869⟩ := u1864
                            obtain ⟨hw1865, h1870, h1871, h1872, h1873, h1874, h1875, h1876, h1877⟩ := hw1865
                            have h1870 : at1445 ≤ at1867 := h1870
                            have h1871 : at1867 ≤ T := h1871
                            have h1872 : fa1446 ≤ fa1868 := h1872
                            have h1873 : fa1868 ≤ 100 := h1873
                            have h1874 : If (0 < fa1446) (at1867 = at1445 ∧ fa1868 = fa1446) := h1874
                            have h1875 : at1867 ≤ at1445 + 1 := h1875
                            have h1876 : at1445 + 1 ≤ at1867 + fa1868 := h1876
                            have h1877 : If (fa1868 = 0) (K at1445 = 41) := h1877
                            obtain rfl : v1866 = none := hw1865
                            have hP : va_P G.1 pCl (mW G h0 a (upd (upd (upd (upd (upd (upd (upd F 15 (nI fa1868)) 16 pl1869) 27 (nI nd2)) 31 (nI wr2)) 64 (nI at1867)) 65 (nI ne)) 66 (nI lk2)) (updA X2 2 K)) _ := mW_to (F := F) (l1 := [(15, (nI fa1446)), (16, pl1853), (27, (nI nd2)), (31, (nI wr2)), (64, (nI at1445)), (65, (nI ne)), (66, (nI lk2)), (15, (nI fa1868)), (16, pl1869), (64, (nI at1867))]) (l2 := [(15, (nI fa1868)), (16, pl1869), (27, (nI nd2)), (31, (nI wr2)), (64, (nI at1867)), (65, (nI ne)), (66, (nI lk2))]) (V := [(nI fa1868), pl1869, (nI nd2), (nI wr2), (nI at1867), (nI ne), (nI lk2), (nI fa1868), pl1869, (nI at1867), (nI fa1868), pl1869, (nI nd2), (nI wr2), (nI at1867), (nI ne), (nI lk2)]) rfl rfl (show (updA (updA X2 2 K) 2 K) = (updA X2 2 K) from updsA_eq2 (F := X2) (l1 := [(2, K), (2, K)]) (l2 := [(2, K)]) (V := [K, K, K]) rfl rfl) hP
                            have hD : va_D A (mW G h0 a (upd (upd (upd (upd (upd (upd (upd F 15 (nI fa1868)) 16 pl1869) 27 (nI nd2)) 31 (nI wr2)) 64 (nI at1867)) 65 (nI ne)) 66 (nI lk2)) (updA X2 2 K)) := mW_D hD
                            refine W.widen (k := 0) (n := 0) (Nat.le_of_ble_eq_true rfl) (Nat.le_of_ble_eq_true rfl) ?_
                            refine W.eq (g2 := F0 m 112 ls []) rfl ?_
                            obtain ⟨n1879, n1878⟩ := h1874 e1456
                            replace n1879 := n1879.symm
                            subst n1879
                            replace n1878 := n1878.symm
                            subst n1878
                            refine lv_aload_n hx hb dX12_attempt_112 rfl (lv_at hl 5 rfl) ?_
                            refine lv_bipush (v := 44) hx hb dX12_attempt_113 (by decide) ?_
                            refine lv_iload_n hx hb dX12_attempt_115 rfl (lv_at hl 2 rfl) ?_
                            refine lv_iload hx hb dX12_attempt_116 (lv_at hl 0 rfl) ?_
                            refine lv_iload hx hb dX12_attempt_118 (lv_at hl 1 rfl) ?_
                            refine lv_iconst (v := (-1)) hx hb dX12_attempt_120 (by decide) ?_
                            have hP : va_P G.1 pCl (mW G h0 a (upd (upd (upd (upd (upd (upd (upd (upd F 15 (nI fa1446)) 16 pl1869) 27 (nI nd2)) 31 (nI wr2)) 64 (nI at1445)) 65 (nI ne)) 66 (nI lk2)) 27 (nI nd2)) (updA X2 2 K)) _ := hP
                            have hD : va_D A (mW G h0 a (upd (upd (upd (upd (upd (upd (upd (upd F 15 (nI fa1446)) 16 pl1869) 27 (nI nd2)) 31 (nI wr2)) 64 (nI at1445)) 65 (nI ne)) 66 (nI lk2)) 27 (nI nd2)) (updA X2 2 K)) := mW_D hD
                            refine pc_V0 (G := G) (As := [.int 44, .int (nI (at1428 - 1)), .int (nI at1445), .int (nI at1445), .int (-1)]) (rest := []) hx hb hml hown hq hE hX pX0_al hP hD hS hA hl.1 (R_nodeB l G h0 a (upd (upd (upd (upd (upd (upd (upd F 15 (nI fa1446)) 16 pl1869) 27 (nI nd2)) 31 (nI wr2)) 64 (nI at1445)) 65 (nI ne)) 66 (nI lk2)) X2 44 (nI (at1428 - 1)) (nI at1445) (nI at1445) (-1) nd2 K (by omega)) (gV pw_1650 pw_1651 pw_1652 pw_1523 pw_1589) hV_X12_node 0 9 rfl rfl rfl rfl (Nat.le_of_ble_eq_true rfl) dX12_attempt_121 ⟨Nat.le_of_ble_eq_true rfl, Nat.le_of_ble_eq_true rfl⟩ ⟨(by show 2 + 1 ≤ (26 * n + 43); omega), (by show 8 + (7 + 11) + 60 ≤ (2000 * n + 4300); omega)⟩ (fun v1882 u1880 H locs hw1881 hP hD hS => ?_)
                            obtain ⟨X1883, rfl⟩ : ∃ z, z = u1880 := ⟨_, rfl⟩
                            obtain ⟨hw1881, h1884⟩ := hw1881
                            have h1884 : NewN X2 X1883 nd2 44 (nI (at1428 - 1)) (nI at1445) (nI at1445) (-1) := h1884
                            obtain rfl : v1882 = some (.int (nI nd2)) := hw1881
                            have hP : va_P G.1 pCl (mW G h0 a (upd (upd (upd (upd (upd (upd (upd F 15 (nI fa1446)) 16 pl1869) 27 (nI (nd2 + 1))) 31 (nI wr2)) 64 (nI at1445)) 65 (nI ne)) 66 (nI lk2)) (updA X1883 2 K)) _ := mW_to (F := F) (l1 := [(15, (nI fa1446)), (16, pl1869), (27, (nI nd2)), (31, (nI wr2)), (64, (nI at1445)), (65, (nI ne)), (66, (nI lk2)), (27, (nI (nd2 + 1)))]) (l2 := [(15, (nI fa1446)), (16, pl1869), (27, (nI (nd2 + 1))), (31, (nI wr2)), (64, (nI at1445)), (65, (nI ne)), (66, (nI lk2))]) (V := [(nI fa1446), pl1869, (nI (nd2 + 1)), (nI wr2), (nI at1445), (nI ne), (nI lk2), (nI (nd2 + 1)), (nI fa1446), pl1869, (nI (nd2 + 1)), (nI wr2), (nI at1445), (nI ne), (nI lk2)]) rfl rfl rfl hP
                            have hD : va_D A (mW G h0 a (upd (upd (upd (upd (upd (upd (upd F 15 (nI fa1446)) 16 pl1869) 27 (nI (nd2 + 1))) 31 (nI wr2)) 64 (nI at1445)) 65 (nI ne)) 66 (nI lk2)) (updA X1883 2 K)) := mW_D hD
                            refine W.widen (k := 0) (n := 0) (Nat.le_of_ble_eq_true rfl) (Nat.le_of_ble_eq_true rfl) ?_
                            refine W.eq (g2 := F0 m 124 ls [.int (nI nd2)]) rfl ?_
                            have hkp1885 : Kp B X1883 wr2 T := (Kp.new hkp2 h1884)
                            refine lv_istore (lv' := [(6, .int (nI nd2)), (5, .int (nI at1445)), (4, .int (nI at1445)), (3, .int (nI (at1428 - 1))), (2, .int (nI la)), (1, .int (nI nd)), (0, .ref h0)]) hx hb dX12_attempt_124 hl (by decide) rfl (fun ls hl => ?_)
                            refine lv_aload_n hx hb dX12_attempt_126 rfl (lv_at hl 6 rfl) ?_
                            refine r_get (v := .ref (a 13)) hx hb hown hq hE hP 21 50 tFX12_21 (by decide) pw_1443 rfl dX12_attempt_127 ?_
                            refine lv_iload hx hb dX12_attempt_130 (lv_at hl 0 rfl) ?_
                            refine lv_aload_n hx hb dX12_attempt_132 rfl (lv_at hl 6 rfl) ?_
                            have hP : va_P G.1 pCl (mW G h0 a (upd (upd (upd (upd (upd (upd (upd (upd (upd (upd (upd F 15 (nI fa1446)) 16 pl1869) 27 (nI (nd2 + 1))) 31 (nI wr2)) 64 (nI at1445)) 65 (nI ne)) 66 (nI lk2)) 15 (nI fa1446)) 27 (nI (nd2 + 1))) 31 (nI wr2)) 64 (nI at1445)) (updA X1883 2 K)) _ := mW_to (F := F) (l1 := [(15, (nI fa1446)), (16, pl1869), (27, (nI (nd2 + 1))), (31, (nI wr2)), (64, (nI at1445)), (65, (nI ne)), (66, (nI lk2))]) (l2 := [(15, (nI fa1446)), (16, pl1869), (27, (nI (nd2 + 1))), (31, (nI wr2)), (64, (nI at1445)), (65, (nI ne)), (66, (nI lk2)), (15, (nI fa1446)), (27, (nI (nd2 + 1))), (31, (nI wr2)), (64, (nI at1445))]) (V := [(nI fa1446), pl1869, (nI (nd2 + 1)), (nI wr2), (nI at1445), (nI ne), (nI lk2), (nI fa1446), pl1869, (nI (nd2 + 1)), (nI wr2), (nI at1445), (nI ne), (nI lk2), (nI fa1446), (nI (nd2 + 1)), (nI wr2), (nI at1445)]) rfl rfl rfl hP
                            have hD : va_D A (mW G h0 a (upd (upd (upd (upd (upd (upd (upd (upd (upd (upd (upd F 15 (nI fa1446)) 16 pl1869) 27 (nI (nd2 + 1))) 31 (nI wr2)) 64 (nI at1445)) 65 (nI ne)) 66 (nI lk2)) 15 (nI fa1446)) 27 (nI (nd2 + 1))) 31 (nI wr2)) 64 (nI at1445)) (updA X1883 2 K)) := mW_D hD
                            refine pc_V0 (G := G) (As := []) (rest := [.int (nI nd2), .ref (a 13)]) hx hb hml hown hq hE hX pX0_al hP hD hS hA hl.1 (RF_block l G h0 a (upd (upd (upd (upd (upd (upd (upd F 15 (nI fa1446)) 16 pl1869) 27 (nI (nd2 + 1))) 31 (nI wr2)) 64 (nI at1445)) 65 (nI ne)) 66 (nI lk2)) X1883 at1445 T fa1446 (nd2 + 1) wr2 K (by omega) (by omega) hK (by omega) e1456 (by omega) (by omega) (hkp1885).2) (gV pw_1685 pw_1686 pw_1687 pw_1523 pw_1688) hV_X12_block 0 9 rfl rfl rfl rfl (Nat.le_of_ble_eq_true rfl) dX12_attempt_133 ⟨Nat.le_of_ble_eq_true rfl, Nat.le_of_ble_eq_true rfl⟩ ⟨(by show 5 + 1 ≤ (26 * n + 43); omega), (by show 8 + (4 + 11) + 124 ≤ (2000 * n + 4300); omega)⟩ (fun v1888 u1886 H locs hw1887 hP hD hS => ?_)
                            obtain ⟨pl1889, wr1890, X1891⟩ := u1886
                            obtain ⟨hw1887, h1892, h1893, h1894⟩ := hw1887
                            have h1892 : wr2 ≤ wr1890 := h1892
                            have h1893 : wr1890 ≤ wr2 := h1893
                            have h1894 : Kp X1883 X1891 wr1890 T := h1894
                            obtain rfl : v1888 = some (.int (nI (nd2 + 1))) := hw1887
                            have hP : va_P G.1 pCl (mW G h0 a (upd (upd (upd (upd (upd (upd (upd F 15 (nI fa1446)) 16 pl1889) 27 (nI ((nd2 + 1) + 1))) 31 (nI wr1890)) 64 (nI at1445)) 65 (nI ne)) 66 (nI lk2)) (updA X1891 2 K)) _ := mW_to (F := F) (l1 := [(15, (nI fa1446)), (16, pl1869), (27, (nI (nd2 + 1))), (31, (nI wr2)), (64, (nI at1445)), (65, (nI ne)), (66, (nI lk2)), (15, (nI fa1446)), (16, pl1889), (27, (nI ((nd2 + 1) + 1))), (31, (nI wr1890)), (64, (nI at1445))]) (l2 := [(15, (nI fa1446)), (16, pl1889), (27, (nI ((nd2 + 1) + 1))), (31, (nI wr1890)), (64, (nI at1445)), (65, (nI ne)), (66, (nI lk2))]) (V := [(nI fa1446), pl1889, (nI ((nd2 + 1) + 1)), (nI wr1890), (nI at1445), (nI ne), (nI lk2), (nI fa1446), pl1889, (nI ((nd2 + 1) + 1)), (nI wr1890), (nI at1445), (nI fa1446), pl1889, (nI ((nd2 + 1) + 1)), (nI wr1890), (nI at1445), (nI ne), (nI lk2)]) rfl rfl rfl hP
                            have hD : va_D A (mW G h0 a (upd (upd (upd (upd (upd (upd (upd F 15 (nI fa1446)) 16 pl1889) 27 (nI ((nd2 + 1) + 1))) 31 (nI wr1890)) 64 (nI at1445)) 65 (nI ne)) 66 (nI lk2)) (updA X1891 2 K)) := mW_D hD
                            refine W.widen (k := 0) (n := 0) (Nat.le_of_ble_eq_true rfl) (Nat.le_of_ble_eq_true rfl) ?_
                            refine W.eq (g2 := F0 m 136 ls [.int (nI (nd2 + 1)), .int (nI nd2), .ref (a 13)]) rfl ?_
                            have hkp1895 : Kp B X1891 wr1890 T := (Kp.trans hkp1885 h1894)
                            refine r_sti (f := (X1891 13)) (j := nd2) hx hb hE hP hD hS 13 (ma_13 G a _) rfl (mas_13 G a _) (by omega) (by decide) dX12_attempt_136 (fun H locs hP hD hS => ?_)
                            have hP : va_P G.1 pCl (mW G h0 a (upd (upd (upd (upd (upd (upd (upd F 15 (nI fa1446)) 16 pl1889) 27 (nI ((nd2 + 1) + 1))) 31 (nI wr1890)) 64 (nI at1445)) 65 (nI ne)) 66 (nI lk2)) (updA (stR X1891 13 nd2 (nI (nd2 + 1))) 2 K)) _ := mW_to (F := F) (l1 := [(15, (nI fa1446)), (16, pl1889), (27, (nI ((nd2 + 1) + 1))), (31, (nI wr1890)), (64, (nI at1445)), (65, (nI ne)), (66, (nI lk2))]) (l2 := [(15, (nI fa1446)), (16, pl1889), (27, (nI ((nd2 + 1) + 1))), (31, (nI wr1890)), (64, (nI at1445)), (65, (nI ne)), (66, (nI lk2))]) (V := [(nI fa1446), pl1889, (nI ((nd2 + 1) + 1)), (nI wr1890), (nI at1445), (nI ne), (nI lk2), (nI fa1446), pl1889, (nI ((nd2 + 1) + 1)), (nI wr1890), (nI at1445), (nI ne), (nI lk2)]) rfl rfl (show (updA (updA X1891 2 K) 13 (upd (X1891 13) nd2 (nI (nd2 + 1)))) = (updA (stR X1891 13 nd2 (nI (nd2 + 1))) 2 K) from updsA_eq2 (F := X1891) (l1 := [(2, K), (13, (upd (X1891 13) nd2 (nI (nd2 + 1))))]) (l2 := [(13, (upd (X1891 13) nd2 (nI (nd2 + 1)))), (2, K)]) (V := [K, (upd (X1891 13) nd2 (nI (nd2 + 1))), (upd (X1891 13) nd2 (nI (nd2 + 1))), K]) rfl rfl) hP
                            have hD : va_D A (mW G h0 a (upd (upd (upd (upd (upd (upd (upd F 15 (nI fa1446)) 16 pl1889) 27 (nI ((nd2 + 1) + 1))) 31 (nI wr1890)) 64 (nI at1445)) 65 (nI ne)) 66 (nI lk2)) (updA (stR X1891 13 nd2 (nI (nd2 + 1))) 2 K)) := mW_D hD
                            have hkp1896 : Kp B (stR X1891 13 nd2 (nI (nd2 + 1))) wr1890 T := (Kp.row hkp1895 (by omega))
                            refine lv_iload_n hx hb dX12_attempt_137 rfl (lv_at hl 4 rfl) ?_
                            refine lv_iconst (v := (-1)) hx hb dX12_attempt_138 (by decide) ?_
                            refine lv_icmp_ne (tgt := 153) hx hb dX12_attempt_139 (by decide) (fun c1897 => ?_) (fun c1897 => absurd c1897 (nI_m1 (by omega)))
                            refine lv_aload_n hx hb dX12_attempt_153 rfl (lv_at hl 6 rfl) ?_
                            refine r_get (v := .ref (a 16)) hx hb hown hq hE hP 24 59 tFX12_24 (by decide) pw_1446 rfl dX12_attempt_154 ?_
                            refine lv_iload_n hx hb dX12_attempt_157 rfl (lv_at hl 4 rfl) ?_
                            refine lv_iload hx hb dX12_attempt_158 (lv_at hl 0 rfl) ?_
                            refine r_sti (f := ((stR X1891 13 nd2 (nI (nd2 + 1))) 16)) (j := la) hx hb hE hP hD hS 16 (ma_16 G a _) rfl (mas_16 G a _) (by omega) (by decide) dX12_attempt_160 (fun H locs hP hD hS => ?_)
                            have hP : va_P G.1 pCl (mW G h0 a (upd (upd (upd (upd (upd (upd (upd F 15 (nI fa1446)) 16 pl1889) 27 (nI ((nd2 + 1) + 1))) 31 (nI wr1890)) 64 (nI at1445)) 65 (nI ne)) 66 (nI lk2)) (updA (stR (stR X1891 13 nd2 (nI (nd2 + 1))) 16 la (nI nd2)) 2 K)) _ := mW_to (F := F) (l1 := [(15, (nI fa1446)), (16, pl1889), (27, (nI ((nd2 + 1) + 1))), (31, (nI wr1890)), (64, (nI at1445)), (65, (nI ne)), (66, (nI lk2))]) (l2 := [(15, (nI fa1446)), (16, pl1889), (27, (nI ((nd2 + 1) + 1))), (31, (nI wr1890)), (64, (nI at1445)), (65, (nI ne)), (66, (nI lk2))]) (V := [(nI fa1446), pl1889, (nI ((nd2 + 1) + 1)), (nI wr1890), (nI at1445), (nI ne), (nI lk2), (nI fa1446), pl1889, (nI ((nd2 + 1) + 1)), (nI wr1890), (nI at1445), (nI ne), (nI lk2)]) rfl rfl (show (updA (updA (stR X1891 13 nd2 (nI (nd2 + 1))) 2 K) 16 (upd ((stR X1891 13 nd2 (nI (nd2 + 1))) 16) la (nI nd2))) = (updA (stR (stR X1891 13 nd2 (nI (nd2 + 1))) 16 la (nI nd2)) 2 K) from updsA_eq2 (F := X1891) (l1 := [(13, (upd (X1891 13) nd2 (nI (nd2 + 1)))), (2, K), (16, (upd ((stR X1891 13 nd2 (nI (nd2 + 1))) 16) la (nI nd2)))]) (l2 := [(13, (upd (X1891 13) nd2 (nI (nd2 + 1)))), (16, (upd ((stR X1891 13 nd2 (nI (nd2 + 1))) 16) la (nI nd2))), (2, K)]) (V := [(upd (X1891 13) nd2 (nI (nd2 + 1))), K, (upd ((stR X1891 13 nd2 (nI (nd2 + 1))) 16) la (nI nd2)), (upd (X1891 13) nd2 (nI (nd2 + 1))), (upd ((stR X1891 13 nd2 (nI (nd2 + 1))) 16) la (nI nd2)), K]) rfl rfl) hP
                            have hD : va_D A (mW G h0 a (upd (upd (upd (upd (upd (upd (upd F 15 (nI fa1446)) 16 pl1889) 27 (nI ((nd2 + 1) + 1))) 31 (nI wr1890)) 64 (nI at1445)) 65 (nI ne)) 66 (nI lk2)) (updA (stR (stR X1891 13 nd2 (nI (nd2 + 1))) 16 la (nI nd2)) 2 K)) := mW_D hD
                            have hkp1898 : Kp B (stR (stR X1891 13 nd2 (nI (nd2 + 1))) 16 la (nI nd2)) wr1890 T := (Kp.row hkp1896 (by omega))
                            refine lv_iload hx hb dX12_attempt_161 (lv_at hl 0 rfl) ?_
                            refine lv_istore_n (lv' := [(2, .int (nI nd2)), (6, .int (nI nd2)), (5, .int (nI at1445)), (4, .int (nI at1445)), (3, .int (nI (at1428 - 1))), (1, .int (nI nd)), (0, .ref h0)]) hx hb dX12_attempt_163 rfl hl (by decide) rfl (fun ls hl => ?_)
                            refine lv_goto (tgt := 71) hx hb dX12_attempt_164 (by decide) ?_
                            refine lv_aload_n hx hb dX12_attempt_71 rfl (lv_at hl 6 rfl) ?_
                            refine lv_sipush (v := 313) hx hb dX12_attempt_72 (by decide) ?_
                            have hP : va_P G.1 pCl (mW G h0 a (upd (upd (upd (upd (upd (upd (upd (upd (upd F 15 (nI fa1446)) 16 pl1889) 27 (nI ((nd2 + 1) + 1))) 31 (nI wr1890)) 64 (nI at1445)) 65 (nI ne)) 66 (nI lk2)) 15 (nI fa1446)) 64 (nI at1445)) (updA (updA (stR (stR X1891 13 nd2 (nI (nd2 + 1))) 16 la (nI nd2)) 2 K) 2 K)) _ := mW_to (F := F) (l1 := [(15, (nI fa1446)), (16, pl1889), (27, (nI ((nd2 + 1) + 1))), (31, (nI wr1890)), (64, (nI at1445)), (65, (nI ne)), (66, (nI lk2))]) (l2 := [(15, (nI fa1446)), (16, pl1889), (27, (nI ((nd2 + 1) + 1))), (31, (nI wr1890)), (64, (nI at1445)), (65, (nI ne)), (66, (nI lk2)), (15, (nI fa1446)), (64, (nI at1445))]) (V := [(nI fa1446), pl1889, (nI ((nd2 + 1) + 1)), (nI wr1890), (nI at1445), (nI ne), (nI lk2), (nI fa1446), pl1889, (nI ((nd2 + 1) + 1)), (nI wr1890), (nI at1445), (nI ne), (nI lk2), (nI fa1446), (nI at1445)]) rfl rfl (show (updA (stR (stR X1891 13 nd2 (nI (nd2 + 1))) 16 la (nI nd2)) 2 K) = (updA (updA (stR (stR X1891 13 nd2 (nI (nd2 + 1))) 16 la (nI nd2)) 2 K) 2 K) from updsA_eq2 (F := X1891) (l1 := [(13, (upd (X1891 13) nd2 (nI (nd2 + 1)))), (16, (upd ((stR X1891 13 nd2 (nI (nd2 + 1))) 16) la (nI nd2))), (2, K)]) (l2 := [(13, (upd (X1891 13) nd2 (nI (nd2 + 1)))), (16, (upd ((stR X1891 13 nd2 (nI (nd2 + 1))) 16) la (nI nd2))), (2, K), (2, K)]) (V := [(upd (X1891 13) nd2 (nI (nd2 + 1))), (upd ((stR X1891 13 nd2 (nI (nd2 + 1))) 16) la (nI nd2)), K, (upd (X1891 13) nd2 (nI (nd2 + 1))), (upd ((stR X1891 13 nd2 (nI (nd2 + 1))) 16) la (nI nd2)), K, K]) rfl rfl) hP
                            have hD : va_D A (mW G h0 a (upd (upd (upd (upd (upd (upd (upd (upd (upd F 15 (nI fa1446)) 16 pl1889) 27 (nI ((nd2 + 1) + 1))) 31 (nI wr1890)) 64 (nI at1445)) 65 (nI ne)) 66 (nI lk2)) 15 (nI fa1446)) 64 (nI at1445)) (updA (updA (stR (stR X1891 13 nd2 (nI (nd2 + 1))) 16 la (nI nd2)) 2 K) 2 K)) := mW_D hD
                            refine pc_V0 (G := G) (As := [.int 313]) (rest := []) hx hb hml hown hq hE hX pX0_al hP hD hS hA hl.1 (R_may l G h0 a (upd (upd (upd (upd (upd (upd (upd F 15 (nI fa1446)) 16 pl1889) 27 (nI ((nd2 + 1) + 1))) 31 (nI wr1890)) 64 (nI at1445)) 65 (nI ne)) 66 (nI lk2)) (updA (stR (stR X1891 13 nd2 (nI (nd2 + 1))) 16 la (nI nd2)) 2 K) at1445 T fa1446 K 313 (by omega) (by omega) hK (by omega) (by decide) (by decide)) (gV pw_1621 pw_1622 pw_1623 pw_1523 pw_1605) hV_X12_may 0 9 rfl rfl rfl rfl (Nat.le_of_ble_eq_true rfl) dX12_attempt_75 ⟨Nat.le_of_ble_eq_true rfl, Nat.le_of_ble_eq_true rfl⟩ ⟨(by show 3 + 1 ≤ (26 * n + 43); omega), (by show 8 + (3 + 11) + 81 ≤ (2000 * n + 4300); omega)⟩ (fun v1901 u1899 H locs hw1900 hP hD hS => ?_)
                            obtain ⟨at1902, r1903⟩ := u1899
                            obtain ⟨hw1900, h1904, h1905, h1906, h1907, h1908, h1909⟩ := hw1900
                            have h1904 : r1903 ≤ 1 := h1904
                            have h1905 : fa1446 + 100 * r1903 ≤ 100 := h1905
                            have h1906 : at1902 = at1445 + r1903 := h1906
                            have h1907 : at1902 ≤ T := h1907
                            have h1908 : If (r1903 = 1) (K at1445 = 313) := h1908
                            have h1909 : If (r1903 = 0) (fa1446 = 0 → ¬ K at1445 = 313) := h1909
                            obtain rfl : v1901 = some (.int (nI r1903)) := hw1900
                            have hP : va_P G.1 pCl (mW G h0 a (upd (upd (upd (upd (upd (upd (upd F 15 (nI fa1446)) 16 pl1889) 27 (nI ((nd2 + 1) + 1))) 31 (nI wr1890)) 64 (nI at1902)) 65 (nI ne)) 66 (nI lk2)) (updA (stR (stR X1891 13 nd2 (nI (nd2 + 1))) 16 la (nI nd2)) 2 K)) _ := mW_to (F := F) (l1 := [(15, (nI fa1446)), (16, pl1889), (27, (nI ((nd2 + 1) + 1))), (31, (nI wr1890)), (64, (nI at1445)), (65, (nI ne)), (66, (nI lk2)), (15, (nI fa1446)), (64, (nI at1902))]) (l2 := [(15, (nI fa1446)), (16, pl1889), (27, (nI ((nd2 + 1) + 1))), (31, (nI wr1890)), (64, (nI at1902)), (65, (nI ne)), (66, (nI lk2))]) (V := [(nI fa1446), pl1889, (nI ((nd2 + 1) + 1)), (nI wr1890), (nI at1902), (nI ne), (nI lk2), (nI fa1446), (nI at1902), (nI fa1446), pl1889, (nI ((nd2 + 1) + 1)), (nI wr1890), (nI at1902), (nI ne), (nI lk2)]) rfl rfl (show (updA (updA (stR (stR X1891 13 nd2 (nI (nd2 + 1))) 16 la (nI nd2)) 2 K) 2 K) = (updA (stR (stR X1891 13 nd2 (nI (nd2 + 1))) 16 la (nI nd2)) 2 K) from updsA_eq2 (F := X1891) (l1 := [(13, (upd (X1891 13) nd2 (nI (nd2 + 1)))), (16, (upd ((stR X1891 13 nd2 (nI (nd2 + 1))) 16) la (nI nd2))), (2, K), (2, K)]) (l2 := [(13, (upd (X1891 13) nd2 (nI (nd2 + 1)))), (16, (upd ((stR X1891 13 nd2 (nI (nd2 + 1))) 16) la (nI nd2))), (2, K)]) (V := [(upd (X1891 13) nd2 (nI (nd2 + 1))), (upd ((stR X1891 13 nd2 (nI (nd2 + 1))) 16) la (nI nd2)), K, K, (upd (X1891 13) nd2 (nI (nd2 + 1))), (upd ((stR X1891 13 nd2 (nI (nd2 + 1))) 16) la (nI nd2)), K]) rfl rfl) hP
                            have hD : va_D A (mW G h0 a (upd (upd (upd (upd (upd (upd (upd F 15 (nI fa1446)) 16 pl1889) 27 (nI ((nd2 + 1) + 1))) 31 (nI wr1890)) 64 (nI at1902)) 65 (nI ne)) 66 (nI lk2)) (updA (stR (stR X1891 13 nd2 (nI (nd2 + 1))) 16 la (nI nd2)) 2 K)) := mW_D hD
                            refine W.widen (k := 0) (n := 0) (Nat.le_of_ble_eq_true rfl) (Nat.le_of_ble_eq_true rfl) ?_
                            refine W.eq (g2 := F0 m 78 ls [.int (nI r1903)]) rfl ?_
                            obtain rfl : at1445 = at1902 := (by omega)
                            refine lv_if_eq (tgt := 167) hx hb dX12_attempt_78 (by decide) (fun c1910 => ?_) (fun c1910 => (by have n1911 : ¬ (r1903 = 0) := fun h9 => c1910 ((nI_eq (a := r1903) (b := 0) (by omega) (by omega)).mpr h9); omega))
                            refine lv_aload_n hx hb dX12_attempt_167 rfl (lv_at hl 6 rfl) ?_
                            refine lv_sipush (v := 319) hx hb dX12_attempt_168 (by decide) ?_
                            have hP : va_P G.1 pCl (mW G h0 a (upd (upd (upd (upd (upd (upd (upd (upd (upd F 15 (nI fa1446)) 16 pl1889) 27 (nI ((nd2 + 1) + 1))) 31 (nI wr1890)) 64 (nI at1445)) 65 (nI ne)) 66 (nI lk2)) 15 (nI fa1446)) 64 (nI at1445)) (updA (updA (stR (stR X1891 13 nd2 (nI (nd2 + 1))) 16 la (nI nd2)) 2 K) 2 K)) _ := hP
                            have hD : va_D A (mW G h0 a (upd (upd (upd (upd (upd (upd (upd (upd (upd F 15 (nI fa1446)) 16 pl1889) 27 (nI ((nd2 + 1) + 1))) 31 (nI wr1890)) 64 (nI at1445)) 65 (nI ne)) 66 (nI lk2)) 15 (nI fa1446)) 64 (nI at1445)) (updA (updA (stR (stR X1891 13 nd2 (nI (nd2 + 1))) 16 la (nI nd2)) 2 K) 2 K)) := mW_D hD
                            refine pc_V0 (G := G) (As := [.int 319]) (rest := []) hx hb hml hown hq hE hX pX0_al hP hD hS hA hl.1 (R_may l G h0 a (upd (upd (upd (upd (upd (upd (upd F 15 (nI fa1446)) 16 pl1889) 27 (nI ((nd2 + 1) + 1))) 31 (nI wr1890)) 64 (nI at1445)) 65 (nI ne)) 66 (nI lk2)) (updA (stR (stR X1891 13 nd2 (nI (nd2 + 1))) 16 la (nI nd2)) 2 K) at1445 T fa1446 K 319 (by omega) (by omega) hK (by omega) (by decide) (by decide)) (gV pw_1621 pw_1622 pw_1623 pw_1523 pw_1605) hV_X12_may 0 9 rfl rfl rfl rfl (Nat.le_of_ble_eq_true rfl) dX12_attempt_171 ⟨Nat.le_of_ble_eq_true rfl, Nat.le_of_ble_eq_true rfl⟩ ⟨(by show 3 + 1 ≤ (26 * n + 43); omega), (by show 8 + (3 + 11) + 81 ≤ (2000 * n + 4300); omega)⟩ (fun v1914 u1912 H locs hw1913 hP hD hS => ?_)
                            obtain ⟨at1915, r1916⟩ := u1912
                            obtain ⟨hw1913, h1917, h1918, h1919, h1920, h1921, h1922⟩ := hw1913
                            have h1917 : r1916 ≤ 1 := h1917
                            have h1918 : fa1446 + 100 * r1916 ≤ 100 := h1918
                            have h1919 : at1915 = at1445 + r1916 := h1919
                            have h1920 : at1915 ≤ T := h1920
                            have h1921 : If (r1916 = 1) (K at1445 = 319) := h1921
                            have h1922 : If (r1916 = 0) (fa1446 = 0 → ¬ K at1445 = 319) := h1922
                            obtain rfl : v1914 = some (.int (nI r1916)) := hw1913
                            have hP : va_P G.1 pCl (mW G h0 a (upd (upd (upd (upd (upd (upd (upd F 15 (nI fa1446)) 16 pl1889) 27 (nI ((nd2 + 1) + 1))) 31 (nI wr1890)) 64 (nI at1915)) 65 (nI ne)) 66 (nI lk2)) (updA (stR (stR X1891 13 nd2 (nI (nd2 + 1))) 16 la (nI nd2)) 2 K)) _ := mW_to (F := F) (l1 := [(15, (nI fa1446)), (16, pl1889), (27, (nI ((nd2 + 1) + 1))), (31, (nI wr1890)), (64, (nI at1445)), (65, (nI ne)), (66, (nI lk2)), (15, (nI fa1446)), (64, (nI at1915))]) (l2 := [(15, (nI fa1446)), (16, pl1889), (27, (nI ((nd2 + 1) + 1))), (31, (nI wr1890)), (64, (nI at1915)), (65, (nI ne)), (66, (nI lk2))]) (V := [(nI fa1446), pl1889, (nI ((nd2 + 1) + 1)), (nI wr1890), (nI at1915), (nI ne), (nI lk2), (nI fa1446), (nI at1915), (nI fa1446), pl1889, (nI ((nd2 + 1) + 1)), (nI wr1890), (nI at1915), (nI ne), (nI lk2)]) rfl rfl (show (updA (updA (stR (stR X1891 13 nd2 (nI (nd2 + 1))) 16 la (nI nd2)) 2 K) 2 K) = (updA (stR (stR X1891 13 nd2 (nI (nd2 + 1))) 16 la (nI nd2)) 2 K) from updsA_eq2 (F := X1891) (l1 := [(13, (upd (X1891 13) nd2 (nI (nd2 + 1)))), (16, (upd ((stR X1891 13 nd2 (nI (nd2 + 1))) 16) la (nI nd2))), (2, K), (2, K)]) (l2 := [(13, (upd (X1891 13) nd2 (nI (nd2 + 1)))), (16, (upd ((stR X1891 13 nd2 (nI (nd2 + 1))) 16) la (nI nd2))), (2, K)]) (V := [(upd (X1891 13) nd2 (nI (nd2 + 1))), (upd ((stR X1891 13 nd2 (nI (nd2 + 1))) 16) la (nI nd2)), K, K, (upd (X1891 13) nd2 (nI (nd2 + 1))), (upd ((stR X1891 13 nd2 (nI (nd2 + 1))) 16) la (nI nd2)), K]) rfl rfl) hP
                            have hD : va_D A (mW G h0 a (upd (upd (upd (upd (upd (upd (upd F 15 (nI fa1446)) 16 pl1889) 27 (nI ((nd2 + 1) + 1))) 31 (nI wr1890)) 64 (nI at1915)) 65 (nI ne)) 66 (nI lk2)) (updA (stR (stR X1891 13 nd2 (nI (nd2 + 1))) 16 la (nI nd2)) 2 K)) := mW_D hD
                            refine W.widen (k := 0) (n := 0) (Nat.le_of_ble_eq_true rfl) (Nat.le_of_ble_eq_true rfl) ?_
                            refine W.eq (g2 := F0 m 174 ls [.int (nI r1916)]) rfl ?_
                            obtain rfl : at1445 = at1915 := (by omega)
                            refine lv_if_eq (tgt := 187) hx hb dX12_attempt_174 (by decide) (fun c1923 => ?_) (fun c1923 => (by have n1924 : ¬ (r1916 = 0) := fun h9 => c1923 ((nI_eq (a := r1916) (b := 0) (by omega) (by omega)).mpr h9); omega))
                            refine lv_iload_n hx hb dX12_attempt_187 rfl (lv_at hl 5 rfl) ?_
                            have hz1925 : at0 ≤ at1445 := (by omega)
                            have hz1926 : at1445 ≤ T := (by omega)
                            have hz1927 : fa1446 ≤ 100 := (by omega)
                            have hz1928 : nd ≤ ((nd2 + 1) + 1) := (by omega)
                            have hz1929 : ((nd2 + 1) + 1) + 2 * at0 ≤ nd + 2 * at1445 + 100000 * fa1446 := (by omega)
                            have hz1930 : ((nd2 + 1) + 1) + 2 * at0 ≤ nd + 2 * at1445 + (60 * (21 - ne) + 40) := (by omega)
                            have hz1931 : wr ≤ wr1890 := (by omega)
                            have hz1932 : wr1890 + at0 ≤ wr + at1445 := (by omega)
                            have hz1933 : lk ≤ lk2 := (by omega)
                            have hz1934 : lk2 ≤ 60 + 100 * fa1446 := (by omega)
                            have hz1935 : at0 + 1 ≤ at1445 + fa1446 := (by omega)
                            have hz1936 : nd ≤ ((nd2 + 1) + 1) := (by omega)
                            have hz1937 : Kp B (stR (stR X1891 13 nd2 (nI (nd2 + 1))) 16 la (nI nd2)) wr1890 T := hkp1898
                            have hz1938 : If (fa1446 = 0) (Low B (stR (stR X1891 13 nd2 (nI (nd2 + 1))) 16 la (nI nd2)) nd wr ∧ Frs K T wr1890 (stR (stR X1891 13 nd2 (nI (nd2 + 1))) 16 la (nI nd2)) nd ((nd2 + 1) + 1) 20000 [(nd, (280 + 4 * (21 - ne)))] ∧ kcl 3 ((stR (stR X1891 13 nd2 (nI (nd2 + 1))) 16 la (nI nd2)) 9 nd) = true) := (fun e => absurd e (by omega))
                            have hP : va_P G.1 pCl (mW G h0 a (upd (upd (upd (upd (upd (upd (upd F 15 (nI fa1446)) 16 pl1889) 27 (nI ((nd2 + 1) + 1))) 31 (nI wr1890)) 64 (nI at1445)) 65 (nI ne)) 66 (nI lk2)) (updA (stR (stR X1891 13 nd2 (nI (nd2 + 1))) 16 la (nI nd2)) 2 K)) _ := hP
                            have hD : va_D A (mW G h0 a (upd (upd (upd (upd (upd (upd (upd F 15 (nI fa1446)) 16 pl1889) 27 (nI ((nd2 + 1) + 1))) 31 (nI wr1890)) 64 (nI at1445)) 65 (nI ne)) 66 (nI lk2)) (updA (stR (stR X1891 13 nd2 (nI (nd2 + 1))) 16 la (nI nd2)) 2 K)) := mW_D hD
                            exact W.iret (v := (nI nd)) hx hb hr (fun t9 ht9 hW9 => ⟨⟨_, (at1445, fa1446, pl1889, ((nd2 + 1) + 1), lk2, wr1890, nd, (stR (stR X1891 13 nd2 (nI (nd2 + 1))) 16 la (nI nd2))), rfl, ⟨rfl, hz1925, hz1926, hz1927, hz1928, hz1929, hz1930, hz1931, hz1932, hz1933, hz1934, hz1935, hz1936, hz1937, hz1938⟩, by rw [ht9]; exact hP, hD⟩, hS.F ht9⟩) hS.2.2 dX12_attempt_188
                    have hP : va_P G.1 pCl (mW G h0 a (upd (upd (upd (upd (upd (upd (upd F 15 0) 16 pl1378) 27 (nI nd1379)) 31 (nI wr1381)) 64 (nI at1376)) 65 (nI ne)) 66 (nI lk1380)) (updA (stR (stR X1383 13 nd20 (nI r1382)) 13 nd (nI nd20)) 2 K)) _ := hP
                    have hD : va_D A (mW G h0 a (upd (upd (upd (upd (upd (upd (upd F 15 0) 16 pl1378) 27 (nI nd1379)) 31 (nI wr1381)) 64 (nI at1376)) 65 (nI ne)) 66 (nI lk1380)) (updA (stR (stR X1383 13 nd20 (nI r1382)) 13 nd (nI nd20)) 2 K)) := mW_D hD
                    exact loop_o (T + 1) at1376 nd1379 wr1381 lk1380 pl1378 (stR (stR X1383 13 nd20 (nI r1382)) 13 nd (nI nd20)) nd20 (nI r23) (nI nd20) _ _ _ (by omega) (by omega) (by omega) (by omega) (by omega) (by omega) (by omega) (by omega) (by omega) (by omega) (by omega) hkp1419 hlo1420 hf1424 hn1422 hP hD hS (lv_sub hl [0, 5, 6] rfl)
                  · have e1399 := e1399
                    refine r_sti (f := (X1383 13)) (j := nd20) hx hb hE hP hD hS 13 (ma_13 G a _) rfl (mas_13 G a _) (by omega) (by decide) dX12_attempt_136 (fun H locs hP hD hS => ?_)
                    have hP : va_P G.1 pCl (mW G h0 a (upd (upd (upd (upd (upd (upd (upd F 15 (nI fa1377)) 16 pl1378) 27 (nI nd1379)) 31 (nI wr1381)) 64 (nI at1376)) 65 (nI ne)) 66 (nI lk1380)) (updA (stR X1383 13 nd20 (nI r1382)) 2 K)) _ := mW_to (F := F) (l1 := [(15, (nI fa1377)), (16, pl1378), (27, (nI nd1379)), (31, (nI wr1381)), (64, (nI at1376)), (65, (nI ne)), (66, (nI lk1380))]) (l2 := [(15, (nI fa1377)), (16, pl1378), (27, (nI nd1379)), (31, (nI wr1381)), (64, (nI at1376)), (65, (nI ne)), (66, (nI lk1380))]) (V := [(nI fa1377), pl1378, (nI nd1379), (nI wr1381), (nI at1376), (nI ne), (nI lk1380), (nI fa1377), pl1378, (nI nd1379), (nI wr1381), (nI at1376), (nI ne), (nI lk1380)]) rfl rfl (show (updA (updA X1383 2 K) 13 (upd (X1383 13) nd20 (nI r1382))) = (updA (stR X1383 13 nd20 (nI r1382)) 2 K) from updsA_eq2 (F := X1383) (l1 := [(2, K), (13, (upd (X1383 13) nd20 (nI r1382)))]) (l2 := [(13, (upd (X1383 13) nd20 (nI r1382))), (2, K)]) (V := [K, (upd (X1383 13) nd20 (nI r1382)), (upd (X1383 13) nd20 (nI r1382)), K]) rfl rfl) hP
                    have hD : va_D A (mW G h0 a (upd (upd (upd (upd (upd (upd (upd F 15 (nI fa1377)) 16 pl1378) 27 (nI nd1379)) 31 (nI wr1381)) 64 (nI at1376)) 65 (nI ne)) 66 (nI lk1380)) (updA (stR X1383 13 nd20 (nI r1382)) 2 K)) := mW_D hD
                    have hkp1939 : Kp B (stR X1383 13 nd20 (nI r1382)) wr1381 T := (Kp.row hkp1398 (by omega))
                    refine lv_iload_n hx hb dX12_attempt_137 rfl (lv_at hl 4 rfl) ?_
                    refine lv_iconst (v := (-1)) hx hb dX12_attempt_138 (by decide) ?_
                    refine lv_icmp_ne (tgt := 153) hx hb dX12_attempt_139 (by decide) (fun c1940 => absurd c1940 (by decide)) (fun c1940 => ?_)
                    refine lv_aload_n hx hb dX12_attempt_142 rfl (lv_at hl 6 rfl) ?_
                    refine r_get (v := .ref (a 13)) hx hb hown hq hE hP 21 50 tFX12_21 (by decide) pw_1443 rfl dX12_attempt_143 ?_
                    refine lv_iload_n hx hb dX12_attempt_146 rfl (lv_at hl 5 rfl) ?_
                    refine lv_iload hx hb dX12_attempt_147 (lv_at hl 0 rfl) ?_
                    refine r_sti (f := ((stR X1383 13 nd20 (nI r1382)) 13)) (j := nd) hx hb hE hP hD hS 13 (ma_13 G a _) rfl (mas_13 G a _) (by omega) (by decide) dX12_attempt_149 (fun H locs hP hD hS => ?_)
                    have hP : va_P G.1 pCl (mW G h0 a (upd (upd (upd (upd (upd (upd (upd F 15 (nI fa1377)) 16 pl1378) 27 (nI nd1379)) 31 (nI wr1381)) 64 (nI at1376)) 65 (nI ne)) 66 (nI lk1380)) (updA (stR (stR X1383 13 nd20 (nI r1382)) 13 nd (nI nd20)) 2 K)) _ := mW_to (F := F) (l1 := [(15, (nI fa1377)), (16, pl1378), (27, (nI nd1379)), (31, (nI wr1381)), (64, (nI at1376)), (65, (nI ne)), (66, (nI lk1380))]) (l2 := [(15, (nI fa1377)), (16, pl1378), (27, (nI nd1379)), (31, (nI wr1381)), (64, (nI at1376)), (65, (nI ne)), (66, (nI lk1380))]) (V := [(nI fa1377), pl1378, (nI nd1379), (nI wr1381), (nI at1376), (nI ne), (nI lk1380), (nI fa1377), pl1378, (nI nd1379), (nI wr1381), (nI at1376), (nI ne), (nI lk1380)]) rfl rfl (show (updA (updA (stR X1383 13 nd20 (nI r1382)) 2 K) 13 (upd ((stR X1383 13 nd20 (nI r1382)) 13) nd (nI nd20))) = (updA (stR (stR X1383 13 nd20 (nI r1382)) 13 nd (nI nd20)) 2 K) from updsA_eq2 (F := X1383) (l1 := [(13, (upd (X1383 13) nd20 (nI r1382))), (2, K), (13, (upd ((stR X1383 13 nd20 (nI r1382)) 13) nd (nI nd20)))]) (l2 := [(13, (upd (X1383 13) nd20 (nI r1382))), (13, (upd ((stR X1383 13 nd20 (nI r1382)) 13) nd (nI nd20))), (2, K)]) (V := [(upd ((stR X1383 13 nd20 (nI r1382)) 13) nd (nI nd20)), K, (upd ((stR X1383 13 nd20 (nI r1382)) 13) nd (nI nd20)), (upd ((stR X1383 13 nd20 (nI r1382)) 13) nd (nI nd20)), (upd ((stR X1383 13 nd20 (nI r1382)) 13) nd (nI nd20)), K]) rfl rfl) hP
                    have hD : va_D A (mW G h0 a (upd (upd (upd (upd (upd (upd (upd F 15 (nI fa1377)) 16 pl1378) 27 (nI nd1379)) 31 (nI wr1381)) 64 (nI at1376)) 65 (nI ne)) 66 (nI lk1380)) (updA (stR (stR X1383 13 nd20 (nI r1382)) 13 nd (nI nd20)) 2 K)) := mW_D hD
                    have hkp1941 : Kp B (stR (stR X1383 13 nd20 (nI r1382)) 13 nd (nI nd20)) wr1381 T := (Kp.row hkp1939 (by omega))
                    refine lv_goto (tgt := 161) hx hb dX12_attempt_150 (by decide) ?_
                    refine lv_iload hx hb dX12_attempt_161 (lv_at hl 0 rfl) ?_
                    refine lv_istore_n (lv' := [(2, .int (nI nd20)), (6, .int (nI nd20)), (5, .int (nI at1320)), (4, .int (nI at1305)), (3, .int (nI (at1289 - 1))), (1, .int (nI nd)), (0, .ref h0)]) hx hb dX12_attempt_163 rfl hl (by decide) rfl (fun ls hl => ?_)
                    refine lv_goto (tgt := 71) hx hb dX12_attempt_164 (by decide) ?_
                    refine lv_aload_n hx hb dX12_attempt_71 rfl (lv_at hl 6 rfl) ?_
                    refine lv_sipush (v := 313) hx hb dX12_attempt_72 (by decide) ?_
                    have hP : va_P G.1 pCl (mW G h0 a (upd (upd (upd (upd (upd (upd (upd (upd (upd F 15 (nI fa1377)) 16 pl1378) 27 (nI nd1379)) 31 (nI wr1381)) 64 (nI at1376)) 65 (nI ne)) 66 (nI lk1380)) 15 (nI fa1377)) 64 (nI at1376)) (updA (updA (stR (stR X1383 13 nd20 (nI r1382)) 13 nd (nI nd20)) 2 K) 2 K)) _ := mW_to (F := F) (l1 := [(15, (nI fa1377)), (16, pl1378), (27, (nI nd1379)), (31, (nI wr1381)), (64, (nI at1376)), (65, (nI ne)), (66, (nI lk1380))]) (l2 := [(15, (nI fa1377)), (16, pl1378), (27, (nI nd1379)), (31, (nI wr1381)), (64, (nI at1376)), (65, (nI ne)), (66, (nI lk1380)), (15, (nI fa1377)), (64, (nI at1376))]) (V := [(nI fa1377), pl1378, (nI nd1379), (nI wr1381), (nI at1376), (nI ne), (nI lk1380), (nI fa1377), pl1378, (nI nd1379), (nI wr1381), (nI at1376), (nI ne), (nI lk1380), (nI fa1377), (nI at1376)]) rfl rfl (show (updA (stR (stR X1383 13 nd20 (nI r1382)) 13 nd (nI nd20)) 2 K) = (updA (updA (stR (stR X1383 13 nd20 (nI r1382)) 13 nd (nI nd20)) 2 K) 2 K) from updsA_eq2 (F := X1383) (l1 := [(13, (upd (X1383 13) nd20 (nI r1382))), (13, (upd ((stR X1383 13 nd20 (nI r1382)) 13) nd (nI nd20))), (2, K)]) (l2 := [(13, (upd (X1383 13) nd20 (nI r1382))), (13, (upd ((stR X1383 13 nd20 (nI r1382)) 13) nd (nI nd20))), (2, K), (2, K)]) (V := [(upd ((stR X1383 13 nd20 (nI r1382)) 13) nd (nI nd20)), (upd ((stR X1383 13 nd20 (nI r1382)) 13) nd (nI nd20)), K, (upd ((stR X1383 13 nd20 (nI r1382)) 13) nd (nI nd20)), (upd ((stR X1383 13 nd20 (nI r1382)) 13) nd (nI nd20)), K, K]) rfl rfl) hP
                    have hD : va_D A (mW G h0 a (upd (upd (upd (upd (upd (upd (upd (upd (upd F 15 (nI fa1377)) 16 pl1378) 27 (nI nd1379)) 31 (nI wr1381)) 64 (nI at1376)) 65 (nI ne)) 66 (nI lk1380)) 15 (nI fa1377)) 64 (nI at1376)) (updA (updA (stR (stR X1383 13 nd20 (nI r1382)) 13 nd (nI nd20)) 2 K) 2 K)) := mW_D hD
                    refine pc_V0 (G := G) (As := [.int 313]) (rest := []) hx hb hml hown hq hE hX pX0_al hP hD hS hA hl.1 (R_may l G h0 a (upd (upd (upd (upd (upd (upd (upd F 15 (nI fa1377)) 16 pl1378) 27 (nI nd1379)) 31 (nI wr1381)) 64 (nI at1376)) 65 (nI ne)) 66 (nI lk1380)) (updA (stR (stR X1383 13 nd20 (nI r1382)) 13 nd (nI nd20)) 2 K) at1376 T fa1377 K 313 (by omega) (by omega) hK (by omega) (by decide) (by decide)) (gV pw_1621 pw_1622 pw_1623 pw_1523 pw_1605) hV_X12_may 0 9 rfl rfl rfl rfl (Nat.le_of_ble_eq_true rfl) dX12_attempt_75 ⟨Nat.le_of_ble_eq_true rfl, Nat.le_of_ble_eq_true rfl⟩ ⟨(by show 3 + 1 ≤ (26 * n + 43); omega), (by show 8 + (3 + 11) + 81 ≤ (2000 * n + 4300); omega)⟩ (fun v1944 u1942 H locs hw1943 hP hD hS => ?_)
                    obtain ⟨at1945, r1946⟩ := u1942
                    obtain ⟨hw1943, h1947, h1948, h1949, h1950, h1951, h1952⟩ := hw1943
                    have h1947 : r1946 ≤ 1 := h1947
                    have h1948 : fa1377 + 100 * r1946 ≤ 100 := h1948
                    have h1949 : at1945 = at1376 + r1946 := h1949
                    have h1950 : at1945 ≤ T := h1950
                    have h1951 : If (r1946 = 1) (K at1376 = 313) := h1951
                    have h1952 : If (r1946 = 0) (fa1377 = 0 → ¬ K at1376 = 313) := h1952
                    obtain rfl : v1944 = some (.int (nI r1946)) := hw1943
                    have hP : va_P G.1 pCl (mW G h0 a (upd (upd (upd (upd (upd (upd (upd F 15 (nI fa1377)) 16 pl1378) 27 (nI nd1379)) 31 (nI wr1381)) 64 (nI at1945)) 65 (nI ne)) 66 (nI lk1380)) (updA (stR (stR X1383 13 nd20 (nI r1382)) 13 nd (nI nd20)) 2 K)) _ := mW_to (F := F) (l1 := [(15, (nI fa1377)), (16, pl1378), (27, (nI nd1379)), (31, (nI wr1381)), (64, (nI at1376)), (65, (nI ne)), (66, (nI lk1380)), (15, (nI fa1377)), (64, (nI at1945))]) (l2 := [(15, (nI fa1377)), (16, pl1378), (27, (nI nd1379)), (31, (nI wr1381)), (64, (nI at1945)), (65, (nI ne)), (66, (nI lk1380))]) (V := [(nI fa1377), pl1378, (nI nd1379), (nI wr1381), (nI at1945), (nI ne), (nI lk1380), (nI fa1377), (nI at1945), (nI fa1377), pl1378, (nI nd1379), (nI wr1381), (nI at1945), (nI ne), (nI lk1380)]) rfl rfl (show (updA (updA (stR (stR X1383 13 nd20 (nI r1382)) 13 nd (nI nd20)) 2 K) 2 K) = (updA (stR (stR X1383 13 nd20 (nI r1382)) 13 nd (nI nd20)) 2 K) from updsA_eq2 (F := X1383) (l1 := [(13, (upd (X1383 13) nd20 (nI r1382))), (13, (upd ((stR X1383 13 nd20 (nI r1382)) 13) nd (nI nd20))), (2, K), (2, K)]) (l2 := [(13, (upd (X1383 13) nd20 (nI r1382))), (13, (upd ((stR X1383 13 nd20 (nI r1382)) 13) nd (nI nd20))), (2, K)]) (V := [(upd ((stR X1383 13 nd20 (nI r1382)) 13) nd (nI nd20)), (upd ((stR X1383 13 nd20 (nI r1382)) 13) nd (nI nd20)), K, K, (upd ((stR X1383 13 nd20 (nI r1382)) 13) nd (nI nd20)), (upd ((stR X1383 13 nd20 (nI r1382)) 13) nd (nI nd20)), K]) rfl rfl) hP
                    have hD : va_D A (mW G h0 a (upd (upd (upd (upd (upd (upd (upd F 15 (nI fa1377)) 16 pl1378) 27 (nI nd1379)) 31 (nI wr1381)) 64 (nI at1945)) 65 (nI ne)) 66 (nI lk1380)) (updA (stR (stR X1383 13 nd20 (nI r1382)) 13 nd (nI nd20)) 2 K)) := mW_D hD
                    refine W.widen (k := 0) (n := 0) (Nat.le_of_ble_eq_true rfl) (Nat.le_of_ble_eq_true rfl) ?_
                    refine W.eq (g2 := F0 m 78 ls [.int (nI r1946)]) rfl ?_
                    obtain rfl : at1376 = at1945 := (by omega)
                    refine lv_if_eq (tgt := 167) hx hb dX12_attempt_78 (by decide) (fun c1953 => ?_) (fun c1953 => (by have n1954 : ¬ (r1946 = 0) := fun h9 => c1953 ((nI_eq (a := r1946) (b := 0) (by omega) (by omega)).mpr h9); omega))
                    refine lv_aload_n hx hb dX12_attempt_167 rfl (lv_at hl 6 rfl) ?_
                    refine lv_sipush (v := 319) hx hb dX12_attempt_168 (by decide) ?_
                    have hP : va_P G.1 pCl (mW G h0 a (upd (upd (upd (upd (upd (upd (upd (upd (upd F 15 (nI fa1377)) 16 pl1378) 27 (nI nd1379)) 31 (nI wr1381)) 64 (nI at1376)) 65 (nI ne)) 66 (nI lk1380)) 15 (nI fa1377)) 64 (nI at1376)) (updA (updA (stR (stR X1383 13 nd20 (nI r1382)) 13 nd (nI nd20)) 2 K) 2 K)) _ := hP
                    have hD : va_D A (mW G h0 a (upd (upd (upd (upd (upd (upd (upd (upd (upd F 15 (nI fa1377)) 16 pl1378) 27 (nI nd1379)) 31 (nI wr1381)) 64 (nI at1376)) 65 (nI ne)) 66 (nI lk1380)) 15 (nI fa1377)) 64 (nI at1376)) (updA (updA (stR (stR X1383 13 nd20 (nI r1382)) 13 nd (nI nd20)) 2 K) 2 K)) := mW_D hD
                    refine pc_V0 (G := G) (As := [.int 319]) (rest := []) hx hb hml hown hq hE hX pX0_al hP hD hS hA hl.1 (R_may l G h0 a (upd (upd (upd (upd (upd (upd (upd F 15 (nI fa1377)) 16 pl1378) 27 (nI nd1379)) 31 (nI wr1381)) 64 (nI at1376)) 65 (nI ne)) 66 (nI lk1380)) (updA (stR (stR X1383 13 nd20 (nI r1382)) 13 nd (nI nd20)) 2 K) at1376 T fa1377 K 319 (by omega) (by omega) hK (by omega) (by decide) (by decide)) (gV pw_1621 pw_1622 pw_1623 pw_1523 pw_1605) hV_X12_may 0 9 rfl rfl rfl rfl (Nat.le_of_ble_eq_true rfl) dX12_attempt_171 ⟨Nat.le_of_ble_eq_true rfl, Nat.le_of_ble_eq_true rfl⟩ ⟨(by show 3 + 1 ≤ (26 * n + 43); omega), (by show 8 + (3 + 11) + 81 ≤ (2000 * n + 4300); omega)⟩ (fun v1957 u1955 H locs hw1956 hP hD hS => ?_)
                    obtain ⟨at1958, r1959⟩ := u1955
                    obtain ⟨hw1956, h1960, h1961, h1962, h1963, h1964, h1965⟩ := hw1956
                    have h1960 : r1959 ≤ 1 := h1960
                    have h1961 : fa1377 + 100 * r1959 ≤ 100 := h1961
                    have h1962 : at1958 = at1376 + r1959 := h1962
                    have h1963 : at1958 ≤ T := h1963
                    have h1964 : If (r1959 = 1) (K at1376 = 319) := h1964
                    have h1965 : If (r1959 = 0) (fa1377 = 0 → ¬ K at1376 = 319) := h1965
                    obtain rfl : v1957 = some (.int (nI r1959)) := hw1956
                    have hP : va_P G.1 pCl (mW G h0 a (upd (upd (upd (upd (upd (upd (upd F 15 (nI fa1377)) 16 pl1378) 27 (nI nd1379)) 31 (nI wr1381)) 64 (nI at1958)) 65 (nI ne)) 66 (nI lk1380)) (updA (stR (stR X1383 13 nd20 (nI r1382)) 13 nd (nI nd20)) 2 K)) _ := mW_to (F := F) (l1 := [(15, (nI fa1377)), (16, pl1378), (27, (nI nd1379)), (31, (nI wr1381)), (64, (nI at1376)), (65, (nI ne)), (66, (nI lk1380)), (15, (nI fa1377)), (64, (nI at1958))]) (l2 := [(15, (nI fa1377)), (16, pl1378), (27, (nI nd1379)), (31, (nI wr1381)), (64, (nI at1958)), (65, (nI ne)), (66, (nI lk1380))]) (V := [(nI fa1377), pl1378, (nI nd1379), (nI wr1381), (nI at1958), (nI ne), (nI lk1380), (nI fa1377), (nI at1958), (nI fa1377), pl1378, (nI nd1379), (nI wr1381), (nI at1958), (nI ne), (nI lk1380)]) rfl rfl (show (updA (updA (stR (stR X1383 13 nd20 (nI r1382)) 13 nd (nI nd20)) 2 K) 2 K) = (updA (stR (stR X1383 13 nd20 (nI r1382)) 13 nd (nI nd20)) 2 K) from updsA_eq2 (F := X1383) (l1 := [(13, (upd (X1383 13) nd20 (nI r1382))), (13, (upd ((stR X1383 13 nd20 (nI r1382)) 13) nd (nI nd20))), (2, K), (2, K)]) (l2 := [(13, (upd (X1383 13) nd20 (nI r1382))), (13, (upd ((stR X1383 13 nd20 (nI r1382)) 13) nd (nI nd20))), (2, K)]) (V := [(upd ((stR X1383 13 nd20 (nI r1382)) 13) nd (nI nd20)), (upd ((stR X1383 13 nd20 (nI r1382)) 13) nd (nI nd20)), K, K, (upd ((stR X1383 13 nd20 (nI r1382)) 13) nd (nI nd20)), (upd ((stR X1383 13 nd20 (nI r1382)) 13) nd (nI nd20)), K]) rfl rfl) hP
                    have hD : va_D A (mW G h0 a (upd (upd (upd (upd (upd (upd (upd F 15 (nI fa1377)) 16 pl1378) 27 (nI nd1379)) 31 (nI wr1381)) 64 (nI at1958)) 65 (nI ne)) 66 (nI lk1380)) (updA (stR (stR X1383 13 nd20 (nI r1382)) 13 nd (nI nd20)) 2 K)) := mW_D hD
                    refine W.widen (k := 0) (n := 0) (Nat.le_of_ble_eq_true rfl) (Nat.le_of_ble_eq_true rfl) ?_
                    refine W.eq (g2 := F0 m 174 ls [.int (nI r1959)]) rfl ?_
                    obtain rfl : at1376 = at1958 := (by omega)
                    refine lv_if_eq (tgt := 187) hx hb dX12_attempt_174 (by decide) (fun c1966 => ?_) (fun c1966 => (by have n1967 : ¬ (r1959 = 0) := fun h9 => c1966 ((nI_eq (a := r1959) (b := 0) (by omega) (by omega)).mpr h9); omega))
                    refine lv_iload_n hx hb dX12_attempt_187 rfl (lv_at hl 5 rfl) ?_
                    have hz1968 : at0 ≤ at1376 := (by omega)
                    have hz1969 : at1376 ≤ T := (by omega)
                    have hz1970 : fa1377 ≤ 100 := (by omega)
                    have hz1971 : nd ≤ nd1379 := (by omega)
                    have hz1972 : nd1379 + 2 * at0 ≤ nd + 2 * at1376 + 100000 * fa1377 := (by omega)
                    have hz1973 : nd1379 + 2 * at0 ≤ nd + 2 * at1376 + (60 * (21 - ne) + 40) := (by omega)
                    have hz1974 : wr ≤ wr1381 := (by omega)
                    have hz1975 : wr1381 + at0 ≤ wr + at1376 := (by omega)
                    have hz1976 : lk ≤ lk1380 := (by omega)
                    have hz1977 : lk1380 ≤ 60 + 100 * fa1377 := (by omega)
                    have hz1978 : at0 + 1 ≤ at1376 + fa1377 := (by omega)
                    have hz1979 : nd ≤ nd1379 := (by omega)
                    have hz1980 : Kp B (stR (stR X1383 13 nd20 (nI r1382)) 13 nd (nI nd20)) wr1381 T := hkp1941
                    have hz1981 : If (fa1377 = 0) (Low B (stR (stR X1383 13 nd20 (nI r1382)) 13 nd (nI nd20)) nd wr ∧ Frs K T wr1381 (stR (stR X1383 13 nd20 (nI r1382)) 13 nd (nI nd20)) nd nd1379 20000 [(nd, (280 + 4 * (21 - ne)))] ∧ kcl 3 ((stR (stR X1383 13 nd20 (nI r1382)) 13 nd (nI nd20)) 9 nd) = true) := (fun e => absurd e (by omega))
                    have hP : va_P G.1 pCl (mW G h0 a (upd (upd (upd (upd (upd (upd (upd F 15 (nI fa1377)) 16 pl1378) 27 (nI nd1379)) 31 (nI wr1381)) 64 (nI at1376)) 65 (nI ne)) 66 (nI lk1380)) (updA (stR (stR X1383 13 nd20 (nI r1382)) 13 nd (nI nd20)) 2 K)) _ := hP
                    have hD : va_D A (mW G h0 a (upd (upd (upd (upd (upd (upd (upd F 15 (nI fa1377)) 16 pl1378) 27 (nI nd1379)) 31 (nI wr1381)) 64 (nI at1376)) 65 (nI ne)) 66 (nI lk1380)) (updA (stR (stR X1383 13 nd20 (nI r1382)) 13 nd (nI nd20)) 2 K)) := mW_D hD
                    exact W.iret (v := (nI nd)) hx hb hr (fun t9 ht9 hW9 => ⟨⟨_, (at1376, fa1377, pl1378, nd1379, lk1380, wr1381, nd, (stR (stR X1383 13 nd20 (nI r1382)) 13 nd (nI nd20))), rfl, ⟨rfl, hz1968, hz1969, hz1970, hz1971, hz1972, hz1973, hz1974, hz1975, hz1976, hz1977, hz1978, hz1979, hz1980, hz1981⟩, by rw [ht9]; exact hP, hD⟩, hS.F ht9⟩) hS.2.2 dX12_attempt_188
                · have e1361 := e1361
                  refine lv_aload_n hx hb dX12_attempt_112 rfl (lv_at hl 5 rfl) ?_
                  refine lv_bipush (v := 44) hx hb dX12_attempt_113 (by decide) ?_
                  refine lv_iload_n hx hb dX12_attempt_115 rfl (lv_at hl 2 rfl) ?_
                  refine lv_iload hx hb dX12_attempt_116 (lv_at hl 0 rfl) ?_
                  refine lv_iload hx hb dX12_attempt_118 (lv_at hl 1 rfl) ?_
                  refine lv_iconst (v := (-1)) hx hb dX12_attempt_120 (by decide) ?_
                  have hP : va_P G.1 pCl (mW G h0 a (upd (upd (upd (upd (upd (upd (upd (upd F 15 (nI fa1351)) 16 pl1352) 27 (nI nd20)) 31 (nI wr22)) 64 (nI at1350)) 65 (nI ne)) 66 (nI lk21)) 27 (nI nd20)) (updA (stR X24 12 nd (nI r23)) 2 K)) _ := mW_to (F := F) (l1 := [(15, (nI fa1351)), (16, pl1352), (27, (nI nd20)), (31, (nI wr22)), (64, (nI at1350)), (65, (nI ne)), (66, (nI lk21))]) (l2 := [(15, (nI fa1351)), (16, pl1352), (27, (nI nd20)), (31, (nI wr22)), (64, (nI at1350)), (65, (nI ne)), (66, (nI lk21)), (27, (nI nd20))]) (V := [(nI fa1351), pl1352, (nI nd20), (nI wr22), (nI at1350), (nI ne), (nI lk21), (nI fa1351), pl1352, (nI nd20), (nI wr22), (nI at1350), (nI ne), (nI lk21), (nI nd20)]) rfl rfl rfl hP
                  have hD : va_D A (mW G h0 a (upd (upd (upd (upd (upd (upd (upd (upd F 15 (nI fa1351)) 16 pl1352) 27 (nI nd20)) 31 (nI wr22)) 64 (nI at1350)) 65 (nI ne)) 66 (nI lk21)) 27 (nI nd20)) (updA (stR X24 12 nd (nI r23)) 2 K)) := mW_D hD
                  refine pc_V0 (G := G) (As := [.int 44, .int (nI (at1289 - 1)), .int (nI at1320), .int (nI at1305), .int (-1)]) (rest := []) hx hb hml hown hq hE hX pX0_al hP hD hS hA hl.1 (R_nodeB l G h0 a (upd (upd (upd (upd (upd (upd (upd F 15 (nI fa1351)) 16 pl1352) 27 (nI nd20)) 31 (nI wr22)) 64 (nI at1350)) 65 (nI ne)) 66 (nI lk21)) (stR X24 12 nd (nI r23)) 44 (nI (at1289 - 1)) (nI at1320) (nI at1305) (-1) nd20 K (by omega)) (gV pw_1650 pw_1651 pw_1652 pw_1523 pw_1589) hV_X12_node 0 9 rfl rfl rfl rfl (Nat.le_of_ble_eq_true rfl) dX12_attempt_121 ⟨Nat.le_of_ble_eq_true rfl, Nat.le_of_ble_eq_true rfl⟩ ⟨(by show 2 + 1 ≤ (26 * n + 43); omega), (by show 8 + (7 + 11) + 60 ≤ (2000 * n + 4300); omega)⟩ (fun v1984 u1982 H locs hw1983 hP hD hS => ?_)
                  obtain ⟨X1985, rfl⟩ : ∃ z, z = u1982 := ⟨_, rfl⟩
                  obtain ⟨hw1983, h1986⟩ := hw1983
                  have h1986 : NewN (stR X24 12 nd (nI r23)) X1985 nd20 44 (nI (at1289 - 1)) (nI at1320) (nI at1305) (-1) := h1986
                  obtain rfl : v1984 = some (.int (nI nd20)) := hw1983
                  have hP : va_P G.1 pCl (mW G h0 a (upd (upd (upd (upd (upd (upd (upd F 15 (nI fa1351)) 16 pl1352) 27 (nI (nd20 + 1))) 31 (nI wr22)) 64 (nI at1350)) 65 (nI ne)) 66 (nI lk21)) (updA X1985 2 K)) _ := mW_to (F := F) (l1 := [(15, (nI fa1351)), (16, pl1352), (27, (nI nd20)), (31, (nI wr22)), (64, (nI at1350)), (65, (nI ne)), (66, (nI lk21)), (27, (nI (nd20 + 1)))]) (l2 := [(15, (nI fa1351)), (16, pl1352), (27, (nI (nd20 + 1))), (31, (nI wr22)), (64, (nI at1350)), (65, (nI ne)), (66, (nI lk21))]) (V := [(nI fa1351), pl1352, (nI (nd20 + 1)), (nI wr22), (nI at1350), (nI ne), (nI lk21), (nI (nd20 + 1)), (nI fa1351), pl1352, (nI (nd20 + 1)), (nI wr22), (nI at1350), (nI ne), (nI lk21)]) rfl rfl rfl hP
                  have hD : va_D A (mW G h0 a (upd (upd (upd (upd (upd (upd (upd F 15 (nI fa1351)) 16 pl1352) 27 (nI (nd20 + 1))) 31 (nI wr22)) 64 (nI at1350)) 65 (nI ne)) 66 (nI lk21)) (updA X1985 2 K)) := mW_D hD
                  refine W.widen (k := 0) (n := 0) (Nat.le_of_ble_eq_true rfl) (Nat.le_of_ble_eq_true rfl) ?_
                  refine W.eq (g2 := F0 m 124 ls [.int (nI nd20)]) rfl ?_
                  have hkp1987 : Kp B X1985 wr22 T := (Kp.new hkp48 h1986)
                  refine lv_istore (lv' := [(6, .int (nI nd20)), (5, .int (nI at1320)), (4, .int (nI at1305)), (3, .int (nI (at1289 - 1))), (2, .int (-1)), (1, .int (nI nd)), (0, .ref h0)]) hx hb dX12_attempt_124 hl (by decide) rfl (fun ls hl => ?_)
                  refine lv_aload_n hx hb dX12_attempt_126 rfl (lv_at hl 6 rfl) ?_
                  refine r_get (v := .ref (a 13)) hx hb hown hq hE hP 21 50 tFX12_21 (by decide) pw_1443 rfl dX12_attempt_127 ?_
                  refine lv_iload hx hb dX12_attempt_130 (lv_at hl 0 rfl) ?_
                  refine lv_aload_n hx hb dX12_attempt_132 rfl (lv_at hl 6 rfl) ?_
                  have hP : va_P G.1 pCl (mW G h0 a (upd (upd (upd (upd (upd (upd (upd (upd (upd (upd (upd F 15 (nI fa1351)) 16 pl1352) 27 (nI (nd20 + 1))) 31 (nI wr22)) 64 (nI at1350)) 65 (nI ne)) 66 (nI lk21)) 15 (nI fa1351)) 27 (nI (nd20 + 1))) 31 (nI wr22)) 64 (nI at1350)) (updA X1985 2 K)) _ := mW_to (F := F) (l1 := [(15, (nI fa1351)), (16, pl1352), (27, (nI (nd20 + 1))), (31, (nI wr22)), (64, (nI at1350)), (65, (nI ne)), (66, (nI lk21))]) (l2 := [(15, (nI fa1351)), (16, pl1352), (27, (nI (nd20 + 1))), (31, (nI wr22)), (64, (nI at1350)), (65, (nI ne)), (66, (nI lk21)), (15, (nI fa1351)), (27, (nI (nd20 + 1))), (31, (nI wr22)), (64, (nI at1350))]) (V := [(nI fa1351), pl1352, (nI (nd20 + 1)), (nI wr22), (nI at1350), (nI ne), (nI lk21), (nI fa1351), pl1352, (nI (nd20 + 1)), (nI wr22), (nI at1350), (nI ne), (nI lk21), (nI fa1351), (nI (nd20 + 1)), (nI wr22), (nI at1350)]) rfl rfl rfl hP
                  have hD : va_D A (mW G h0 a (upd (upd (upd (upd (upd (upd (upd (upd (upd (upd (upd F 15 (nI fa1351)) 16 pl1352) 27 (nI (nd20 + 1))) 31 (nI wr22)) 64 (nI at1350)) 65 (nI ne)) 66 (nI lk21)) 15 (nI fa1351)) 27 (nI (nd20 + 1))) 31 (nI wr22)) 64 (nI at1350)) (updA X1985 2 K)) := mW_D hD
                  refine pc_V0 (G := G) (As := []) (rest := [.int (nI nd20), .ref (a 13)]) hx hb hml hown hq hE hX pX0_al hP hD hS hA hl.1 (RF_block l G h0 a (upd (upd (upd (upd (upd (upd (upd F 15 (nI fa1351)) 16 pl1352) 27 (nI (nd20 + 1))) 31 (nI wr22)) 64 (nI at1350)) 65 (nI ne)) 66 (nI lk21)) X1985 at1350 T fa1351 (nd20 + 1) wr22 K (by omega) (by omega) hK (by omega) e1361 (by omega) (by omega) (hkp1987).2) (gV pw_1685 pw_1686 pw_1687 pw_1523 pw_1688) hV_X12_block 0 9 rfl rfl rfl rfl (Nat.le_of_ble_eq_true rfl) dX12_attempt_133 ⟨Nat.le_of_ble_eq_true rfl, Nat.le_of_ble_eq_true rfl⟩ ⟨(by show 5 + 1 ≤ (26 * n + 43); omega), (by show 8 + (4 + 11) + 124 ≤ (2000 * n + 4300); omega)⟩ (fun v1990 u1988 H locs hw1989 hP hD hS => ?_)
                  obtain ⟨pl1991, wr1992, X1993⟩ := u1988
                  obtain ⟨hw1989, h1994, h1995, h1996⟩ := hw1989
                  have h1994 : wr22 ≤ wr1992 := h1994
                  have h1995 : wr1992 ≤ wr22 := h1995
                  have h1996 : Kp X1985 X1993 wr1992 T := h1996
                  obtain rfl : v1990 = some (.int (nI (nd20 + 1))) := hw1989
                  have hP : va_P G.1 pCl (mW G h0 a (upd (upd (upd (upd (upd (upd (upd F 15 (nI fa1351)) 16 pl1991) 27 (nI ((nd20 + 1) + 1))) 31 (nI wr1992)) 64 (nI at1350)) 65 (nI ne)) 66 (nI lk21)) (updA X1993 2 K)) _ := mW_to (F := F) (l1 := [(15, (nI fa1351)), (16, pl1352), (27, (nI (nd20 + 1))), (31, (nI wr22)), (64, (nI at1350)), (65, (nI ne)), (66, (nI lk21)), (15, (nI fa1351)), (16, pl1991), (27, (nI ((nd20 + 1) + 1))), (31, (nI wr1992)), (64, (nI at1350))]) (l2 := [(15, (nI fa1351)), (16, pl1991), (27, (nI ((nd20 + 1) + 1))), (31, (nI wr1992)), (64, (nI at1350)), (65, (nI ne)), (66, (nI lk21))]) (V := [(nI fa1351), pl1991, (nI ((nd20 + 1) + 1)), (nI wr1992), (nI at1350), (nI ne), (nI lk21), (nI fa1351), pl1991, (nI ((nd20 + 1) + 1)), (nI wr1992), (nI at1350), (nI fa1351), pl1991, (nI ((nd20 + 1) + 1)), (nI wr1992), (nI at1350), (nI ne), (nI lk21)]) rfl rfl rfl hP
                  have hD : va_D A (mW G h0 a (upd (upd (upd (upd (upd (upd (upd F 15 (nI fa1351)) 16 pl1991) 27 (nI ((nd20 + 1) + 1))) 31 (nI wr1992)) 64 (nI at1350)) 65 (nI ne)) 66 (nI lk21)) (updA X1993 2 K)) := mW_D hD
                  refine W.widen (k := 0) (n := 0) (Nat.le_of_ble_eq_true rfl) (Nat.le_of_ble_eq_true rfl) ?_
                  refine W.eq (g2 := F0 m 136 ls [.int (nI (nd20 + 1)), .int (nI nd20), .ref (a 13)]) rfl ?_
                  have hkp1997 : Kp B X1993 wr1992 T := (Kp.trans hkp1987 h1996)
                  refine r_sti (f := (X1993 13)) (j := nd20) hx hb hE hP hD hS 13 (ma_13 G a _) rfl (mas_13 G a _) (by omega) (by decide) dX12_attempt_136 (fun H locs hP hD hS => ?_)
                  have hP : va_P G.1 pCl (mW G h0 a (upd (upd (upd (upd (upd (upd (upd F 15 (nI fa1351)) 16 pl1991) 27 (nI ((nd20 + 1) + 1))) 31 (nI wr1992)) 64 (nI at1350)) 65 (nI ne)) 66 (nI lk21)) (updA (stR X1993 13 nd20 (nI (nd20 + 1))) 2 K)) _ := mW_to (F := F) (l1 := [(15, (nI fa1351)), (16, pl1991), (27, (nI ((nd20 + 1) + 1))), (31, (nI wr1992)), (64, (nI at1350)), (65, (nI ne)), (66, (nI lk21))]) (l2 := [(15, (nI fa1351)), (16, pl1991), (27, (nI ((nd20 + 1) + 1))), (31, (nI wr1992)), (64, (nI at1350)), (65, (nI ne)), (66, (nI lk21))]) (V := [(nI fa1351), pl1991, (nI ((nd20 + 1) + 1)), (nI wr1992), (nI at1350), (nI ne), (nI lk21), (nI fa1351), pl1991, (nI ((nd20 + 1) + 1)), (nI wr1992), (nI at1350), (nI ne), (nI lk21)]) rfl rfl (show (updA (updA X1993 2 K) 13 (upd (X1993 13) nd20 (nI (nd20 + 1)))) = (updA (stR X1993 13 nd20 (nI (nd20 + 1))) 2 K) from updsA_eq2 (F := X1993) (l1 := [(2, K), (13, (upd (X1993 13) nd20 (nI (nd20 + 1))))]) (l2 := [(13, (upd (X1993 13) nd20 (nI (nd20 + 1)))), (2, K)]) (V := [K, (upd (X1993 13) nd20 (nI (nd20 + 1))), (upd (X1993 13) nd20 (nI (nd20 + 1))), K]) rfl rfl) hP
                  have hD : va_D A (mW G h0 a (upd (upd (upd (upd (upd (upd (upd F 15 (nI fa1351)) 16 pl1991) 27 (nI ((nd20 + 1) + 1))) 31 (nI wr1992)) 64 (nI at1350)) 65 (nI ne)) 66 (nI lk21)) (updA (stR X1993 13 nd20 (nI (nd20 + 1))) 2 K)) := mW_D hD
                  have hkp1998 : Kp B (stR X1993 13 nd20 (nI (nd20 + 1))) wr1992 T := (Kp.row hkp1997 (by omega))
                  refine lv_iload_n hx hb dX12_attempt_137 rfl (lv_at hl 4 rfl) ?_
                  refine lv_iconst (v := (-1)) hx hb dX12_attempt_138 (by decide) ?_
                  refine lv_icmp_ne (tgt := 153) hx hb dX12_attempt_139 (by decide) (fun c1999 => absurd c1999 (by decide)) (fun c1999 => ?_)
                  refine lv_aload_n hx hb dX12_attempt_142 rfl (lv_at hl 6 rfl) ?_
                  refine r_get (v := .ref (a 13)) hx hb hown hq hE hP 21 50 tFX12_21 (by decide) pw_1443 rfl dX12_attempt_143 ?_
                  refine lv_iload_n hx hb dX12_attempt_146 rfl (lv_at hl 5 rfl) ?_
                  refine lv_iload hx hb dX12_attempt_147 (lv_at hl 0 rfl) ?_
                  refine r_sti (f := ((stR X1993 13 nd20 (nI (nd20 + 1))) 13)) (j := nd) hx hb hE hP hD hS 13 (ma_13 G a _) rfl (mas_13 G a _) (by omega) (by decide) dX12_attempt_149 (fun H locs hP hD hS => ?_)
                  have hP : va_P G.1 pCl (mW G h0 a (upd (upd (upd (upd (upd (upd (upd F 15 (nI fa1351)) 16 pl1991) 27 (nI ((nd20 + 1) + 1))) 31 (nI wr1992)) 64 (nI at1350)) 65 (nI ne)) 66 (nI lk21)) (updA (stR (stR X1993 13 nd20 (nI (nd20 + 1))) 13 nd (nI nd20)) 2 K)) _ := mW_to (F := F) (l1 := [(15, (nI fa1351)), (16, pl1991), (27, (nI ((nd20 + 1) + 1))), (31, (nI wr1992)), (64, (nI at1350)), (65, (nI ne)), (66, (nI lk21))]) (l2 := [(15, (nI fa1351)), (16, pl1991), (27, (nI ((nd20 + 1) + 1))), (31, (nI wr1992)), (64, (nI at1350)), (65, (nI ne)), (66, (nI lk21))]) (V := [(nI fa1351), pl1991, (nI ((nd20 + 1) + 1)), (nI wr1992), (nI at1350), (nI ne), (nI lk21), (nI fa1351), pl1991, (nI ((nd20 + 1) + 1)), (nI wr1992), (nI at1350), (nI ne), (nI lk21)]) rfl rfl (show (updA (updA (stR X1993 13 nd20 (nI (nd20 + 1))) 2 K) 13 (upd ((stR X1993 13 nd20 (nI (nd20 + 1))) 13) nd (nI nd20))) = (updA (stR (stR X1993 13 nd20 (nI (nd20 + 1))) 13 nd (nI nd20)) 2 K) from updsA_eq2 (F := X1993) (l1 := [(13, (upd (X1993 13) nd20 (nI (nd20 + 1)))), (2, K), (13, (upd ((stR X1993 13 nd20 (nI (nd20 + 1))) 13) nd (nI nd20)))]) (l2 := [(13, (upd (X1993 13) nd20 (nI (nd20 + 1)))), (13, (upd ((stR X1993 13 nd20 (nI (nd20 + 1))) 13) nd (nI nd20))), (2, K)]) (V := [(upd ((stR X1993 13 nd20 (nI (nd20 + 1))) 13) nd (nI nd20)), K, (upd ((stR X1993 13 nd20 (nI (nd20 + 1))) 13) nd (nI nd20)), (upd ((stR X1993 13 nd20 (nI (nd20 + 1))) 13) nd (nI nd20)), (upd ((stR X1993 13 nd20 (nI (nd20 + 1))) 13) nd (nI nd20)), K]) rfl rfl) hP
                  have hD : va_D A (mW G h0 a (upd (upd (upd (upd (upd (upd (upd F 15 (nI fa1351)) 16 pl1991) 27 (nI ((nd20 + 1) + 1))) 31 (nI wr1992)) 64 (nI at1350)) 65 (nI ne)) 66 (nI lk21)) (updA (stR (stR X1993 13 nd20 (nI (nd20 + 1))) 13 nd (nI nd20)) 2 K)) := mW_D hD
                  have hkp2000 : Kp B (stR (stR X1993 13 nd20 (nI (nd20 + 1))) 13 nd (nI nd20)) wr1992 T := (Kp.row hkp1998 (by omega))
                  refine lv_goto (tgt := 161) hx hb dX12_attempt_150 (by decide) ?_
                  refine lv_iload hx hb dX12_attempt_161 (lv_at hl 0 rfl) ?_
                  refine lv_istore_n (lv' := [(2, .int (nI nd20)), (6, .int (nI nd20)), (5, .int (nI at1320)), (4, .int (nI at1305)), (3, .int (nI (at1289 - 1))), (1, .int (nI nd)), (0, .ref h0)]) hx hb dX12_attempt_163 rfl hl (by decide) rfl (fun ls hl => ?_)
                  refine lv_goto (tgt := 71) hx hb dX12_attempt_164 (by decide) ?_
                  refine lv_aload_n hx hb dX12_attempt_71 rfl (lv_at hl 6 rfl) ?_
                  refine lv_sipush (v := 313) hx hb dX12_attempt_72 (by decide) ?_
                  have hP : va_P G.1 pCl (mW G h0 a (upd (upd (upd (upd (upd (upd (upd (upd (upd F 15 (nI fa1351)) 16 pl1991) 27 (nI ((nd20 + 1) + 1))) 31 (nI wr1992)) 64 (nI at1350)) 65 (nI ne)) 66 (nI lk21)) 15 (nI fa1351)) 64 (nI at1350)) (updA (updA (stR (stR X1993 13 nd20 (nI (nd20 + 1))) 13 nd (nI nd20)) 2 K) 2 K)) _ := mW_to (F := F) (l1 := [(15, (nI fa1351)), (16, pl1991), (27, (nI ((nd20 + 1) + 1))), (31, (nI wr1992)), (64, (nI at1350)), (65, (nI ne)), (66, (nI lk21))]) (l2 := [(15, (nI fa1351)), (16, pl1991), (27, (nI ((nd20 + 1) + 1))), (31, (nI wr1992)), (64, (nI at1350)), (65, (nI ne)), (66, (nI lk21)), (15, (nI fa1351)), (64, (nI at1350))]) (V := [(nI fa1351), pl1991, (nI ((nd20 + 1) + 1)), (nI wr1992), (nI at1350), (nI ne), (nI lk21), (nI fa1351), pl1991, (nI ((nd20 + 1) + 1)), (nI wr1992), (nI at1350), (nI ne), (nI lk21), (nI fa1351), (nI at1350)]) rfl rfl (show (updA (stR (stR X1993 13 nd20 (nI (nd20 + 1))) 13 nd (nI nd20)) 2 K) = (updA (updA (stR (stR X1993 13 nd20 (nI (nd20 + 1))) 13 nd (nI nd20)) 2 K) 2 K) from updsA_eq2 (F := X1993) (l1 := [(13, (upd (X1993 13) nd20 (nI (nd20 + 1)))), (13, (upd ((stR X1993 13 nd20 (nI (nd20 + 1))) 13) nd (nI nd20))), (2, K)]) (l2 := [(13, (upd (X1993 13) nd20 (nI (nd20 + 1)))), (13, (upd ((stR X1993 13 nd20 (nI (nd20 + 1))) 13) nd (nI nd20))), (2, K), (2, K)]) (V := [(upd ((stR X1993 13 nd20 (nI (nd20 + 1))) 13) nd (nI nd20)), (upd ((stR X1993 13 nd20 (nI (nd20 + 1))) 13) nd (nI nd20)), K, (upd ((stR X1993 13 nd20 (nI (nd20 + 1))) 13) nd (nI nd20)), (upd ((stR X1993 13 nd20 (nI (nd20 + 1))) 13) nd (nI nd20)), K, K]) rfl rfl) hP
                  have hD : va_D A (mW G h0 a (upd (upd (upd (upd (upd (upd (upd (upd (upd F 15 (nI fa1351)) 16 pl1991) 27 (nI ((nd20 + 1) + 1))) 31 (nI wr1992)) 64 (nI at1350)) 65 (nI ne)) 66 (nI lk21)) 15 (nI fa1351)) 64 (nI at1350)) (updA (updA (stR (stR X1993 13 nd20 (nI (nd20 + 1))) 13 nd (nI nd20)) 2 K) 2 K)) := mW_D hD
                  refine pc_V0 (G := G) (As := [.int 313]) (rest := []) hx hb hml hown hq hE hX pX0_al hP hD hS hA hl.1 (R_may l G h0 a (upd (upd (upd (upd (upd (upd (upd F 15 (nI fa1351)) 16 pl1991) 27 (nI ((nd20 + 1) + 1))) 31 (nI wr1992)) 64 (nI at1350)) 65 (nI ne)) 66 (nI lk21)) (updA (stR (stR X1993 13 nd20 (nI (nd20 + 1))) 13 nd (nI nd20)) 2 K) at1350 T fa1351 K 313 (by omega) (by omega) hK (by omega) (by decide) (by decide)) (gV pw_1621 pw_1622 pw_1623 pw_1523 pw_1605) hV_X12_may 0 9 rfl rfl rfl rfl (Nat.le_of_ble_eq_true rfl) dX12_attempt_75 ⟨Nat.le_of_ble_eq_true rfl, Nat.le_of_ble_eq_true rfl⟩ ⟨(by show 3 + 1 ≤ (26 * n + 43); omega), (by show 8 + (3 + 11) + 81 ≤ (2000 * n + 4300); omega)⟩ (fun v2003 u2001 H locs hw2002 hP hD hS => ?_)
                  obtain ⟨at2004, r2005⟩ := u2001
                  obtain ⟨hw2002, h2006, h2007, h2008, h2009, h2010, h2011⟩ := hw2002
                  have h2006 : r2005 ≤ 1 := h2006
                  have h2007 : fa1351 + 100 * r2005 ≤ 100 := h2007
                  have h2008 : at2004 = at1350 + r2005 := h2008
                  have h2009 : at2004 ≤ T := h2009
                  have h2010 : If (r2005 = 1) (K at1350 = 313) := h2010
                  have h2011 : If (r2005 = 0) (fa1351 = 0 → ¬ K at1350 = 313) := h2011
                  obtain rfl : v2003 = some (.int (nI r2005)) := hw2002
                  have hP : va_P G.1 pCl (mW G h0 a (upd (upd (upd (upd (upd (upd (upd F 15 (nI fa1351)) 16 pl1991) 27 (nI ((nd20 + 1) + 1))) 31 (nI wr1992)) 64 (nI at2004)) 65 (nI ne)) 66 (nI lk21)) (updA (stR (stR X1993 13 nd20 (nI (nd20 + 1))) 13 nd (nI nd20)) 2 K)) _ := mW_to (F := F) (l1 := [(15, (nI fa1351)), (16, pl1991), (27, (nI ((nd20 + 1) + 1))), (31, (nI wr1992)), (64, (nI at1350)), (65, (nI ne)), (66, (nI lk21)), (15, (nI fa1351)), (64, (nI at2004))]) (l2 := [(15, (nI fa1351)), (16, pl1991), (27, (nI ((nd20 + 1) + 1))), (31, (nI wr1992)), (64, (nI at2004)), (65, (nI ne)), (66, (nI lk21))]) (V := [(nI fa1351), pl1991, (nI ((nd20 + 1) + 1)), (nI wr1992), (nI at2004), (nI ne), (nI lk21), (nI fa1351), (nI at2004), (nI fa1351), pl1991, (nI ((nd20 + 1) + 1)), (nI wr1992), (nI at2004), (nI ne), (nI lk21)]) rfl rfl (show (updA (updA (stR (stR X1993 13 nd20 (nI (nd20 + 1))) 13 nd (nI nd20)) 2 K) 2 K) = (updA (stR (stR X1993 13 nd20 (nI (nd20 + 1))) 13 nd (nI nd20)) 2 K) from updsA_eq2 (F := X1993) (l1 := [(13, (upd (X1993 13) nd20 (nI (nd20 + 1)))), (13, (upd ((stR X1993 13 nd20 (nI (nd20 + 1))) 13) nd (nI nd20))), (2, K), (2, K)]) (l2 := [(13, (upd (X1993 13) nd20 (nI (nd20 + 1)))), (13, (upd ((stR X1993 13 nd20 (nI (nd20 + 1))) 13) nd (nI nd20))), (2, K)]) (V := [(upd ((stR X1993 13 nd20 (nI (nd20 + 1))) 13) nd (nI nd20)), (upd ((stR X1993 13 nd20 (nI (nd20 + 1))) 13) nd (nI nd20)), K, K, (upd ((stR X1993 13 nd20 (nI (nd20 + 1))) 13) nd (nI nd20)), (upd ((stR X1993 13 nd20 (nI (nd20 + 1))) 13) nd (nI nd20)), K]) rfl rfl) hP
                  have hD : va_D A (mW G h0 a (upd (upd (upd (upd (upd (upd (upd F 15 (nI fa1351)) 16 pl1991) 27 (nI ((nd20 + 1) + 1))) 31 (nI wr1992)) 64 (nI at2004)) 65 (nI ne)) 66 (nI lk21)) (updA (stR (stR X1993 13 nd20 (nI (nd20 + 1))) 13 nd (nI nd20)) 2 K)) := mW_D hD
                  refine W.widen (k := 0) (n := 0) (Nat.le_of_ble_eq_true rfl) (Nat.le_of_ble_eq_true rfl) ?_
                  refine W.eq (g2 := F0 m 78 ls [.int (nI r2005)]) rfl ?_
                  obtain rfl : at1350 = at2004 := (by omega)
                  refine lv_if_eq (tgt := 167) hx hb dX12_attempt_78 (by decide) (fun c2012 => ?_) (fun c2012 => (by have n2013 : ¬ (r2005 = 0) := fun h9 => c2012 ((nI_eq (a := r2005) (b := 0) (by omega) (by omega)).mpr h9); omega))
                  refine lv_aload_n hx hb dX12_attempt_167 rfl (lv_at hl 6 rfl) ?_
                  refine lv_sipush (v := 319) hx hb dX12_attempt_168 (by decide) ?_
                  have hP : va_P G.1 pCl (mW G h0 a (upd (upd (upd (upd (upd (upd (upd (upd (upd F 15 (nI fa1351)) 16 pl1991) 27 (nI ((nd20 + 1) + 1))) 31 (nI wr1992)) 64 (nI at1350)) 65 (nI ne)) 66 (nI lk21)) 15 (nI fa1351)) 64 (nI at1350)) (updA (updA (stR (stR X1993 13 nd20 (nI (nd20 + 1))) 13 nd (nI nd20)) 2 K) 2 K)) _ := hP
                  have hD : va_D A (mW G h0 a (upd (upd (upd (upd (upd (upd (upd (upd (upd F 15 (nI fa1351)) 16 pl1991) 27 (nI ((nd20 + 1) + 1))) 31 (nI wr1992)) 64 (nI at1350)) 65 (nI ne)) 66 (nI lk21)) 15 (nI fa1351)) 64 (nI at1350)) (updA (updA (stR (stR X1993 13 nd20 (nI (nd20 + 1))) 13 nd (nI nd20)) 2 K) 2 K)) := mW_D hD
                  refine pc_V0 (G := G) (As := [.int 319]) (rest := []) hx hb hml hown hq hE hX pX0_al hP hD hS hA hl.1 (R_may l G h0 a (upd (upd (upd (upd (upd (upd (upd F 15 (nI fa1351)) 16 pl1991) 27 (nI ((nd20 + 1) + 1))) 31 (nI wr1992)) 64 (nI at1350)) 65 (nI ne)) 66 (nI lk21)) (updA (stR (stR X1993 13 nd20 (nI (nd20 + 1))) 13 nd (nI nd20)) 2 K) at1350 T fa1351 K 319 (by omega) (by omega) hK (by omega) (by decide) (by decide)) (gV pw_1621 pw_1622 pw_1623 pw_1523 pw_1605) hV_X12_may 0 9 rfl rfl rfl rfl (Nat.le_of_ble_eq_true rfl) dX12_attempt_171 ⟨Nat.le_of_ble_eq_true rfl, Nat.le_of_ble_eq_true rfl⟩ ⟨(by show 3 + 1 ≤ (26 * n + 43); omega), (by show 8 + (3 + 11) + 81 ≤ (2000 * n + 4300); omega)⟩ (fun v2016 u2014 H locs hw2015 hP hD hS => ?_)
                  obtain ⟨at2017, r2018⟩ := u2014
                  obtain ⟨hw2015, h2019, h2020, h2021, h2022, h2023, h2024⟩ := hw2015
                  have h2019 : r2018 ≤ 1 := h2019
                  have h2020 : fa1351 + 100 * r2018 ≤ 100 := h2020
                  have h2021 : at2017 = at1350 + r2018 := h2021
                  have h2022 : at2017 ≤ T := h2022
                  have h2023 : If (r2018 = 1) (K at1350 = 319) := h2023
                  have h2024 : If (r2018 = 0) (fa1351 = 0 → ¬ K at1350 = 319) := h2024
                  obtain rfl : v2016 = some (.int (nI r2018)) := hw2015
                  have hP : va_P G.1 pCl (mW G h0 a (upd (upd (upd (upd (upd (upd (upd F 15 (nI fa1351)) 16 pl1991) 27 (nI ((nd20 + 1) + 1))) 31 (nI wr1992)) 64 (nI at2017)) 65 (nI ne)) 66 (nI lk21)) (updA (stR (stR X1993 13 nd20 (nI (nd20 + 1))) 13 nd (nI nd20)) 2 K)) _ := mW_to (F := F) (l1 := [(15, (nI fa1351)), (16, pl1991), (27, (nI ((nd20 + 1) + 1))), (31, (nI wr1992)), (64, (nI at1350)), (65, (nI ne)), (66, (nI lk21)), (15, (nI fa1351)), (64, (nI at2017))]) (l2 := [(15, (nI fa1351)), (16, pl1991), (27, (nI ((nd20 + 1) + 1))), (31, (nI wr1992)), (64, (nI at2017)), (65, (nI ne)), (66, (nI lk21))]) (V := [(nI fa1351), pl1991, (nI ((nd20 + 1) + 1)), (nI wr1992), (nI at2017), (nI ne), (nI lk21), (nI fa1351), (nI at2017), (nI fa1351), pl1991, (nI ((nd20 + 1) + 1)), (nI wr1992), (nI at2017), (nI ne), (nI lk21)]) rfl rfl (show (updA (updA (stR (stR X1993 13 nd20 (nI (nd20 + 1))) 13 nd (nI nd20)) 2 K) 2 K) = (updA (stR (stR X1993 13 nd20 (nI (nd20 + 1))) 13 nd (nI nd20)) 2 K) from updsA_eq2 (F := X1993) (l1 := [(13, (upd (X1993 13) nd20 (nI (nd20 + 1)))), (13, (upd ((stR X1993 13 nd20 (nI (nd20 + 1))) 13) nd (nI nd20))), (2, K), (2, K)]) (l2 := [(13, (upd (X1993 13) nd20 (nI (nd20 + 1)))), (13, (upd ((stR X1993 13 nd20 (nI (nd20 + 1))) 13) nd (nI nd20))), (2, K)]) (V := [(upd ((stR X1993 13 nd20 (nI (nd20 + 1))) 13) nd (nI nd20)), (upd ((stR X1993 13 nd20 (nI (nd20 + 1))) 13) nd (nI nd20)), K, K, (upd ((stR X1993 13 nd20 (nI (nd20 + 1))) 13) nd (nI nd20)), (upd ((stR X1993 13 nd20 (nI (nd20 + 1))) 13) nd (nI nd20)), K]) rfl rfl) hP
                  have hD : va_D A (mW G h0 a (upd (upd (upd (upd (upd (upd (upd F 15 (nI fa1351)) 16 pl1991) 27 (nI ((nd20 + 1) + 1))) 31 (nI wr1992)) 64 (nI at2017)) 65 (nI ne)) 66 (nI lk21)) (updA (stR (stR X1993 13 nd20 (nI (nd20 + 1))) 13 nd (nI nd20)) 2 K)) := mW_D hD
                  refine W.widen (k := 0) (n := 0) (Nat.le_of_ble_eq_true rfl) (Nat.le_of_ble_eq_true rfl) ?_
                  refine W.eq (g2 := F0 m 174 ls [.int (nI r2018)]) rfl ?_
                  obtain rfl : at1350 = at2017 := (by omega)
                  refine lv_if_eq (tgt := 187) hx hb dX12_attempt_174 (by decide) (fun c2025 => ?_) (fun c2025 => (by have n2026 : ¬ (r2018 = 0) := fun h9 => c2025 ((nI_eq (a := r2018) (b := 0) (by omega) (by omega)).mpr h9); omega))
                  refine lv_iload_n hx hb dX12_attempt_187 rfl (lv_at hl 5 rfl) ?_
                  have hz2027 : at0 ≤ at1350 := (by omega)
                  have hz2028 : at1350 ≤ T := (by omega)
                  have hz2029 : fa1351 ≤ 100 := (by omega)
                  have hz2030 : nd ≤ ((nd20 + 1) + 1) := (by omega)
                  have hz2031 : ((nd20 + 1) + 1) + 2 * at0 ≤ nd + 2 * at1350 + 100000 * fa1351 := (by omega)
                  have hz2032 : ((nd20 + 1) + 1) + 2 * at0 ≤ nd + 2 * at1350 + (60 * (21 - ne) + 40) := (by omega)
                  have hz2033 : wr ≤ wr1992 := (by omega)
                  have hz2034 : wr1992 + at0 ≤ wr + at1350 := (by omega)
                  have hz2035 : lk ≤ lk21 := (by omega)
                  have hz2036 : lk21 ≤ 60 + 100 * fa1351 := (by omega)
                  have hz2037 : at0 + 1 ≤ at1350 + fa1351 := (by omega)
                  have hz2038 : nd ≤ ((nd20 + 1) + 1) := (by omega)
                  have hz2039 : Kp B (stR (stR X1993 13 nd20 (nI (nd20 + 1))) 13 nd (nI nd20)) wr1992 T := hkp2000
                  have hz2040 : If (fa1351 = 0) (Low B (stR (stR X1993 13 nd20 (nI (nd20 + 1))) 13 nd (nI nd20)) nd wr ∧ Frs K T wr1992 (stR (stR X1993 13 nd20 (nI (nd20 + 1))) 13 nd (nI nd20)) nd ((nd20 + 1) + 1) 20000 [(nd, (280 + 4 * (21 - ne)))] ∧ kcl 3 ((stR (stR X1993 13 nd20 (nI (nd20 + 1))) 13 nd (nI nd20)) 9 nd) = true) := (fun e => absurd e (by omega))
                  have hP : va_P G.1 pCl (mW G h0 a (upd (upd (upd (upd (upd (upd (upd F 15 (nI fa1351)) 16 pl1991) 27 (nI ((nd20 + 1) + 1))) 31 (nI wr1992)) 64 (nI at1350)) 65 (nI ne)) 66 (nI lk21)) (updA (stR (stR X1993 13 nd20 (nI (nd20 + 1))) 13 nd (nI nd20)) 2 K)) _ := hP
                  have hD : va_D A (mW G h0 a (upd (upd (upd (upd (upd (upd (upd F 15 (nI fa1351)) 16 pl1991) 27 (nI ((nd20 + 1) + 1))) 31 (nI wr1992)) 64 (nI at1350)) 65 (nI ne)) 66 (nI lk21)) (updA (stR (stR X1993 13 nd20 (nI (nd20 + 1))) 13 nd (nI nd20)) 2 K)) := mW_D hD
                  exact W.iret (v := (nI nd)) hx hb hr (fun t9 ht9 hW9 => ⟨⟨_, (at1350, fa1351, pl1991, ((nd20 + 1) + 1), lk21, wr1992, nd, (stR (stR X1993 13 nd20 (nI (nd20 + 1))) 13 nd (nI nd20))), rfl, ⟨rfl, hz2027, hz2028, hz2029, hz2030, hz2031, hz2032, hz2033, hz2034, hz2035, hz2036, hz2037, hz2038, hz2039, hz2040⟩, by rw [ht9]; exact hP, hD⟩, hS.F ht9⟩) hS.2.2 dX12_attempt_188
              · have e1346 := e1346
                refine lv_istore (lv' := [(5, .int (nI at1320)), (4, .int (nI at1305)), (3, .int (nI (at1289 - 1))), (2, .int (-1)), (1, .int (nI nd)), (0, .ref h0)]) hx hb dX12_attempt_104 hl (by decide) rfl (fun ls hl => ?_)
                refine lv_aload_n hx hb dX12_attempt_106 rfl (lv_at hl 5 rfl) ?_
                refine lv_bipush (v := 41) hx hb dX12_attempt_107 (by decide) ?_
                have hP : va_P G.1 pCl (mW G h0 a (upd (upd (upd (upd (upd (upd (upd (upd (upd F 15 (nI fa1336)) 16 pl1337) 27 (nI nd20)) 31 (nI wr22)) 64 (nI at1335)) 65 (nI ne)) 66 (nI lk21)) 15 (nI fa1336)) 64 (nI at1335)) (updA (updA (stR X24 12 nd (nI r23)) 2 K) 2 K)) _ := mW_to (F := F) (l1 := [(15, (nI fa1336)), (16, pl1337), (27, (nI nd20)), (31, (nI wr22)), (64, (nI at1335)), (65, (nI ne)), (66, (nI lk21))]) (l2 := [(15, (nI fa1336)), (16, pl1337), (27, (nI nd20)), (31, (nI wr22)), (64, (nI at1335)), (65, (nI ne)), (66, (nI lk21)), (15, (nI fa1336)), (64, (nI at1335))]) (V := [(nI fa1336), pl1337, (nI nd20), (nI wr22), (nI at1335), (nI ne), (nI lk21), (nI fa1336), pl1337, (nI nd20), (nI wr22), (nI at1335), (nI ne), (nI lk21), (nI fa1336), (nI at1335)]) rfl rfl (show (updA (stR X24 12 nd (nI r23)) 2 K) = (updA (updA (stR X24 12 nd (nI r23)) 2 K) 2 K) from updsA_eq2 (F := X24) (l1 := [(12, (upd (X24 12) nd (nI r23))), (2, K)]) (l2 := [(12, (upd (X24 12) nd (nI r23))), (2, K), (2, K)]) (V := [(upd (X24 12) nd (nI r23)), K, (upd (X24 12) nd (nI r23)), K, K]) rfl rfl) hP
                have hD : va_D A (mW G h0 a (upd (upd (upd (upd (upd (upd (upd (upd (upd F 15 (nI fa1336)) 16 pl1337) 27 (nI nd20)) 31 (nI wr22)) 64 (nI at1335)) 65 (nI ne)) 66 (nI lk21)) 15 (nI fa1336)) 64 (nI at1335)) (updA (updA (stR X24 12 nd (nI r23)) 2 K) 2 K)) := mW_D hD
                refine pc_V0 (G := G) (As := [.int 41]) (rest := []) hx hb hml hown hq hE hX pX0_al hP hD hS hA hl.1 (R_take l G h0 a (upd (upd (upd (upd (upd (upd (upd F 15 (nI fa1336)) 16 pl1337) 27 (nI nd20)) 31 (nI wr22)) 64 (nI at1335)) 65 (nI ne)) 66 (nI lk21)) (updA (stR X24 12 nd (nI r23)) 2 K) at1335 T fa1336 K 41 (by omega) (by omega) hK (by omega) (by decide) (by decide)) (gV pw_1614 pw_1615 pw_1616 pw_1523 pw_1601) hV_X12_take 0 9 rfl rfl rfl rfl (Nat.le_of_ble_eq_true rfl) dX12_attempt_109 ⟨Nat.le_of_ble_eq_true rfl, Nat.le_of_ble_eq_true rfl⟩ ⟨(by show 4 + 1 ≤ (26 * n + 43); omega), (by show 8 + (2 + 11) + 103 ≤ (2000 * n + 4300); omega)⟩ (fun v2043 u2041 H locs hw2042 hP hD hS => ?_)
                obtain ⟨at2044, fa2045, pl2046⟩ := u2041
                obtain ⟨hw2042, h2047, h2048, h2049, h2050, h2051, h2052, h2053, h2054⟩ := hw2042
                have h2047 : at1335 ≤ at2044 := h2047
                have h2048 : at2044 ≤ T := h2048
                have h2049 : fa1336 ≤ fa2045 := h2049
                have h2050 : fa2045 ≤ 100 := h2050
                have h2051 : If (0 < fa1336) (at2044 = at1335 ∧ fa2045 = fa1336) := h2051
                have h2052 : at2044 ≤ at1335 + 1 := h2052
                have h2053 : at1335 + 1 ≤ at2044 + fa2045 := h2053
                have h2054 : If (fa2045 = 0) (K at1335 = 41) := h2054
                obtain rfl : v2043 = none := hw2042
                have hP : va_P G.1 pCl (mW G h0 a (upd (upd (upd (upd (upd (upd (upd F 15 (nI fa2045)) 16 pl2046) 27 (nI nd20)) 31 (nI wr22)) 64 (nI at2044)) 65 (nI ne)) 66 (nI lk21)) (updA (stR X24 12 nd (nI r23)) 2 K)) _ := mW_to (F := F) (l1 := [(15, (nI fa1336)), (16, pl1337), (27, (nI nd20)), (31, (nI wr22)), (64, (nI at1335)), (65, (nI ne)), (66, (nI lk21)), (15, (nI fa2045)), (16, pl2046), (64, (nI at2044))]) (l2 := [(15, (nI fa2045)), (16, pl2046), (27, (nI nd20)), (31, (nI wr22)), (64, (nI at2044)), (65, (nI ne)), (66, (nI lk21))]) (V := [(nI fa2045), pl2046, (nI nd20), (nI wr22), (nI at2044), (nI ne), (nI lk21), (nI fa2045), pl2046, (nI at2044), (nI fa2045), pl2046, (nI nd20), (nI wr22), (nI at2044), (nI ne), (nI lk21)]) rfl rfl (show (updA (updA (stR X24 12 nd (nI r23)) 2 K) 2 K) = (updA (stR X24 12 nd (nI r23)) 2 K) from updsA_eq2 (F := X24) (l1 := [(12, (upd (X24 12) nd (nI r23))), (2, K), (2, K)]) (l2 := [(12, (upd (X24 12) nd (nI r23))), (2, K)]) (V := [(upd (X24 12) nd (nI r23)), K, K, (upd (X24 12) nd (nI r23)), K]) rfl rfl) hP
                have hD : va_D A (mW G h0 a (upd (upd (upd (upd (upd (upd (upd F 15 (nI fa2045)) 16 pl2046) 27 (nI nd20)) 31 (nI wr22)) 64 (nI at2044)) 65 (nI ne)) 66 (nI lk21)) (updA (stR X24 12 nd (nI r23)) 2 K)) := mW_D hD
                refine W.widen (k := 0) (n := 0) (Nat.le_of_ble_eq_true rfl) (Nat.le_of_ble_eq_true rfl) ?_
                refine W.eq (g2 := F0 m 112 ls []) rfl ?_
                obtain ⟨n2056, n2055⟩ := h2051 e1346
                replace n2056 := n2056.symm
                subst n2056
                replace n2055 := n2055.symm
                subst n2055
                refine lv_aload_n hx hb dX12_attempt_112 rfl (lv_at hl 5 rfl) ?_
                refine lv_bipush (v := 44) hx hb dX12_attempt_113 (by decide) ?_
                refine lv_iload_n hx hb dX12_attempt_115 rfl (lv_at hl 2 rfl) ?_
                refine lv_iload hx hb dX12_attempt_116 (lv_at hl 0 rfl) ?_
                refine lv_iload hx hb dX12_attempt_118 (lv_at hl 1 rfl) ?_
                refine lv_iconst (v := (-1)) hx hb dX12_attempt_120 (by decide) ?_
                have hP : va_P G.1 pCl (mW G h0 a (upd (upd (upd (upd (upd (upd (upd (upd F 15 (nI fa1336)) 16 pl2046) 27 (nI nd20)) 31 (nI wr22)) 64 (nI at1335)) 65 (nI ne)) 66 (nI lk21)) 27 (nI nd20)) (updA (stR X24 12 nd (nI r23)) 2 K)) _ := hP
                have hD : va_D A (mW G h0 a (upd (upd (upd (upd (upd (upd (upd (upd F 15 (nI fa1336)) 16 pl2046) 27 (nI nd20)) 31 (nI wr22)) 64 (nI at1335)) 65 (nI ne)) 66 (nI lk21)) 27 (nI nd20)) (updA (stR X24 12 nd (nI r23)) 2 K)) := mW_D hD
                refine pc_V0 (G := G) (As := [.int 44, .int (nI (at1289 - 1)), .int (nI at1320), .int (nI at1305), .int (-1)]) (rest := []) hx hb hml hown hq hE hX pX0_al hP hD hS hA hl.1 (R_nodeB l G h0 a (upd (upd (upd (upd (upd (upd (upd F 15 (nI fa1336)) 16 pl2046) 27 (nI nd20)) 31 (nI wr22)) 64 (nI at1335)) 65 (nI ne)) 66 (nI lk21)) (stR X24 12 nd (nI r23)) 44 (nI (at1289 - 1)) (nI at1320) (nI at1305) (-1) nd20 K (by omega)) (gV pw_1650 pw_1651 pw_1652 pw_1523 pw_1589) hV_X12_node 0 9 rfl rfl rfl rfl (Nat.le_of_ble_eq_true rfl) dX12_attempt_121 ⟨Nat.le_of_ble_eq_true rfl, Nat.le_of_ble_eq_true rfl⟩ ⟨(by show 2 + 1 ≤ (26 * n + 43); omega), (by show 8 + (7 + 11) + 60 ≤ (2000 * n + 4300); omega)⟩ (fun v2059 u2057 H locs hw2058 hP hD hS => ?_)
                obtain ⟨X2060, rfl⟩ : ∃ z, z = u2057 := ⟨_, rfl⟩
                obtain ⟨hw2058, h2061⟩ := hw2058
                have h2061 : NewN (stR X24 12 nd (nI r23)) X2060 nd20 44 (nI (at1289 - 1)) (nI at1320) (nI at1305) (-1) := h2061
                obtain rfl : v2059 = some (.int (nI nd20)) := hw2058
                have hP : va_P G.1 pCl (mW G h0 a (upd (upd (upd (upd (upd (upd (upd F 15 (nI fa1336)) 16 pl2046) 27 (nI (nd20 + 1))) 31 (nI wr22)) 64 (nI at1335)) 65 (nI ne)) 66 (nI lk21)) (updA X2060 2 K)) _ := mW_to (F := F) (l1 := [(15, (nI fa1336)), (16, pl2046), (27, (nI nd20)), (31, (nI wr22)), (64, (nI at1335)), (65, (nI ne)), (66, (nI lk21)), (27, (nI (nd20 + 1)))]) (l2 := [(15, (nI fa1336)), (16, pl2046), (27, (nI (nd20 + 1))), (31, (nI wr22)), (64, (nI at1335)), (65, (nI ne)), (66, (nI lk21))]) (V := [(nI fa1336), pl2046, (nI (nd20 + 1)), (nI wr22), (nI at1335), (nI ne), (nI lk21), (nI (nd20 + 1)), (nI fa1336), pl2046, (nI (nd20 + 1)), (nI wr22), (nI at1335), (nI ne), (nI lk21)]) rfl rfl rfl hP
                have hD : va_D A (mW G h0 a (upd (upd (upd (upd (upd (upd (upd F 15 (nI fa1336)) 16 pl2046) 27 (nI (nd20 + 1))) 31 (nI wr22)) 64 (nI at1335)) 65 (nI ne)) 66 (nI lk21)) (updA X2060 2 K)) := mW_D hD
                refine W.widen (k := 0) (n := 0) (Nat.le_of_ble_eq_true rfl) (Nat.le_of_ble_eq_true rfl) ?_
                refine W.eq (g2 := F0 m 124 ls [.int (nI nd20)]) rfl ?_
                have hkp2062 : Kp B X2060 wr22 T := (Kp.new hkp48 h2061)
                refine lv_istore (lv' := [(6, .int (nI nd20)), (5, .int (nI at1320)), (4, .int (nI at1305)), (3, .int (nI (at1289 - 1))), (2, .int (-1)), (1, .int (nI nd)), (0, .ref h0)]) hx hb dX12_attempt_124 hl (by decide) rfl (fun ls hl => ?_)
                refine lv_aload_n hx hb dX12_attempt_126 rfl (lv_at hl 6 rfl) ?_
                refine r_get (v := .ref (a 13)) hx hb hown hq hE hP 21 50 tFX12_21 (by decide) pw_1443 rfl dX12_attempt_127 ?_
                refine lv_iload hx hb dX12_attempt_130 (lv_at hl 0 rfl) ?_
                refine lv_aload_n hx hb dX12_attempt_132 rfl (lv_at hl 6 rfl) ?_
                have hP : va_P G.1 pCl (mW G h0 a (upd (upd (upd (upd (upd (upd (upd (upd (upd (upd (upd F 15 (nI fa1336)) 16 pl2046) 27 (nI (nd20 + 1))) 31 (nI wr22)) 64 (nI at1335)) 65 (nI ne)) 66 (nI lk21)) 15 (nI fa1336)) 27 (nI (nd20 + 1))) 31 (nI wr22)) 64 (nI at1335)) (updA X2060 2 K)) _ := mW_to (F := F) (l1 := [(15, (nI fa1336)), (16, pl2046), (27, (nI (nd20 + 1))), (31, (nI wr22)), (64, (nI at1335)), (65, (nI ne)), (66, (nI lk21))]) (l2 := [(15, (nI fa1336)), (16, pl2046), (27, (nI (nd20 + 1))), (31, (nI wr22)), (64, (nI at1335)), (65, (nI ne)), (66, (nI lk21)), (15, (nI fa1336)), (27, (nI (nd20 + 1))), (31, (nI wr22)), (64, (nI at1335))]) (V := [(nI fa1336), pl2046, (nI (nd20 + 1)), (nI wr22), (nI at1335), (nI ne), (nI lk21), (nI fa1336), pl2046, (nI (nd20 + 1)), (nI wr22), (nI at1335), (nI ne), (nI lk21), (nI fa1336), (nI (nd20 + 1)), (nI wr22), (nI at1335)]) rfl rfl rfl hP
                have hD : va_D A (mW G h0 a (upd (upd (upd (upd (upd (upd (upd (upd (upd (upd (upd F 15 (nI fa1336)) 16 pl2046) 27 (nI (nd20 + 1))) 31 (nI wr22)) 64 (nI at1335)) 65 (nI ne)) 66 (nI lk21)) 15 (nI fa1336)) 27 (nI (nd20 + 1))) 31 (nI wr22)) 64 (nI at1335)) (updA X2060 2 K)) := mW_D hD
                refine pc_V0 (G := G) (As := []) (rest := [.int (nI nd20), .ref (a 13)]) hx hb hml hown hq hE hX pX0_al hP hD hS hA hl.1 (RF_block l G h0 a (upd (upd (upd (upd (upd (upd (upd F 15 (nI fa1336)) 16 pl2046) 27 (nI (nd20 + 1))) 31 (nI wr22)) 64 (nI at1335)) 65 (nI ne)) 66 (nI lk21)) X2060 at1335 T fa1336 (nd20 + 1) wr22 K (by omega) (by omega) hK (by omega) e1346 (by omega) (by omega) (hkp2062).2) (gV pw_1685 pw_1686 pw_1687 pw_1523 pw_1688) hV_X12_block 0 9 rfl rfl rfl rfl (Nat.le_of_ble_eq_true rfl) dX12_attempt_133 ⟨Nat.le_of_ble_eq_true rfl, Nat.le_of_ble_eq_true rfl⟩ ⟨(by show 5 + 1 ≤ (26 * n + 43); omega), (by show 8 + (4 + 11) + 124 ≤ (2000 * n + 4300); omega)⟩ (fun v2065 u2063 H locs hw2064 hP hD hS => ?_)
                obtain ⟨pl2066, wr2067, X2068⟩ := u2063
                obtain ⟨hw2064, h2069, h2070, h2071⟩ := hw2064
                have h2069 : wr22 ≤ wr2067 := h2069
                have h2070 : wr2067 ≤ wr22 := h2070
                have h2071 : Kp X2060 X2068 wr2067 T := h2071
                obtain rfl : v2065 = some (.int (nI (nd20 + 1))) := hw2064
                have hP : va_P G.1 pCl (mW G h0 a (upd (upd (upd (upd (upd (upd (upd F 15 (nI fa1336)) 16 pl2066) 27 (nI ((nd20 + 1) + 1))) 31 (nI wr2067)) 64 (nI at1335)) 65 (nI ne)) 66 (nI lk21)) (updA X2068 2 K)) _ := mW_to (F := F) (l1 := [(15, (nI fa1336)), (16, pl2046), (27, (nI (nd20 + 1))), (31, (nI wr22)), (64, (nI at1335)), (65, (nI ne)), (66, (nI lk21)), (15, (nI fa1336)), (16, pl2066), (27, (nI ((nd20 + 1) + 1))), (31, (nI wr2067)), (64, (nI at1335))]) (l2 := [(15, (nI fa1336)), (16, pl2066), (27, (nI ((nd20 + 1) + 1))), (31, (nI wr2067)), (64, (nI at1335)), (65, (nI ne)), (66, (nI lk21))]) (V := [(nI fa1336), pl2066, (nI ((nd20 + 1) + 1)), (nI wr2067), (nI at1335), (nI ne), (nI lk21), (nI fa1336), pl2066, (nI ((nd20 + 1) + 1)), (nI wr2067), (nI at1335), (nI fa1336), pl2066, (nI ((nd20 + 1) + 1)), (nI wr2067), (nI at1335), (nI ne), (nI lk21)]) rfl rfl rfl hP
                have hD : va_D A (mW G h0 a (upd (upd (upd (upd (upd (upd (upd F 15 (nI fa1336)) 16 pl2066) 27 (nI ((nd20 + 1) + 1))) 31 (nI wr2067)) 64 (nI at1335)) 65 (nI ne)) 66 (nI lk21)) (updA X2068 2 K)) := mW_D hD
                refine W.widen (k := 0) (n := 0) (Nat.le_of_ble_eq_true rfl) (Nat.le_of_ble_eq_true rfl) ?_
                refine W.eq (g2 := F0 m 136 ls [.int (nI (nd20 + 1)), .int (nI nd20), .ref (a 13)]) rfl ?_
                have hkp2072 : Kp B X2068 wr2067 T := (Kp.trans hkp2062 h2071)
                refine r_sti (f := (X2068 13)) (j := nd20) hx hb hE hP hD hS 13 (ma_13 G a _) rfl (mas_13 G a _) (by omega) (by decide) dX12_attempt_136 (fun H locs hP hD hS => ?_)
                have hP : va_P G.1 pCl (mW G h0 a (upd (upd (upd (upd (upd (upd (upd F 15 (nI fa1336)) 16 pl2066) 27 (nI ((nd20 + 1) + 1))) 31 (nI wr2067)) 64 (nI at1335)) 65 (nI ne)) 66 (nI lk21)) (updA (stR X2068 13 nd20 (nI (nd20 + 1))) 2 K)) _ := mW_to (F := F) (l1 := [(15, (nI fa1336)), (16, pl2066), (27, (nI ((nd20 + 1) + 1))), (31, (nI wr2067)), (64, (nI at1335)), (65, (nI ne)), (66, (nI lk21))]) (l2 := [(15, (nI fa1336)), (16, pl2066), (27, (nI ((nd20 + 1) + 1))), (31, (nI wr2067)), (64, (nI at1335)), (65, (nI ne)), (66, (nI lk21))]) (V := [(nI fa1336), pl2066, (nI ((nd20 + 1) + 1)), (nI wr2067), (nI at1335), (nI ne), (nI lk21), (nI fa1336), pl2066, (nI ((nd20 + 1) + 1)), (nI wr2067), (nI at1335), (nI ne), (nI lk21)]) rfl rfl (show (updA (updA X2068 2 K) 13 (upd (X2068 13) nd20 (nI (nd20 + 1)))) = (updA (stR X2068 13 nd20 (nI (nd20 + 1))) 2 K) from updsA_eq2 (F := X2068) (l1 := [(2, K), (13, (upd (X2068 13) nd20 (nI (nd20 + 1))))]) (l2 := [(13, (upd (X2068 13) nd20 (nI (nd20 + 1)))), (2, K)]) (V := [K, (upd (X2068 13) nd20 (nI (nd20 + 1))), (upd (X2068 13) nd20 (nI (nd20 + 1))), K]) rfl rfl) hP
                have hD : va_D A (mW G h0 a (upd (upd (upd (upd (upd (upd (upd F 15 (nI fa1336)) 16 pl2066) 27 (nI ((nd20 + 1) + 1))) 31 (nI wr2067)) 64 (nI at1335)) 65 (nI ne)) 66 (nI lk21)) (updA (stR X2068 13 nd20 (nI (nd20 + 1))) 2 K)) := mW_D hD
                have hkp2073 : Kp B (stR X2068 13 nd20 (nI (nd20 + 1))) wr2067 T := (Kp.row hkp2072 (by omega))
                refine lv_iload_n hx hb dX12_attempt_137 rfl (lv_at hl 4 rfl) ?_
                refine lv_iconst (v := (-1)) hx hb dX12_attempt_138 (by decide) ?_
                refine lv_icmp_ne (tgt := 153) hx hb dX12_attempt_139 (by decide) (fun c2074 => absurd c2074 (by decide)) (fun c2074 => ?_)
                refine lv_aload_n hx hb dX12_attempt_142 rfl (lv_at hl 6 rfl) ?_
                refine r_get (v := .ref (a 13)) hx hb hown hq hE hP 21 50 tFX12_21 (by decide) pw_1443 rfl dX12_attempt_143 ?_
                refine lv_iload_n hx hb dX12_attempt_146 rfl (lv_at hl 5 rfl) ?_
                refine lv_iload hx hb dX12_attempt_147 (lv_at hl 0 rfl) ?_
                refine r_sti (f := ((stR X2068 13 nd20 (nI (nd20 + 1))) 13)) (j := nd) hx hb hE hP hD hS 13 (ma_13 G a _) rfl (mas_13 G a _) (by omega) (by decide) dX12_attempt_149 (fun H locs hP hD hS => ?_)
                have hP : va_P G.1 pCl (mW G h0 a (upd (upd (upd (upd (upd (upd (upd F 15 (nI fa1336)) 16 pl2066) 27 (nI ((nd20 + 1) + 1))) 31 (nI wr2067)) 64 (nI at1335)) 65 (nI ne)) 66 (nI lk21)) (updA (stR (stR X2068 13 nd20 (nI (nd20 + 1))) 13 nd (nI nd20)) 2 K)) _ := mW_to (F := F) (l1 := [(15, (nI fa1336)), (16, pl2066), (27, (nI ((nd20 + 1) + 1))), (31, (nI wr2067)), (64, (nI at1335)), (65, (nI ne)), (66, (nI lk21))]) (l2 := [(15, (nI fa1336)), (16, pl2066), (27, (nI ((nd20 + 1) + 1))), (31, (nI wr2067)), (64, (nI at1335)), (65, (nI ne)), (66, (nI lk21))]) (V := [(nI fa1336), pl2066, (nI ((nd20 + 1) + 1)), (nI wr2067), (nI at1335), (nI ne), (nI lk21), (nI fa1336), pl2066, (nI ((nd20 + 1) + 1)), (nI wr2067), (nI at1335), (nI ne), (nI lk21)]) rfl rfl (show (updA (updA (stR X2068 13 nd20 (nI (nd20 + 1))) 2 K) 13 (upd ((stR X2068 13 nd20 (nI (nd20 + 1))) 13) nd (nI nd20))) = (updA (stR (stR X2068 13 nd20 (nI (nd20 + 1))) 13 nd (nI nd20)) 2 K) from updsA_eq2 (F := X2068) (l1 := [(13, (upd (X2068 13) nd20 (nI (nd20 + 1)))), (2, K), (13, (upd ((stR X2068 13 nd20 (nI (nd20 + 1))) 13) nd (nI nd20)))]) (l2 := [(13, (upd (X2068 13) nd20 (nI (nd20 + 1)))), (13, (upd ((stR X2068 13 nd20 (nI (nd20 + 1))) 13) nd (nI nd20))), (2, K)]) (V := [(upd ((stR X2068 13 nd20 (nI (nd20 + 1))) 13) nd (nI nd20)), K, (upd ((stR X2068 13 nd20 (nI (nd20 + 1))) 13) nd (nI nd20)), (upd ((stR X2068 13 nd20 (nI (nd20 + 1))) 13) nd (nI nd20)), (upd ((stR X2068 13 nd20 (nI (nd20 + 1))) 13) nd (nI nd20)), K]) rfl rfl) hP
                have hD : va_D A (mW G h0 a (upd (upd (upd (upd (upd (upd (upd F 15 (nI fa1336)) 16 pl2066) 27 (nI ((nd20 + 1) + 1))) 31 (nI wr2067)) 64 (nI at1335)) 65 (nI ne)) 66 (nI lk21)) (updA (stR (stR X2068 13 nd20 (nI (nd20 + 1))) 13 nd (nI nd20)) 2 K)) := mW_D hD
                have hkp2075 : Kp B (stR (stR X2068 13 nd20 (nI (nd20 + 1))) 13 nd (nI nd20)) wr2067 T := (Kp.row hkp2073 (by omega))
                refine lv_goto (tgt := 161) hx hb dX12_attempt_150 (by decide) ?_
                refine lv_iload hx hb dX12_attempt_161 (lv_at hl 0 rfl) ?_
                refine lv_istore_n (lv' := [(2, .int (nI nd20)), (6, .int (nI nd20)), (5, .int (nI at1320)), (4, .int (nI at1305)), (3, .int (nI (at1289 - 1))), (1, .int (nI nd)), (0, .ref h0)]) hx hb dX12_attempt_163 rfl hl (by decide) rfl (fun ls hl => ?_)
                refine lv_goto (tgt := 71) hx hb dX12_attempt_164 (by decide) ?_
                refine lv_aload_n hx hb dX12_attempt_71 rfl (lv_at hl 6 rfl) ?_
                refine lv_sipush (v := 313) hx hb dX12_attempt_72 (by decide) ?_
                have hP : va_P G.1 pCl (mW G h0 a (upd (upd (upd (upd (upd (upd (upd (upd (upd F 15 (nI fa1336)) 16 pl2066) 27 (nI ((nd20 + 1) + 1))) 31 (nI wr2067)) 64 (nI at1335)) 65 (nI ne)) 66 (nI lk21)) 15 (nI fa1336)) 64 (nI at1335)) (updA (updA (stR (stR X2068 13 nd20 (nI (nd20 + 1))) 13 nd (nI nd20)) 2 K) 2 K)) _ := mW_to (F := F) (l1 := [(15, (nI fa1336)), (16, pl2066), (27, (nI ((nd20 + 1) + 1))), (31, (nI wr2067)), (64, (nI at1335)), (65, (nI ne)), (66, (nI lk21))]) (l2 := [(15, (nI fa1336)), (16, pl2066), (27, (nI ((nd20 + 1) + 1))), (31, (nI wr2067)), (64, (nI at1335)), (65, (nI ne)), (66, (nI lk21)), (15, (nI fa1336)), (64, (nI at1335))]) (V := [(nI fa1336), pl2066, (nI ((nd20 + 1) + 1)), (nI wr2067), (nI at1335), (nI ne), (nI lk21), (nI fa1336), pl2066, (nI ((nd20 + 1) + 1)), (nI wr2067), (nI at1335), (nI ne), (nI lk21), (nI fa1336), (nI at1335)]) rfl rfl (show (updA (stR (stR X2068 13 nd20 (nI (nd20 + 1))) 13 nd (nI nd20)) 2 K) = (updA (updA (stR (stR X2068 13 nd20 (nI (nd20 + 1))) 13 nd (nI nd20)) 2 K) 2 K) from updsA_eq2 (F := X2068) (l1 := [(13, (upd (X2068 13) nd20 (nI (nd20 + 1)))), (13, (upd ((stR X2068 13 nd20 (nI (nd20 + 1))) 13) nd (nI nd20))), (2, K)]) (l2 := [(13, (upd (X2068 13) nd20 (nI (nd20 + 1)))), (13, (upd ((stR X2068 13 nd20 (nI (nd20 + 1))) 13) nd (nI nd20))), (2, K), (2, K)]) (V := [(upd ((stR X2068 13 nd20 (nI (nd20 + 1))) 13) nd (nI nd20)), (upd ((stR X2068 13 nd20 (nI (nd20 + 1))) 13) nd (nI nd20)), K, (upd ((stR X2068 13 nd20 (nI (nd20 + 1))) 13) nd (nI nd20)), (upd ((stR X2068 13 nd20 (nI (nd20 + 1))) 13) nd (nI nd20)), K, K]) rfl rfl) hP
                have hD : va_D A (mW G h0 a (upd (upd (upd (upd (upd (upd (upd (upd (upd F 15 (nI fa1336)) 16 pl2066) 27 (nI ((nd20 + 1) + 1))) 31 (nI wr2067)) 64 (nI at1335)) 65 (nI ne)) 66 (nI lk21)) 15 (nI fa1336)) 64 (nI at1335)) (updA (updA (stR (stR X2068 13 nd20 (nI (nd20 + 1))) 13 nd (nI nd20)) 2 K) 2 K)) := mW_D hD
                refine pc_V0 (G := G) (As := [.int 313]) (rest := []) hx hb hml hown hq hE hX pX0_al hP hD hS hA hl.1 (R_may l G h0 a (upd (upd (upd (upd (upd (upd (upd F 15 (nI fa1336)) 16 pl2066) 27 (nI ((nd20 + 1) + 1))) 31 (nI wr2067)) 64 (nI at1335)) 65 (nI ne)) 66 (nI lk21)) (updA (stR (stR X2068 13 nd20 (nI (nd20 + 1))) 13 nd (nI nd20)) 2 K) at1335 T fa1336 K 313 (by omega) (by omega) hK (by omega) (by decide) (by decide)) (gV pw_1621 pw_1622 pw_1623 pw_1523 pw_1605) hV_X12_may 0 9 rfl rfl rfl rfl (Nat.le_of_ble_eq_true rfl) dX12_attempt_75 ⟨Nat.le_of_ble_eq_true rfl, Nat.le_of_ble_eq_true rfl⟩ ⟨(by show 3 + 1 ≤ (26 * n + 43); omega), (by show 8 + (3 + 11) + 81 ≤ (2000 * n + 4300); omega)⟩ (fun v2078 u2076 H locs hw2077 hP hD hS => ?_)
                obtain ⟨at2079, r2080⟩ := u2076
                obtain ⟨hw2077, h2081, h2082, h2083, h2084, h2085, h2086⟩ := hw2077
                have h2081 : r2080 ≤ 1 := h2081
                have h2082 : fa1336 + 100 * r2080 ≤ 100 := h2082
                have h2083 : at2079 = at1335 + r2080 := h2083
                have h2084 : at2079 ≤ T := h2084
                have h2085 : If (r2080 = 1) (K at1335 = 313) := h2085
                have h2086 : If (r2080 = 0) (fa1336 = 0 → ¬ K at1335 = 313) := h2086
                obtain rfl : v2078 = some (.int (nI r2080)) := hw2077
                have hP : va_P G.1 pCl (mW G h0 a (upd (upd (upd (upd (upd (upd (upd F 15 (nI fa1336)) 16 pl2066) 27 (nI ((nd20 + 1) + 1))) 31 (nI wr2067)) 64 (nI at2079)) 65 (nI ne)) 66 (nI lk21)) (updA (stR (stR X2068 13 nd20 (nI (nd20 + 1))) 13 nd (nI nd20)) 2 K)) _ := mW_to (F := F) (l1 := [(15, (nI fa1336)), (16, pl2066), (27, (nI ((nd20 + 1) + 1))), (31, (nI wr2067)), (64, (nI at1335)), (65, (nI ne)), (66, (nI lk21)), (15, (nI fa1336)), (64, (nI at2079))]) (l2 := [(15, (nI fa1336)), (16, pl2066), (27, (nI ((nd20 + 1) + 1))), (31, (nI wr2067)), (64, (nI at2079)), (65, (nI ne)), (66, (nI lk21))]) (V := [(nI fa1336), pl2066, (nI ((nd20 + 1) + 1)), (nI wr2067), (nI at2079), (nI ne), (nI lk21), (nI fa1336), (nI at2079), (nI fa1336), pl2066, (nI ((nd20 + 1) + 1)), (nI wr2067), (nI at2079), (nI ne), (nI lk21)]) rfl rfl (show (updA (updA (stR (stR X2068 13 nd20 (nI (nd20 + 1))) 13 nd (nI nd20)) 2 K) 2 K) = (updA (stR (stR X2068 13 nd20 (nI (nd20 + 1))) 13 nd (nI nd20)) 2 K) from updsA_eq2 (F := X2068) (l1 := [(13, (upd (X2068 13) nd20 (nI (nd20 + 1)))), (13, (upd ((stR X2068 13 nd20 (nI (nd20 + 1))) 13) nd (nI nd20))), (2, K), (2, K)]) (l2 := [(13, (upd (X2068 13) nd20 (nI (nd20 + 1)))), (13, (upd ((stR X2068 13 nd20 (nI (nd20 + 1))) 13) nd (nI nd20))), (2, K)]) (V := [(upd ((stR X2068 13 nd20 (nI (nd20 + 1))) 13) nd (nI nd20)), (upd ((stR X2068 13 nd20 (nI (nd20 + 1))) 13) nd (nI nd20)), K, K, (upd ((stR X2068 13 nd20 (nI (nd20 + 1))) 13) nd (nI nd20)), (upd ((stR X2068 13 nd20 (nI (nd20 + 1))) 13) nd (nI nd20)), K]) rfl rfl) hP
                have hD : va_D A (mW G h0 a (upd (upd (upd (upd (upd (upd (upd F 15 (nI fa1336)) 16 pl2066) 27 (nI ((nd20 + 1) + 1))) 31 (nI wr2067)) 64 (nI at2079)) 65 (nI ne)) 66 (nI lk21)) (updA (stR (stR X2068 13 nd20 (nI (nd20 + 1))) 13 nd (nI nd20)) 2 K)) := mW_D hD
                refine W.widen (k := 0) (n := 0) (Nat.le_of_ble_eq_true rfl) (Nat.le_of_ble_eq_true rfl) ?_
                refine W.eq (g2 := F0 m 78 ls [.int (nI r2080)]) rfl ?_
                obtain rfl : at1335 = at2079 := (by omega)
                refine lv_if_eq (tgt := 167) hx hb dX12_attempt_78 (by decide) (fun c2087 => ?_) (fun c2087 => (by have n2088 : ¬ (r2080 = 0) := fun h9 => c2087 ((nI_eq (a := r2080) (b := 0) (by omega) (by omega)).mpr h9); omega))
                refine lv_aload_n hx hb dX12_attempt_167 rfl (lv_at hl 6 rfl) ?_
                refine lv_sipush (v := 319) hx hb dX12_attempt_168 (by decide) ?_
                have hP : va_P G.1 pCl (mW G h0 a (upd (upd (upd (upd (upd (upd (upd (upd (upd F 15 (nI fa1336)) 16 pl2066) 27 (nI ((nd20 + 1) + 1))) 31 (nI wr2067)) 64 (nI at1335)) 65 (nI ne)) 66 (nI lk21)) 15 (nI fa1336)) 64 (nI at1335)) (updA (updA (stR (stR X2068 13 nd20 (nI (nd20 + 1))) 13 nd (nI nd20)) 2 K) 2 K)) _ := hP
                have hD : va_D A (mW G h0 a (upd (upd (upd (upd (upd (upd (upd (upd (upd F 15 (nI fa1336)) 16 pl2066) 27 (nI ((nd20 + 1) + 1))) 31 (nI wr2067)) 64 (nI at1335)) 65 (nI ne)) 66 (nI lk21)) 15 (nI fa1336)) 64 (nI at1335)) (updA (updA (stR (stR X2068 13 nd20 (nI (nd20 + 1))) 13 nd (nI nd20)) 2 K) 2 K)) := mW_D hD
                refine pc_V0 (G := G) (As := [.int 319]) (rest := []) hx hb hml hown hq hE hX pX0_al hP hD hS hA hl.1 (R_may l G h0 a (upd (upd (upd (upd (upd (upd (upd F 15 (nI fa1336)) 16 pl2066) 27 (nI ((nd20 + 1) + 1))) 31 (nI wr2067)) 64 (nI at1335)) 65 (nI ne)) 66 (nI lk21)) (updA (stR (stR X2068 13 nd20 (nI (nd20 + 1))) 13 nd (nI nd20)) 2 K) at1335 T fa1336 K 319 (by omega) (by omega) hK (by omega) (by decide) (by decide)) (gV pw_1621 pw_1622 pw_1623 pw_1523 pw_1605) hV_X12_may 0 9 rfl rfl rfl rfl (Nat.le_of_ble_eq_true rfl) dX12_attempt_171 ⟨Nat.le_of_ble_eq_true rfl, Nat.le_of_ble_eq_true rfl⟩ ⟨(by show 3 + 1 ≤ (26 * n + 43); omega), (by show 8 + (3 + 11) + 81 ≤ (2000 * n + 4300); omega)⟩ (fun v2091 u2089 H locs hw2090 hP hD hS => ?_)
                obtain ⟨at2092, r2093⟩ := u2089
                obtain ⟨hw2090, h2094, h2095, h2096, h2097, h2098, h2099⟩ := hw2090
                have h2094 : r2093 ≤ 1 := h2094
                have h2095 : fa1336 + 100 * r2093 ≤ 100 := h2095
                have h2096 : at2092 = at1335 + r2093 := h2096
                have h2097 : at2092 ≤ T := h2097
                have h2098 : If (r2093 = 1) (K at1335 = 319) := h2098
                have h2099 : If (r2093 = 0) (fa1336 = 0 → ¬ K at1335 = 319) := h2099
                obtain rfl : v2091 = some (.int (nI r2093)) := hw2090
                have hP : va_P G.1 pCl (mW G h0 a (upd (upd (upd (upd (upd (upd (upd F 15 (nI fa1336)) 16 pl2066) 27 (nI ((nd20 + 1) + 1))) 31 (nI wr2067)) 64 (nI at2092)) 65 (nI ne)) 66 (nI lk21)) (updA (stR (stR X2068 13 nd20 (nI (nd20 + 1))) 13 nd (nI nd20)) 2 K)) _ := mW_to (F := F) (l1 := [(15, (nI fa1336)), (16, pl2066), (27, (nI ((nd20 + 1) + 1))), (31, (nI wr2067)), (64, (nI at1335)), (65, (nI ne)), (66, (nI lk21)), (15, (nI fa1336)), (64, (nI at2092))]) (l2 := [(15, (nI fa1336)), (16, pl2066), (27, (nI ((nd20 + 1) + 1))), (31, (nI wr2067)), (64, (nI at2092)), (65, (nI ne)), (66, (nI lk21))]) (V := [(nI fa1336), pl2066, (nI ((nd20 + 1) + 1)), (nI wr2067), (nI at2092), (nI ne), (nI lk21), (nI fa1336), (nI at2092), (nI fa1336), pl2066, (nI ((nd20 + 1) + 1)), (nI wr2067), (nI at2092), (nI ne), (nI lk21)]) rfl rfl (show (updA (updA (stR (stR X2068 13 nd20 (nI (nd20 + 1))) 13 nd (nI nd20)) 2 K) 2 K) = (updA (stR (stR X2068 13 nd20 (nI (nd20 + 1))) 13 nd (nI nd20)) 2 K) from updsA_eq2 (F := X2068) (l1 := [(13, (upd (X2068 13) nd20 (nI (nd20 + 1)))), (13, (upd ((stR X2068 13 nd20 (nI (nd20 + 1))) 13) nd (nI nd20))), (2, K), (2, K)]) (l2 := [(13, (upd (X2068 13) nd20 (nI (nd20 + 1)))), (13, (upd ((stR X2068 13 nd20 (nI (nd20 + 1))) 13) nd (nI nd20))), (2, K)]) (V := [(upd ((stR X2068 13 nd20 (nI (nd20 + 1))) 13) nd (nI nd20)), (upd ((stR X2068 13 nd20 (nI (nd20 + 1))) 13) nd (nI nd20)), K, K, (upd ((stR X2068 13 nd20 (nI (nd20 + 1))) 13) nd (nI nd20)), (upd ((stR X2068 13 nd20 (nI (nd20 + 1))) 13) nd (nI nd20)), K]) rfl rfl) hP
                have hD : va_D A (mW G h0 a (upd (upd (upd (upd (upd (upd (upd F 15 (nI fa1336)) 16 pl2066) 27 (nI ((nd20 + 1) + 1))) 31 (nI wr2067)) 64 (nI at2092)) 65 (nI ne)) 66 (nI lk21)) (updA (stR (stR X2068 13 nd20 (nI (nd20 + 1))) 13 nd (nI nd20)) 2 K)) := mW_D hD
                refine W.widen (k := 0) (n := 0) (Nat.le_of_ble_eq_true rfl) (Nat.le_of_ble_eq_true rfl) ?_
                refine W.eq (g2 := F0 m 174 ls [.int (nI r2093)]) rfl ?_
                obtain rfl : at1335 = at2092 := (by omega)
                refine lv_if_eq (tgt := 187) hx hb dX12_attempt_174 (by decide) (fun c2100 => ?_) (fun c2100 => (by have n2101 : ¬ (r2093 = 0) := fun h9 => c2100 ((nI_eq (a := r2093) (b := 0) (by omega) (by omega)).mpr h9); omega))
                refine lv_iload_n hx hb dX12_attempt_187 rfl (lv_at hl 5 rfl) ?_
                have hz2102 : at0 ≤ at1335 := (by omega)
                have hz2103 : at1335 ≤ T := (by omega)
                have hz2104 : fa1336 ≤ 100 := (by omega)
                have hz2105 : nd ≤ ((nd20 + 1) + 1) := (by omega)
                have hz2106 : ((nd20 + 1) + 1) + 2 * at0 ≤ nd + 2 * at1335 + 100000 * fa1336 := (by omega)
                have hz2107 : ((nd20 + 1) + 1) + 2 * at0 ≤ nd + 2 * at1335 + (60 * (21 - ne) + 40) := (by omega)
                have hz2108 : wr ≤ wr2067 := (by omega)
                have hz2109 : wr2067 + at0 ≤ wr + at1335 := (by omega)
                have hz2110 : lk ≤ lk21 := (by omega)
                have hz2111 : lk21 ≤ 60 + 100 * fa1336 := (by omega)
                have hz2112 : at0 + 1 ≤ at1335 + fa1336 := (by omega)
                have hz2113 : nd ≤ ((nd20 + 1) + 1) := (by omega)
                have hz2114 : Kp B (stR (stR X2068 13 nd20 (nI (nd20 + 1))) 13 nd (nI nd20)) wr2067 T := hkp2075
                have hz2115 : If (fa1336 = 0) (Low B (stR (stR X2068 13 nd20 (nI (nd20 + 1))) 13 nd (nI nd20)) nd wr ∧ Frs K T wr2067 (stR (stR X2068 13 nd20 (nI (nd20 + 1))) 13 nd (nI nd20)) nd ((nd20 + 1) + 1) 20000 [(nd, (280 + 4 * (21 - ne)))] ∧ kcl 3 ((stR (stR X2068 13 nd20 (nI (nd20 + 1))) 13 nd (nI nd20)) 9 nd) = true) := (fun e => absurd e (by omega))
                have hP : va_P G.1 pCl (mW G h0 a (upd (upd (upd (upd (upd (upd (upd F 15 (nI fa1336)) 16 pl2066) 27 (nI ((nd20 + 1) + 1))) 31 (nI wr2067)) 64 (nI at1335)) 65 (nI ne)) 66 (nI lk21)) (updA (stR (stR X2068 13 nd20 (nI (nd20 + 1))) 13 nd (nI nd20)) 2 K)) _ := hP
                have hD : va_D A (mW G h0 a (upd (upd (upd (upd (upd (upd (upd F 15 (nI fa1336)) 16 pl2066) 27 (nI ((nd20 + 1) + 1))) 31 (nI wr2067)) 64 (nI at1335)) 65 (nI ne)) 66 (nI lk21)) (updA (stR (stR X2068 13 nd20 (nI (nd20 + 1))) 13 nd (nI nd20)) 2 K)) := mW_D hD
                exact W.iret (v := (nI nd)) hx hb hr (fun t9 ht9 hW9 => ⟨⟨_, (at1335, fa1336, pl2066, ((nd20 + 1) + 1), lk21, wr2067, nd, (stR (stR X2068 13 nd20 (nI (nd20 + 1))) 13 nd (nI nd20))), rfl, ⟨rfl, hz2102, hz2103, hz2104, hz2105, hz2106, hz2107, hz2108, hz2109, hz2110, hz2111, hz2112, hz2113, hz2114, hz2115⟩, by rw [ht9]; exact hP, hD⟩, hS.F ht9⟩) hS.2.2 dX12_attempt_188
            · have e1331 := e1331
              refine lv_istore (lv' := [(4, .int (nI at1305)), (3, .int (nI (at1289 - 1))), (2, .int (-1)), (1, .int (nI nd)), (0, .ref h0)]) hx hb dX12_attempt_98 hl (by decide) rfl (fun ls hl => ?_)
              refine lv_aload_n hx hb dX12_attempt_100 rfl (lv_at hl 4 rfl) ?_
              have hP : va_P G.1 pCl (mW G h0 a (upd (upd (upd (upd (upd (upd (upd (upd (upd F 15 (nI fa1321)) 16 pl1322) 27 (nI nd20)) 31 (nI wr22)) 64 (nI at1320)) 65 (nI ne)) 66 (nI lk21)) 15 (nI fa1321)) 64 (nI at1320)) (updA (updA (stR X24 12 nd (nI r23)) 2 K) 2 K)) _ := mW_to (F := F) (l1 := [(15, (nI fa1321)), (16, pl1322), (27, (nI nd20)), (31, (nI wr22)), (64, (nI at1320)), (65, (nI ne)), (66, (nI lk21))]) (l2 := [(15, (nI fa1321)), (16, pl1322), (27, (nI nd20)), (31, (nI wr22)), (64, (nI at1320)), (65, (nI ne)), (66, (nI lk21)), (15, (nI fa1321)), (64, (nI at1320))]) (V := [(nI fa1321), pl1322, (nI nd20), (nI wr22), (nI at1320), (nI ne), (nI lk21), (nI fa1321), pl1322, (nI nd20), (nI wr22), (nI at1320), (nI ne), (nI lk21), (nI fa1321), (nI at1320)]) rfl rfl (show (updA (stR X24 12 nd (nI r23)) 2 K) = (updA (updA (stR X24 12 nd (nI r23)) 2 K) 2 K) from updsA_eq2 (F := X24) (l1 := [(12, (upd (X24 12) nd (nI r23))), (2, K)]) (l2 := [(12, (upd (X24 12) nd (nI r23))), (2, K), (2, K)]) (V := [(upd (X24 12) nd (nI r23)), K, (upd (X24 12) nd (nI r23)), K, K]) rfl rfl) hP
              have hD : va_D A (mW G h0 a (upd (upd (upd (upd (upd (upd (upd (upd (upd F 15 (nI fa1321)) 16 pl1322) 27 (nI nd20)) 31 (nI wr22)) 64 (nI at1320)) 65 (nI ne)) 66 (nI lk21)) 15 (nI fa1321)) 64 (nI at1320)) (updA (updA (stR X24 12 nd (nI r23)) 2 K) 2 K)) := mW_D hD
              refine pc_V0 (G := G) (As := []) (rest := []) hx hb hml hown hq hE hX pX0_al hP hD hS hA hl.1 (R_name l G h0 a (upd (upd (upd (upd (upd (upd (upd F 15 (nI fa1321)) 16 pl1322) 27 (nI nd20)) 31 (nI wr22)) 64 (nI at1320)) 65 (nI ne)) 66 (nI lk21)) (updA (stR X24 12 nd (nI r23)) 2 K) at1320 T fa1321 K (by omega) (by omega) hK (by omega)) (gV pw_1618 pw_1619 pw_1620 pw_1523 pw_1613) hV_X12_name 0 9 rfl rfl rfl rfl (Nat.le_of_ble_eq_true rfl) dX12_attempt_101 ⟨Nat.le_of_ble_eq_true rfl, Nat.le_of_ble_eq_true rfl⟩ ⟨(by show 5 + 1 ≤ (26 * n + 43); omega), (by show 8 + (2 + 11) + 124 ≤ (2000 * n + 4300); omega)⟩ (fun v2118 u2116 H locs hw2117 hP hD hS => ?_)
              obtain ⟨at2119, fa2120, pl2121⟩ := u2116
              obtain ⟨hw2117, h2122, h2123, h2124, h2125, h2126, h2127, h2128, h2129⟩ := hw2117
              have h2122 : at1320 ≤ at2119 := h2122
              have h2123 : at2119 ≤ T := h2123
              have h2124 : fa1321 ≤ fa2120 := h2124
              have h2125 : fa2120 ≤ 100 := h2125
              have h2126 : If (0 < fa1321) (at2119 = at1320 ∧ fa2120 = fa1321) := h2126
              have h2127 : at2119 ≤ at1320 + 1 := h2127
              have h2128 : at1320 + 1 ≤ at2119 + fa2120 := h2128
              have h2129 : If (fa2120 = 0) (K at1320 = 1) := h2129
              obtain rfl : v2118 = some (.int (nI at1320)) := hw2117
              have hP : va_P G.1 pCl (mW G h0 a (upd (upd (upd (upd (upd (upd (upd F 15 (nI fa2120)) 16 pl2121) 27 (nI nd20)) 31 (nI wr22)) 64 (nI at2119)) 65 (nI ne)) 66 (nI lk21)) (updA (stR X24 12 nd (nI r23)) 2 K)) _ := mW_to (F := F) (l1 := [(15, (nI fa1321)), (16, pl1322), (27, (nI nd20)), (31, (nI wr22)), (64, (nI at1320)), (65, (nI ne)), (66, (nI lk21)), (15, (nI fa2120)), (16, pl2121), (64, (nI at2119))]) (l2 := [(15, (nI fa2120)), (16, pl2121), (27, (nI nd20)), (31, (nI wr22)), (64, (nI at2119)), (65, (nI ne)), (66, (nI lk21))]) (V := [(nI fa2120), pl2121, (nI nd20), (nI wr22), (nI at2119), (nI ne), (nI lk21), (nI fa2120), pl2121, (nI at2119), (nI fa2120), pl2121, (nI nd20), (nI wr22), (nI at2119), (nI ne), (nI lk21)]) rfl rfl (show (updA (updA (stR X24 12 nd (nI r23)) 2 K) 2 K) = (updA (stR X24 12 nd (nI r23)) 2 K) from updsA_eq2 (F := X24) (l1 := [(12, (upd (X24 12) nd (nI r23))), (2, K), (2, K)]) (l2 := [(12, (upd (X24 12) nd (nI r23))), (2, K)]) (V := [(upd (X24 12) nd (nI r23)), K, K, (upd (X24 12) nd (nI r23)), K]) rfl rfl) hP
              have hD : va_D A (mW G h0 a (upd (upd (upd (upd (upd (upd (upd F 15 (nI fa2120)) 16 pl2121) 27 (nI nd20)) 31 (nI wr22)) 64 (nI at2119)) 65 (nI ne)) 66 (nI lk21)) (updA (stR X24 12 nd (nI r23)) 2 K)) := mW_D hD
              refine W.widen (k := 0) (n := 0) (Nat.le_of_ble_eq_true rfl) (Nat.le_of_ble_eq_true rfl) ?_
              refine W.eq (g2 := F0 m 104 ls [.int (nI at1320)]) rfl ?_
              obtain ⟨n2131, n2130⟩ := h2126 e1331
              replace n2131 := n2131.symm
              subst n2131
              replace n2130 := n2130.symm
              subst n2130
              refine lv_istore (lv' := [(5, .int (nI at1320)), (4, .int (nI at1305)), (3, .int (nI (at1289 - 1))), (2, .int (-1)), (1, .int (nI nd)), (0, .ref h0)]) hx hb dX12_attempt_104 hl (by decide) rfl (fun ls hl => ?_)
              refine lv_aload_n hx hb dX12_attempt_106 rfl (lv_at hl 5 rfl) ?_
              refine lv_bipush (v := 41) hx hb dX12_attempt_107 (by decide) ?_
              have hP : va_P G.1 pCl (mW G h0 a (upd (upd (upd (upd (upd (upd (upd (upd (upd F 15 (nI fa1321)) 16 pl2121) 27 (nI nd20)) 31 (nI wr22)) 64 (nI at1320)) 65 (nI ne)) 66 (nI lk21)) 15 (nI fa1321)) 64 (nI at1320)) (updA (updA (stR X24 12 nd (nI r23)) 2 K) 2 K)) _ := hP
              have hD : va_D A (mW G h0 a (upd (upd (upd (upd (upd (upd (upd (upd (upd F 15 (nI fa1321)) 16 pl2121) 27 (nI nd20)) 31 (nI wr22)) 64 (nI at1320)) 65 (nI ne)) 66 (nI lk21)) 15 (nI fa1321)) 64 (nI at1320)) (updA (updA (stR X24 12 nd (nI r23)) 2 K) 2 K)) := mW_D hD
              refine pc_V0 (G := G) (As := [.int 41]) (rest := []) hx hb hml hown hq hE hX pX0_al hP hD hS hA hl.1 (R_take l G h0 a (upd (upd (upd (upd (upd (upd (upd F 15 (nI fa1321)) 16 pl2121) 27 (nI nd20)) 31 (nI wr22)) 64 (nI at1320)) 65 (nI ne)) 66 (nI lk21)) (updA (stR X24 12 nd (nI r23)) 2 K) at1320 T fa1321 K 41 (by omega) (by omega) hK (by omega) (by decide) (by decide)) (gV pw_1614 pw_1615 pw_1616 pw_1523 pw_1601) hV_X12_take 0 9 rfl rfl rfl rfl (Nat.le_of_ble_eq_true rfl) dX12_attempt_109 ⟨Nat.le_of_ble_eq_true rfl, Nat.le_of_ble_eq_true rfl⟩ ⟨(by show 4 + 1 ≤ (26 * n + 43); omega), (by show 8 + (2 + 11) + 103 ≤ (2000 * n + 4300); omega)⟩ (fun v2134 u2132 H locs hw2133 hP hD hS => ?_)
              obtain ⟨at2135, fa2136, pl2137⟩ := u2132
              obtain ⟨hw2133, h2138, h2139, h2140, h2141, h2142, h2143, h2144, h2145⟩ := hw2133
              have h2138 : at1320 ≤ at2135 := h2138
              have h2139 : at2135 ≤ T := h2139
              have h2140 : fa1321 ≤ fa2136 := h2140
              have h2141 : fa2136 ≤ 100 := h2141
              have h2142 : If (0 < fa1321) (at2135 = at1320 ∧ fa2136 = fa1321) := h2142
              have h2143 : at2135 ≤ at1320 + 1 := h2143
              have h2144 : at1320 + 1 ≤ at2135 + fa2136 := h2144
              have h2145 : If (fa2136 = 0) (K at1320 = 41) := h2145
              obtain rfl : v2134 = none := hw2133
              have hP : va_P G.1 pCl (mW G h0 a (upd (upd (upd (upd (upd (upd (upd F 15 (nI fa2136)) 16 pl2137) 27 (nI nd20)) 31 (nI wr22)) 64 (nI at2135)) 65 (nI ne)) 66 (nI lk21)) (updA (stR X24 12 nd (nI r23)) 2 K)) _ := mW_to (F := F) (l1 := [(15, (nI fa1321)), (16, pl2121), (27, (nI nd20)), (31, (nI wr22)), (64, (nI at1320)), (65, (nI ne)), (66, (nI lk21)), (15, (nI fa2136)), (16, pl2137), (64, (nI at2135))]) (l2 := [(15, (nI fa2136)), (16, pl2137), (27, (nI nd20)), (31, (nI wr22)), (64, (nI at2135)), (65, (nI ne)), (66, (nI lk21))]) (V := [(nI fa2136), pl2137, (nI nd20), (nI wr22), (nI at2135), (nI ne), (nI lk21), (nI fa2136), pl2137, (nI at2135), (nI fa2136), pl2137, (nI nd20), (nI wr22), (nI at2135), (nI ne), (nI lk21)]) rfl rfl (show (updA (updA (stR X24 12 nd (nI r23)) 2 K) 2 K) = (updA (stR X24 12 nd (nI r23)) 2 K) from updsA_eq2 (F := X24) (l1 := [(12, (upd (X24 12) nd (nI r23))), (2, K), (2, K)]) (l2 := [(12, (upd (X24 12) nd (nI r23))), (2, K)]) (V := [(upd (X24 12) nd (nI r23)), K, K, (upd (X24 12) nd (nI r23)), K]) rfl rfl) hP
              have hD : va_D A (mW G h0 a (upd (upd (upd (upd (upd (upd (upd F 15 (nI fa2136)) 16 pl2137) 27 (nI nd20)) 31 (nI wr22)) 64 (nI at2135)) 65 (nI ne)) 66 (nI lk21)) (updA (stR X24 12 nd (nI r23)) 2 K)) := mW_D hD
              refine W.widen (k := 0) (n := 0) (Nat.le_of_ble_eq_true rfl) (Nat.le_of_ble_eq_true rfl) ?_
              refine W.eq (g2 := F0 m 112 ls []) rfl ?_
              obtain ⟨n2147, n2146⟩ := h2142 e1331
              replace n2147 := n2147.symm
              subst n2147
              replace n2146 := n2146.symm
              subst n2146
              refine lv_aload_n hx hb dX12_attempt_112 rfl (lv_at hl 5 rfl) ?_
              refine lv_bipush (v := 44) hx hb dX12_attempt_113 (by decide) ?_
              refine lv_iload_n hx hb dX12_attempt_115 rfl (lv_at hl 2 rfl) ?_
              refine lv_iload hx hb dX12_attempt_116 (lv_at hl 0 rfl) ?_
              refine lv_iload hx hb dX12_attempt_118 (lv_at hl 1 rfl) ?_
              refine lv_iconst (v := (-1)) hx hb dX12_attempt_120 (by decide) ?_
              have hP : va_P G.1 pCl (mW G h0 a (upd (upd (upd (upd (upd (upd (upd (upd F 15 (nI fa1321)) 16 pl2137) 27 (nI nd20)) 31 (nI wr22)) 64 (nI at1320)) 65 (nI ne)) 66 (nI lk21)) 27 (nI nd20)) (updA (stR X24 12 nd (nI r23)) 2 K)) _ := hP
              have hD : va_D A (mW G h0 a (upd (upd (upd (upd (upd (upd (upd (upd F 15 (nI fa1321)) 16 pl2137) 27 (nI nd20)) 31 (nI wr22)) 64 (nI at1320)) 65 (nI ne)) 66 (nI lk21)) 27 (nI nd20)) (updA (stR X24 12 nd (nI r23)) 2 K)) := mW_D hD
              refine pc_V0 (G := G) (As := [.int 44, .int (nI (at1289 - 1)), .int (nI at1320), .int (nI at1305), .int (-1)]) (rest := []) hx hb hml hown hq hE hX pX0_al hP hD hS hA hl.1 (R_nodeB l G h0 a (upd (upd (upd (upd (upd (upd (upd F 15 (nI fa1321)) 16 pl2137) 27 (nI nd20)) 31 (nI wr22)) 64 (nI at1320)) 65 (nI ne)) 66 (nI lk21)) (stR X24 12 nd (nI r23)) 44 (nI (at1289 - 1)) (nI at1320) (nI at1305) (-1) nd20 K (by omega)) (gV pw_1650 pw_1651 pw_1652 pw_1523 pw_1589) hV_X12_node 0 9 rfl rfl rfl rfl (Nat.le_of_ble_eq_true rfl) dX12_attempt_121 ⟨Nat.le_of_ble_eq_true rfl, Nat.le_of_ble_eq_true rfl⟩ ⟨(by show 2 + 1 ≤ (26 * n + 43); omega), (by show 8 + (7 + 11) + 60 ≤ (2000 * n + 4300); omega)⟩ (fun v2150 u2148 H locs hw2149 hP hD hS => ?_)
              obtain ⟨X2151, rfl⟩ : ∃ z, z = u2148 := ⟨_, rfl⟩
              obtain ⟨hw2149, h2152⟩ := hw2149
              have h2152 : NewN (stR X24 12 nd (nI r23)) X2151 nd20 44 (nI (at1289 - 1)) (nI at1320) (nI at1305) (-1) := h2152
              obtain rfl : v2150 = some (.int (nI nd20)) := hw2149
              have hP : va_P G.1 pCl (mW G h0 a (upd (upd (upd (upd (upd (upd (upd F 15 (nI fa1321)) 16 pl2137) 27 (nI (nd20 + 1))) 31 (nI wr22)) 64 (nI at1320)) 65 (nI ne)) 66 (nI lk21)) (updA X2151 2 K)) _ := mW_to (F := F) (l1 := [(15, (nI fa1321)), (16, pl2137), (27, (nI nd20)), (31, (nI wr22)), (64, (nI at1320)), (65, (nI ne)), (66, (nI lk21)), (27, (nI (nd20 + 1)))]) (l2 := [(15, (nI fa1321)), (16, pl2137), (27, (nI (nd20 + 1))), (31, (nI wr22)), (64, (nI at1320)), (65, (nI ne)), (66, (nI lk21))]) (V := [(nI fa1321), pl2137, (nI (nd20 + 1)), (nI wr22), (nI at1320), (nI ne), (nI lk21), (nI (nd20 + 1)), (nI fa1321), pl2137, (nI (nd20 + 1)), (nI wr22), (nI at1320), (nI ne), (nI lk21)]) rfl rfl rfl hP
              have hD : va_D A (mW G h0 a (upd (upd (upd (upd (upd (upd (upd F 15 (nI fa1321)) 16 pl2137) 27 (nI (nd20 + 1))) 31 (nI wr22)) 64 (nI at1320)) 65 (nI ne)) 66 (nI lk21)) (updA X2151 2 K)) := mW_D hD
              refine W.widen (k := 0) (n := 0) (Nat.le_of_ble_eq_true rfl) (Nat.le_of_ble_eq_true rfl) ?_
              refine W.eq (g2 := F0 m 124 ls [.int (nI nd20)]) rfl ?_
              have hkp2153 : Kp B X2151 wr22 T := (Kp.new hkp48 h2152)
              refine lv_istore (lv' := [(6, .int (nI nd20)), (5, .int (nI at1320)), (4, .int (nI at1305)), (3, .int (nI (at1289 - 1))), (2, .int (-1)), (1, .int (nI nd)), (0, .ref h0)]) hx hb dX12_attempt_124 hl (by decide) rfl (fun ls hl => ?_)
              refine lv_aload_n hx hb dX12_attempt_126 rfl (lv_at hl 6 rfl) ?_
              refine r_get (v := .ref (a 13)) hx hb hown hq hE hP 21 50 tFX12_21 (by decide) pw_1443 rfl dX12_attempt_127 ?_
              refine lv_iload hx hb dX12_attempt_130 (lv_at hl 0 rfl) ?_
              refine lv_aload_n hx hb dX12_attempt_132 rfl (lv_at hl 6 rfl) ?_
              have hP : va_P G.1 pCl (mW G h0 a (upd (upd (upd (upd (upd (upd (upd (upd (upd (upd (upd F 15 (nI fa1321)) 16 pl2137) 27 (nI (nd20 + 1))) 31 (nI wr22)) 64 (nI at1320)) 65 (nI ne)) 66 (nI lk21)) 15 (nI fa1321)) 27 (nI (nd20 + 1))) 31 (nI wr22)) 64 (nI at1320)) (updA X2151 2 K)) _ := mW_to (F := F) (l1 := [(15, (nI fa1321)), (16, pl2137), (27, (nI (nd20 + 1))), (31, (nI wr22)), (64, (nI at1320)), (65, (nI ne)), (66, (nI lk21))]) (l2 := [(15, (nI fa1321)), (16, pl2137), (27, (nI (nd20 + 1))), (31, (nI wr22)), (64, (nI at1320)), (65, (nI ne)), (66, (nI lk21)), (15, (nI fa1321)), (27, (nI (nd20 + 1))), (31, (nI wr22)), (64, (nI at1320))]) (V := [(nI fa1321), pl2137, (nI (nd20 + 1)), (nI wr22), (nI at1320), (nI ne), (nI lk21), (nI fa1321), pl2137, (nI (nd20 + 1)), (nI wr22), (nI at1320), (nI ne), (nI lk21), (nI fa1321), (nI (nd20 + 1)), (nI wr22), (nI at1320)]) rfl rfl rfl hP
              have hD : va_D A (mW G h0 a (upd (upd (upd (upd (upd (upd (upd (upd (upd (upd (upd F 15 (nI fa1321)) 16 pl2137) 27 (nI (nd20 + 1))) 31 (nI wr22)) 64 (nI at1320)) 65 (nI ne)) 66 (nI lk21)) 15 (nI fa1321)) 27 (nI (nd20 + 1))) 31 (nI wr22)) 64 (nI at1320)) (updA X2151 2 K)) := mW_D hD
              refine pc_V0 (G := G) (As := []) (rest := [.int (nI nd20), .ref (a 13)]) hx hb hml hown hq hE hX pX0_al hP hD hS hA hl.1 (RF_block l G h0 a (upd (upd (upd (upd (upd (upd (upd F 15 (nI fa1321)) 16 pl2137) 27 (nI (nd20 + 1))) 31 (nI wr22)) 64 (nI at1320)) 65 (nI ne)) 66 (nI lk21)) X2151 at1320 T fa1321 (nd20 + 1) wr22 K (by omega) (by omega) hK (by omega) e1331 (by omega) (by omega) (hkp2153).2) (gV pw_1685 pw_1686 pw_1687 pw_1523 pw_1688) hV_X12_block 0 9 rfl rfl rfl rfl (Nat.le_of_ble_eq_true rfl) dX12_attempt_133 ⟨Nat.le_of_ble_eq_true rfl, Nat.le_of_ble_eq_true rfl⟩ ⟨(by show 5 + 1 ≤ (26 * n + 43); omega), (by show 8 + (4 + 11) + 124 ≤ (2000 * n + 4300); omega)⟩ (fun v2156 u2154 H locs hw2155 hP hD hS => ?_)
              obtain ⟨pl2157, wr2158, X2159⟩ := u2154
              obtain ⟨hw2155, h2160, h2161, h2162⟩ := hw2155
              have h2160 : wr22 ≤ wr2158 := h2160
              have h2161 : wr2158 ≤ wr22 := h2161
              have h2162 : Kp X2151 X2159 wr2158 T := h2162
              obtain rfl : v2156 = some (.int (nI (nd20 + 1))) := hw2155
              have hP : va_P G.1 pCl (mW G h0 a (upd (upd (upd (upd (upd (upd (upd F 15 (nI fa1321)) 16 pl2157) 27 (nI ((nd20 + 1) + 1))) 31 (nI wr2158)) 64 (nI at1320)) 65 (nI ne)) 66 (nI lk21)) (updA X2159 2 K)) _ := mW_to (F := F) (l1 := [(15, (nI fa1321)), (16, pl2137), (27, (nI (nd20 + 1))), (31, (nI wr22)), (64, (nI at1320)), (65, (nI ne)), (66, (nI lk21)), (15, (nI fa1321)), (16, pl2157), (27, (nI ((nd20 + 1) + 1))), (31, (nI wr2158)), (64, (nI at1320))]) (l2 := [(15, (nI fa1321)), (16, pl2157), (27, (nI ((nd20 + 1) + 1))), (31, (nI wr2158)), (64, (nI at1320)), (65, (nI ne)), (66, (nI lk21))]) (V := [(nI fa1321), pl2157, (nI ((nd20 + 1) + 1)), (nI wr2158), (nI at1320), (nI ne), (nI lk21), (nI fa1321), pl2157, (nI ((nd20 + 1) + 1)), (nI wr2158), (nI at1320), (nI fa1321), pl2157, (nI ((nd20 + 1) + 1)), (nI wr2158), (nI at1320), (nI ne), (nI lk21)]) rfl rfl rfl hP
              have hD : va_D A (mW G h0 a (upd (upd (upd (upd (upd (upd (upd F 15 (nI fa1321)) 16 pl2157) 27 (nI ((nd20 + 1) + 1))) 31 (nI wr2158)) 64 (nI at1320)) 65 (nI ne)) 66 (nI lk21)) (updA X2159 2 K)) := mW_D hD
              refine W.widen (k := 0) (n := 0) (Nat.le_of_ble_eq_true rfl) (Nat.le_of_ble_eq_true rfl) ?_
              refine W.eq (g2 := F0 m 136 ls [.int (nI (nd20 + 1)), .int (nI nd20), .ref (a 13)]) rfl ?_
              have hkp2163 : Kp B X2159 wr2158 T := (Kp.trans hkp2153 h2162)
              refine r_sti (f := (X2159 13)) (j := nd20) hx hb hE hP hD hS 13 (ma_13 G a _) rfl (mas_13 G a _) (by omega) (by decide) dX12_attempt_136 (fun H locs hP hD hS => ?_)
              have hP : va_P G.1 pCl (mW G h0 a (upd (upd (upd (upd (upd (upd (upd F 15 (nI fa1321)) 16 pl2157) 27 (nI ((nd20 + 1) + 1))) 31 (nI wr2158)) 64 (nI at1320)) 65 (nI ne)) 66 (nI lk21)) (updA (stR X2159 13 nd20 (nI (nd20 + 1))) 2 K)) _ := mW_to (F := F) (l1 := [(15, (nI fa1321)), (16, pl2157), (27, (nI ((nd20 + 1) + 1))), (31, (nI wr2158)), (64, (nI at1320)), (65, (nI ne)), (66, (nI lk21))]) (l2 := [(15, (nI fa1321)), (16, pl2157), (27, (nI ((nd20 + 1) + 1))), (31, (nI wr2158)), (64, (nI at1320)), (65, (nI ne)), (66, (nI lk21))]) (V := [(nI fa1321), pl2157, (nI ((nd20 + 1) + 1)), (nI wr2158), (nI at1320), (nI ne), (nI lk21), (nI fa1321), pl2157, (nI ((nd20 + 1) + 1)), (nI wr2158), (nI at1320), (nI ne), (nI lk21)]) rfl rfl (show (updA (updA X2159 2 K) 13 (upd (X2159 13) nd20 (nI (nd20 + 1)))) = (updA (stR X2159 13 nd20 (nI (nd20 + 1))) 2 K) from updsA_eq2 (F := X2159) (l1 := [(2, K), (13, (upd (X2159 13) nd20 (nI (nd20 + 1))))]) (l2 := [(13, (upd (X2159 13) nd20 (nI (nd20 + 1)))), (2, K)]) (V := [K, (upd (X2159 13) nd20 (nI (nd20 + 1))), (upd (X2159 13) nd20 (nI (nd20 + 1))), K]) rfl rfl) hP
              have hD : va_D A (mW G h0 a (upd (upd (upd (upd (upd (upd (upd F 15 (nI fa1321)) 16 pl2157) 27 (nI ((nd20 + 1) + 1))) 31 (nI wr2158)) 64 (nI at1320)) 65 (nI ne)) 66 (nI lk21)) (updA (stR X2159 13 nd20 (nI (nd20 + 1))) 2 K)) := mW_D hD
              have hkp2164 : Kp B (stR X2159 13 nd20 (nI (nd20 + 1))) wr2158 T := (Kp.row hkp2163 (by omega))
              refine lv_iload_n hx hb dX12_attempt_137 rfl (lv_at hl 4 rfl) ?_
              refine lv_iconst (v := (-1)) hx hb dX12_attempt_138 (by decide) ?_
              refine lv_icmp_ne (tgt := 153) hx hb dX12_attempt_139 (by decide) (fun c2165 => absurd c2165 (by decide)) (fun c2165 => ?_)
              refine lv_aload_n hx hb dX12_attempt_142 rfl (lv_at hl 6 rfl) ?_
              refine r_get (v := .ref (a 13)) hx hb hown hq hE hP 21 50 tFX12_21 (by decide) pw_1443 rfl dX12_attempt_143 ?_
              refine lv_iload_n hx hb dX12_attempt_146 rfl (lv_at hl 5 rfl) ?_
              refine lv_iload hx hb dX12_attempt_147 (lv_at hl 0 rfl) ?_
              refine r_sti (f := ((stR X2159 13 nd20 (nI (nd20 + 1))) 13)) (j := nd) hx hb hE hP hD hS 13 (ma_13 G a _) rfl (mas_13 G a _) (by omega) (by decide) dX12_attempt_149 (fun H locs hP hD hS => ?_)
              have hP : va_P G.1 pCl (mW G h0 a (upd (upd (upd (upd (upd (upd (upd F 15 (nI fa1321)) 16 pl2157) 27 (nI ((nd20 + 1) + 1))) 31 (nI wr2158)) 64 (nI at1320)) 65 (nI ne)) 66 (nI lk21)) (updA (stR (stR X2159 13 nd20 (nI (nd20 + 1))) 13 nd (nI nd20)) 2 K)) _ := mW_to (F := F) (l1 := [(15, (nI fa1321)), (16, pl2157), (27, (nI ((nd20 + 1) + 1))), (31, (nI wr2158)), (64, (nI at1320)), (65, (nI ne)), (66, (nI lk21))]) (l2 := [(15, (nI fa1321)), (16, pl2157), (27, (nI ((nd20 + 1) + 1))), (31, (nI wr2158)), (64, (nI at1320)), (65, (nI ne)), (66, (nI lk21))]) (V := [(nI fa1321), pl2157, (nI ((nd20 + 1) + 1)), (nI wr2158), (nI at1320), (nI ne), (nI lk21), (nI fa1321), pl2157, (nI ((nd20 + 1) + 1)), (nI wr2158), (nI at1320), (nI ne), (nI lk21)]) rfl rfl (show (updA (updA (stR X2159 13 nd20 (nI (nd20 + 1))) 2 K) 13 (upd ((stR X2159 13 nd20 (nI (nd20 + 1))) 13) nd (nI nd20))) = (updA (stR (stR X2159 13 nd20 (nI (nd20 + 1))) 13 nd (nI nd20)) 2 K) from updsA_eq2 (F := X2159) (l1 := [(13, (upd (X2159 13) nd20 (nI (nd20 + 1)))), (2, K), (13, (upd ((stR X2159 13 nd20 (nI (nd20 + 1))) 13) nd (nI nd20)))]) (l2 := [(13, (upd (X2159 13) nd20 (nI (nd20 + 1)))), (13, (upd ((stR X2159 13 nd20 (nI (nd20 + 1))) 13) nd (nI nd20))), (2, K)]) (V := [(upd ((stR X2159 13 nd20 (nI (nd20 + 1))) 13) nd (nI nd20)), K, (upd ((stR X2159 13 nd20 (nI (nd20 + 1))) 13) nd (nI nd20)), (upd ((stR X2159 13 nd20 (nI (nd20 + 1))) 13) nd (nI nd20)), (upd ((stR X2159 13 nd20 (nI (nd20 + 1))) 13) nd (nI nd20)), K]) rfl rfl) hP
              have hD : va_D A (mW G h0 a (upd (upd (upd (upd (upd (upd (upd F 15 (nI fa1321)) 16 pl2157) 27 (nI ((nd20 + 1) + 1))) 31 (nI wr2158)) 64 (nI at1320)) 65 (nI ne)) 66 (nI lk21)) (updA (stR (stR X2159 13 nd20 (nI (nd20 + 1))) 13 nd (nI nd20)) 2 K)) := mW_D hD
              have hkp2166 : Kp B (stR (stR X2159 13 nd20 (nI (nd20 + 1))) 13 nd (nI nd20)) wr2158 T := (Kp.row hkp2164 (by omega))
              refine lv_goto (tgt := 161) hx hb dX12_attempt_150 (by decide) ?_
              refine lv_iload hx hb dX12_attempt_161 (lv_at hl 0 rfl) ?_
              refine lv_istore_n (lv' := [(2, .int (nI nd20)), (6, .int (nI nd20)), (5, .int (nI at1320)), (4, .int (nI at1305)), (3, .int (nI (at1289 - 1))), (1, .int (nI nd)), (0, .ref h0)]) hx hb dX12_attempt_163 rfl hl (by decide) rfl (fun ls hl => ?_)
              refine lv_goto (tgt := 71) hx hb dX12_attempt_164 (by decide) ?_
              refine lv_aload_n hx hb dX12_attempt_71 rfl (lv_at hl 6 rfl) ?_
              refine lv_sipush (v := 313) hx hb dX12_attempt_72 (by decide) ?_
              have hP : va_P G.1 pCl (mW G h0 a (upd (upd (upd (upd (upd (upd (upd (upd (upd F 15 (nI fa1321)) 16 pl2157) 27 (nI ((nd20 + 1) + 1))) 31 (nI wr2158)) 64 (nI at1320)) 65 (nI ne)) 66 (nI lk21)) 15 (nI fa1321)) 64 (nI at1320)) (updA (updA (stR (stR X2159 13 nd20 (nI (nd20 + 1))) 13 nd (nI nd20)) 2 K) 2 K)) _ := mW_to (F := F) (l1 := [(15, (nI fa1321)), (16, pl2157), (27, (nI ((nd20 + 1) + 1))), (31, (nI wr2158)), (64, (nI at1320)), (65, (nI ne)), (66, (nI lk21))]) (l2 := [(15, (nI fa1321)), (16, pl2157), (27, (nI ((nd20 + 1) + 1))), (31, (nI wr2158)), (64, (nI at1320)), (65, (nI ne)), (66, (nI lk21)), (15, (nI fa1321)), (64, (nI at1320))]) (V := [(nI fa1321), pl2157, (nI ((nd20 + 1) + 1)), (nI wr2158), (nI at1320), (nI ne), (nI lk21), (nI fa1321), pl2157, (nI ((nd20 + 1) + 1)), (nI wr2158), (nI at1320), (nI ne), (nI lk21), (nI fa1321), (nI at1320)]) rfl rfl (show (updA (stR (stR X2159 13 nd20 (nI (nd20 + 1))) 13 nd (nI nd20)) 2 K) = (updA (updA (stR (stR X2159 13 nd20 (nI (nd20 + 1))) 13 nd (nI nd20)) 2 K) 2 K) from updsA_eq2 (F := X2159) (l1 := [(13, (upd (X2159 13) nd20 (nI (nd20 + 1)))), (13, (upd ((stR X2159 13 nd20 (nI (nd20 + 1))) 13) nd (nI nd20))), (2, K)]) (l2 := [(13, (upd (X2159 13) nd20 (nI (nd20 + 1)))), (13, (upd ((stR X2159 13 nd20 (nI (nd20 + 1))) 13) nd (nI nd20))), (2, K), (2, K)]) (V := [(upd ((stR X2159 13 nd20 (nI (nd20 + 1))) 13) nd (nI nd20)), (upd ((stR X2159 13 nd20 (nI (nd20 + 1))) 13) nd (nI nd20)), K, (upd ((stR X2159 13 nd20 (nI (nd20 + 1))) 13) nd (nI nd20)), (upd ((stR X2159 13 nd20 (nI (nd20 + 1))) 13) nd (nI nd20)), K, K]) rfl rfl) hP
              have hD : va_D A (mW G h0 a (upd (upd (upd (upd (upd (upd (upd (upd (upd F 15 (nI fa1321)) 16 pl2157) 27 (nI ((nd20 + 1) + 1))) 31 (nI wr2158)) 64 (nI at1320)) 65 (nI ne)) 66 (nI lk21)) 15 (nI fa1321)) 64 (nI at1320)) (updA (updA (stR (stR X2159 13 nd20 (nI (nd20 + 1))) 13 nd (nI nd20)) 2 K) 2 K)) := mW_D hD
              refine pc_V0 (G := G) (As := [.int 313]) (rest := []) hx hb hml hown hq hE hX pX0_al hP hD hS hA hl.1 (R_may l G h0 a (upd (upd (upd (upd (upd (upd (upd F 15 (nI fa1321)) 16 pl2157) 27 (nI ((nd20 + 1) + 1))) 31 (nI wr2158)) 64 (nI at1320)) 65 (nI ne)) 66 (nI lk21)) (updA (stR (stR X2159 13 nd20 (nI (nd20 + 1))) 13 nd (nI nd20)) 2 K) at1320 T fa1321 K 313 (by omega) (by omega) hK (by omega) (by decide) (by decide)) (gV pw_1621 pw_1622 pw_1623 pw_1523 pw_1605) hV_X12_may 0 9 rfl rfl rfl rfl (Nat.le_of_ble_eq_true rfl) dX12_attempt_75 ⟨Nat.le_of_ble_eq_true rfl, Nat.le_of_ble_eq_true rfl⟩ ⟨(by show 3 + 1 ≤ (26 * n + 43); omega), (by show 8 + (3 + 11) + 81 ≤ (2000 * n + 4300); omega)⟩ (fun v2169 u2167 H locs hw2168 hP hD hS => ?_)
              obtain ⟨at2170, r2171⟩ := u2167
              obtain ⟨hw2168, h2172, h2173, h2174, h2175, h2176, h2177⟩ := hw2168
              have h2172 : r2171 ≤ 1 := h2172
              have h2173 : fa1321 + 100 * r2171 ≤ 100 := h2173
              have h2174 : at2170 = at1320 + r2171 := h2174
              have h2175 : at2170 ≤ T := h2175
              have h2176 : If (r2171 = 1) (K at1320 = 313) := h2176
              have h2177 : If (r2171 = 0) (fa1321 = 0 → ¬ K at1320 = 313) := h2177
              obtain rfl : v2169 = some (.int (nI r2171)) := hw2168
              have hP : va_P G.1 pCl (mW G h0 a (upd (upd (upd (upd (upd (upd (upd F 15 (nI fa1321)) 16 pl2157) 27 (nI ((nd20 + 1) + 1))) 31 (nI wr2158)) 64 (nI at2170)) 65 (nI ne)) 66 (nI lk21)) (updA (stR (stR X2159 13 nd20 (nI (nd20 + 1))) 13 nd (nI nd20)) 2 K)) _ := mW_to (F := F) (l1 := [(15, (nI fa1321)), (16, pl2157), (27, (nI ((nd20 + 1) + 1))), (31, (nI wr2158)), (64, (nI at1320)), (65, (nI ne)), (66, (nI lk21)), (15, (nI fa1321)), (64, (nI at2170))]) (l2 := [(15, (nI fa1321)), (16, pl2157), (27, (nI ((nd20 + 1) + 1))), (31, (nI wr2158)), (64, (nI at2170)), (65, (nI ne)), (66, (nI lk21))]) (V := [(nI fa1321), pl2157, (nI ((nd20 + 1) + 1)), (nI wr2158), (nI at2170), (nI ne), (nI lk21), (nI fa1321), (nI at2170), (nI fa1321), pl2157, (nI ((nd20 + 1) + 1)), (nI wr2158), (nI at2170), (nI ne), (nI lk21)]) rfl rfl (show (updA (updA (stR (stR X2159 13 nd20 (nI (nd20 + 1))) 13 nd (nI nd20)) 2 K) 2 K) = (updA (stR (stR X2159 13 nd20 (nI (nd20 + 1))) 13 nd (nI nd20)) 2 K) from updsA_eq2 (F := X2159) (l1 := [(13, (upd (X2159 13) nd20 (nI (nd20 + 1)))), (13, (upd ((stR X2159 13 nd20 (nI (nd20 + 1))) 13) nd (nI nd20))), (2, K), (2, K)]) (l2 := [(13, (upd (X2159 13) nd20 (nI (nd20 + 1)))), (13, (upd ((stR X2159 13 nd20 (nI (nd20 + 1))) 13) nd (nI nd20))), (2, K)]) (V := [(upd ((stR X2159 13 nd20 (nI (nd20 + 1))) 13) nd (nI nd20)), (upd ((stR X2159 13 nd20 (nI (nd20 + 1))) 13) nd (nI nd20)), K, K, (upd ((stR X2159 13 nd20 (nI (nd20 + 1))) 13) nd (nI nd20)), (upd ((stR X2159 13 nd20 (nI (nd20 + 1))) 13) nd (nI nd20)), K]) rfl rfl) hP
              have hD : va_D A (mW G h0 a (upd (upd (upd (upd (upd (upd (upd F 15 (nI fa1321)) 16 pl2157) 27 (nI ((nd20 + 1) + 1))) 31 (nI wr2158)) 64 (nI at2170)) 65 (nI ne)) 66 (nI lk21)) (updA (stR (stR X2159 13 nd20 (nI (nd20 + 1))) 13 nd (nI nd20)) 2 K)) := mW_D hD
              refine W.widen (k := 0) (n := 0) (Nat.le_of_ble_eq_true rfl) (Nat.le_of_ble_eq_true rfl) ?_
              refine W.eq (g2 := F0 m 78 ls [.int (nI r2171)]) rfl ?_
              obtain rfl : at1320 = at2170 := (by omega)
              refine lv_if_eq (tgt := 167) hx hb dX12_attempt_78 (by decide) (fun c2178 => ?_) (fun c2178 => (by have n2179 : ¬ (r2171 = 0) := fun h9 => c2178 ((nI_eq (a := r2171) (b := 0) (by omega) (by omega)).mpr h9); omega))
              refine lv_aload_n hx hb dX12_attempt_167 rfl (lv_at hl 6 rfl) ?_
              refine lv_sipush (v := 319) hx hb dX12_attempt_168 (by decide) ?_
              have hP : va_P G.1 pCl (mW G h0 a (upd (upd (upd (upd (upd (upd (upd (upd (upd F 15 (nI fa1321)) 16 pl2157) 27 (nI ((nd20 + 1) + 1))) 31 (nI wr2158)) 64 (nI at1320)) 65 (nI ne)) 66 (nI lk21)) 15 (nI fa1321)) 64 (nI at1320)) (updA (updA (stR (stR X2159 13 nd20 (nI (nd20 + 1))) 13 nd (nI nd20)) 2 K) 2 K)) _ := hP
              have hD : va_D A (mW G h0 a (upd (upd (upd (upd (upd (upd (upd (upd (upd F 15 (nI fa1321)) 16 pl2157) 27 (nI ((nd20 + 1) + 1))) 31 (nI wr2158)) 64 (nI at1320)) 65 (nI ne)) 66 (nI lk21)) 15 (nI fa1321)) 64 (nI at1320)) (updA (updA (stR (stR X2159 13 nd20 (nI (nd20 + 1))) 13 nd (nI nd20)) 2 K) 2 K)) := mW_D hD
              refine pc_V0 (G := G) (As := [.int 319]) (rest := []) hx hb hml hown hq hE hX pX0_al hP hD hS hA hl.1 (R_may l G h0 a (upd (upd (upd (upd (upd (upd (upd F 15 (nI fa1321)) 16 pl2157) 27 (nI ((nd20 + 1) + 1))) 31 (nI wr2158)) 64 (nI at1320)) 65 (nI ne)) 66 (nI lk21)) (updA (stR (stR X2159 13 nd20 (nI (nd20 + 1))) 13 nd (nI nd20)) 2 K) at1320 T fa1321 K 319 (by omega) (by omega) hK (by omega) (by decide) (by decide)) (gV pw_1621 pw_1622 pw_1623 pw_1523 pw_1605) hV_X12_may 0 9 rfl rfl rfl rfl (Nat.le_of_ble_eq_true rfl) dX12_attempt_171 ⟨Nat.le_of_ble_eq_true rfl, Nat.le_of_ble_eq_true rfl⟩ ⟨(by show 3 + 1 ≤ (26 * n + 43); omega), (by show 8 + (3 + 11) + 81 ≤ (2000 * n + 4300); omega)⟩ (fun v2182 u2180 H locs hw2181 hP hD hS => ?_)
              obtain ⟨at2183, r2184⟩ := u2180
              obtain ⟨hw2181, h2185, h2186, h2187, h2188, h2189, h2190⟩ := hw2181
              have h2185 : r2184 ≤ 1 := h2185
              have h2186 : fa1321 + 100 * r2184 ≤ 100 := h2186
              have h2187 : at2183 = at1320 + r2184 := h2187
              have h2188 : at2183 ≤ T := h2188
              have h2189 : If (r2184 = 1) (K at1320 = 319) := h2189
              have h2190 : If (r2184 = 0) (fa1321 = 0 → ¬ K at1320 = 319) := h2190
              obtain rfl : v2182 = some (.int (nI r2184)) := hw2181
              have hP : va_P G.1 pCl (mW G h0 a (upd (upd (upd (upd (upd (upd (upd F 15 (nI fa1321)) 16 pl2157) 27 (nI ((nd20 + 1) + 1))) 31 (nI wr2158)) 64 (nI at2183)) 65 (nI ne)) 66 (nI lk21)) (updA (stR (stR X2159 13 nd20 (nI (nd20 + 1))) 13 nd (nI nd20)) 2 K)) _ := mW_to (F := F) (l1 := [(15, (nI fa1321)), (16, pl2157), (27, (nI ((nd20 + 1) + 1))), (31, (nI wr2158)), (64, (nI at1320)), (65, (nI ne)), (66, (nI lk21)), (15, (nI fa1321)), (64, (nI at2183))]) (l2 := [(15, (nI fa1321)), (16, pl2157), (27, (nI ((nd20 + 1) + 1))), (31, (nI wr2158)), (64, (nI at2183)), (65, (nI ne)), (66, (nI lk21))]) (V := [(nI fa1321), pl2157, (nI ((nd20 + 1) + 1)), (nI wr2158), (nI at2183), (nI ne), (nI lk21), (nI fa1321), (nI at2183), (nI fa1321), pl2157, (nI ((nd20 + 1) + 1)), (nI wr2158), (nI at2183), (nI ne), (nI lk21)]) rfl rfl (show (updA (updA (stR (stR X2159 13 nd20 (nI (nd20 + 1))) 13 nd (nI nd20)) 2 K) 2 K) = (updA (stR (stR X2159 13 nd20 (nI (nd20 + 1))) 13 nd (nI nd20)) 2 K) from updsA_eq2 (F := X2159) (l1 := [(13, (upd (X2159 13) nd20 (nI (nd20 + 1)))), (13, (upd ((stR X2159 13 nd20 (nI (nd20 + 1))) 13) nd (nI nd20))), (2, K), (2, K)]) (l2 := [(13, (upd (X2159 13) nd20 (nI (nd20 + 1)))), (13, (upd ((stR X2159 13 nd20 (nI (nd20 + 1))) 13) nd (nI nd20))), (2, K)]) (V := [(upd ((stR X2159 13 nd20 (nI (nd20 + 1))) 13) nd (nI nd20)), (upd ((stR X2159 13 nd20 (nI (nd20 + 1))) 13) nd (nI nd20)), K, K, (upd ((stR X2159 13 nd20 (nI (nd20 + 1))) 13) nd (nI nd20)), (upd ((stR X2159 13 nd20 (nI (nd20 + 1))) 13) nd (nI nd20)), K]) rfl rfl) hP
              have hD : va_D A (mW G h0 a (upd (upd (upd (upd (upd (upd (upd F 15 (nI fa1321)) 16 pl2157) 27 (nI ((nd20 + 1) + 1))) 31 (nI wr2158)) 64 (nI at2183)) 65 (nI ne)) 66 (nI lk21)) (updA (stR (stR X2159 13 nd20 (nI (nd20 + 1))) 13 nd (nI nd20)) 2 K)) := mW_D hD
              refine W.widen (k := 0) (n := 0) (Nat.le_of_ble_eq_true rfl) (Nat.le_of_ble_eq_true rfl) ?_
              refine W.eq (g2 := F0 m 174 ls [.int (nI r2184)]) rfl ?_
              obtain rfl : at1320 = at2183 := (by omega)
              refine lv_if_eq (tgt := 187) hx hb dX12_attempt_174 (by decide) (fun c2191 => ?_) (fun c2191 => (by have n2192 : ¬ (r2184 = 0) := fun h9 => c2191 ((nI_eq (a := r2184) (b := 0) (by omega) (by omega)).mpr h9); omega))
              refine lv_iload_n hx hb dX12_attempt_187 rfl (lv_at hl 5 rfl) ?_
              have hz2193 : at0 ≤ at1320 := (by omega)
              have hz2194 : at1320 ≤ T := (by omega)
              have hz2195 : fa1321 ≤ 100 := (by omega)
              have hz2196 : nd ≤ ((nd20 + 1) + 1) := (by omega)
              have hz2197 : ((nd20 + 1) + 1) + 2 * at0 ≤ nd + 2 * at1320 + 100000 * fa1321 := (by omega)
              have hz2198 : ((nd20 + 1) + 1) + 2 * at0 ≤ nd + 2 * at1320 + (60 * (21 - ne) + 40) := (by omega)
              have hz2199 : wr ≤ wr2158 := (by omega)
              have hz2200 : wr2158 + at0 ≤ wr + at1320 := (by omega)
              have hz2201 : lk ≤ lk21 := (by omega)
              have hz2202 : lk21 ≤ 60 + 100 * fa1321 := (by omega)
              have hz2203 : at0 + 1 ≤ at1320 + fa1321 := (by omega)
              have hz2204 : nd ≤ ((nd20 + 1) + 1) := (by omega)
              have hz2205 : Kp B (stR (stR X2159 13 nd20 (nI (nd20 + 1))) 13 nd (nI nd20)) wr2158 T := hkp2166
              have hz2206 : If (fa1321 = 0) (Low B (stR (stR X2159 13 nd20 (nI (nd20 + 1))) 13 nd (nI nd20)) nd wr ∧ Frs K T wr2158 (stR (stR X2159 13 nd20 (nI (nd20 + 1))) 13 nd (nI nd20)) nd ((nd20 + 1) + 1) 20000 [(nd, (280 + 4 * (21 - ne)))] ∧ kcl 3 ((stR (stR X2159 13 nd20 (nI (nd20 + 1))) 13 nd (nI nd20)) 9 nd) = true) := (fun e => absurd e (by omega))
              have hP : va_P G.1 pCl (mW G h0 a (upd (upd (upd (upd (upd (upd (upd F 15 (nI fa1321)) 16 pl2157) 27 (nI ((nd20 + 1) + 1))) 31 (nI wr2158)) 64 (nI at1320)) 65 (nI ne)) 66 (nI lk21)) (updA (stR (stR X2159 13 nd20 (nI (nd20 + 1))) 13 nd (nI nd20)) 2 K)) _ := hP
              have hD : va_D A (mW G h0 a (upd (upd (upd (upd (upd (upd (upd F 15 (nI fa1321)) 16 pl2157) 27 (nI ((nd20 + 1) + 1))) 31 (nI wr2158)) 64 (nI at1320)) 65 (nI ne)) 66 (nI lk21)) (updA (stR (stR X2159 13 nd20 (nI (nd20 + 1))) 13 nd (nI nd20)) 2 K)) := mW_D hD
              exact W.iret (v := (nI nd)) hx hb hr (fun t9 ht9 hW9 => ⟨⟨_, (at1320, fa1321, pl2157, ((nd20 + 1) + 1), lk21, wr2158, nd, (stR (stR X2159 13 nd20 (nI (nd20 + 1))) 13 nd (nI nd20))), rfl, ⟨rfl, hz2193, hz2194, hz2195, hz2196, hz2197, hz2198, hz2199, hz2200, hz2201, hz2202, hz2203, hz2204, hz2205, hz2206⟩, by rw [ht9]; exact hP, hD⟩, hS.F ht9⟩) hS.2.2 dX12_attempt_188
          · have e1316 := e1316
            refine lv_aload_n hx hb dX12_attempt_94 rfl (lv_at hl 3 rfl) ?_
            have hP : va_P G.1 pCl (mW G h0 a (upd (upd (upd (upd (upd (upd (upd (upd (upd F 15 (nI fa1306)) 16 pl1307) 27 (nI nd20)) 31 (nI wr22)) 64 (nI at1305)) 65 (nI ne)) 66 (nI lk21)) 15 (nI fa1306)) 64 (nI at1305)) (updA (updA (stR X24 12 nd (nI r23)) 2 K) 2 K)) _ := mW_to (F := F) (l1 := [(15, (nI fa1306)), (16, pl1307), (27, (nI nd20)), (31, (nI wr22)), (64, (nI at1305)), (65, (nI ne)), (66, (nI lk21))]) (l2 := [(15, (nI fa1306)), (16, pl1307), (27, (nI nd20)), (31, (nI wr22)), (64, (nI at1305)), (65, (nI ne)), (66, (nI lk21)), (15, (nI fa1306)), (64, (nI at1305))]) (V := [(nI fa1306), pl1307, (nI nd20), (nI wr22), (nI at1305), (nI ne), (nI lk21), (nI fa1306), pl1307, (nI nd20), (nI wr22), (nI at1305), (nI ne), (nI lk21), (nI fa1306), (nI at1305)]) rfl rfl (show (updA (stR X24 12 nd (nI r23)) 2 K) = (updA (updA (stR X24 12 nd (nI r23)) 2 K) 2 K) from updsA_eq2 (F := X24) (l1 := [(12, (upd (X24 12) nd (nI r23))), (2, K)]) (l2 := [(12, (upd (X24 12) nd (nI r23))), (2, K), (2, K)]) (V := [(upd (X24 12) nd (nI r23)), K, (upd (X24 12) nd (nI r23)), K, K]) rfl rfl) hP
            have hD : va_D A (mW G h0 a (upd (upd (upd (upd (upd (upd (upd (upd (upd F 15 (nI fa1306)) 16 pl1307) 27 (nI nd20)) 31 (nI wr22)) 64 (nI at1305)) 65 (nI ne)) 66 (nI lk21)) 15 (nI fa1306)) 64 (nI at1305)) (updA (updA (stR X24 12 nd (nI r23)) 2 K) 2 K)) := mW_D hD
            refine pc_V0 (G := G) (As := []) (rest := []) hx hb hml hown hq hE hX pX0_al hP hD hS hA hl.1 (R_name l G h0 a (upd (upd (upd (upd (upd (upd (upd F 15 (nI fa1306)) 16 pl1307) 27 (nI nd20)) 31 (nI wr22)) 64 (nI at1305)) 65 (nI ne)) 66 (nI lk21)) (updA (stR X24 12 nd (nI r23)) 2 K) at1305 T fa1306 K (by omega) (by omega) hK (by omega)) (gV pw_1618 pw_1619 pw_1620 pw_1523 pw_1613) hV_X12_name 0 9 rfl rfl rfl rfl (Nat.le_of_ble_eq_true rfl) dX12_attempt_95 ⟨Nat.le_of_ble_eq_true rfl, Nat.le_of_ble_eq_true rfl⟩ ⟨(by show 5 + 1 ≤ (26 * n + 43); omega), (by show 8 + (2 + 11) + 124 ≤ (2000 * n + 4300); omega)⟩ (fun v2209 u2207 H locs hw2208 hP hD hS => ?_)
            obtain ⟨at2210, fa2211, pl2212⟩ := u2207
            obtain ⟨hw2208, h2213, h2214, h2215, h2216, h2217, h2218, h2219, h2220⟩ := hw2208
            have h2213 : at1305 ≤ at2210 := h2213
            have h2214 : at2210 ≤ T := h2214
            have h2215 : fa1306 ≤ fa2211 := h2215
            have h2216 : fa2211 ≤ 100 := h2216
            have h2217 : If (0 < fa1306) (at2210 = at1305 ∧ fa2211 = fa1306) := h2217
            have h2218 : at2210 ≤ at1305 + 1 := h2218
            have h2219 : at1305 + 1 ≤ at2210 + fa2211 := h2219
            have h2220 : If (fa2211 = 0) (K at1305 = 1) := h2220
            obtain rfl : v2209 = some (.int (nI at1305)) := hw2208
            have hP : va_P G.1 pCl (mW G h0 a (upd (upd (upd (upd (upd (upd (upd F 15 (nI fa2211)) 16 pl2212) 27 (nI nd20)) 31 (nI wr22)) 64 (nI at2210)) 65 (nI ne)) 66 (nI lk21)) (updA (stR X24 12 nd (nI r23)) 2 K)) _ := mW_to (F := F) (l1 := [(15, (nI fa1306)), (16, pl1307), (27, (nI nd20)), (31, (nI wr22)), (64, (nI at1305)), (65, (nI ne)), (66, (nI lk21)), (15, (nI fa2211)), (16, pl2212), (64, (nI at2210))]) (l2 := [(15, (nI fa2211)), (16, pl2212), (27, (nI nd20)), (31, (nI wr22)), (64, (nI at2210)), (65, (nI ne)), (66, (nI lk21))]) (V := [(nI fa2211), pl2212, (nI nd20), (nI wr22), (nI at2210), (nI ne), (nI lk21), (nI fa2211), pl2212, (nI at2210), (nI fa2211), pl2212, (nI nd20), (nI wr22), (nI at2210), (nI ne), (nI lk21)]) rfl rfl (show (updA (updA (stR X24 12 nd (nI r23)) 2 K) 2 K) = (updA (stR X24 12 nd (nI r23)) 2 K) from updsA_eq2 (F := X24) (l1 := [(12, (upd (X24 12) nd (nI r23))), (2, K), (2, K)]) (l2 := [(12, (upd (X24 12) nd (nI r23))), (2, K)]) (V := [(upd (X24 12) nd (nI r23)), K, K, (upd (X24 12) nd (nI r23)), K]) rfl rfl) hP
            have hD : va_D A (mW G h0 a (upd (upd (upd (upd (upd (upd (upd F 15 (nI fa2211)) 16 pl2212) 27 (nI nd20)) 31 (nI wr22)) 64 (nI at2210)) 65 (nI ne)) 66 (nI lk21)) (updA (stR X24 12 nd (nI r23)) 2 K)) := mW_D hD
            refine W.widen (k := 0) (n := 0) (Nat.le_of_ble_eq_true rfl) (Nat.le_of_ble_eq_true rfl) ?_
            refine W.eq (g2 := F0 m 98 ls [.int (nI at1305)]) rfl ?_
            obtain ⟨n2222, n2221⟩ := h2217 e1316
            replace n2222 := n2222.symm
            subst n2222
            replace n2221 := n2221.symm
            subst n2221
            refine lv_istore (lv' := [(4, .int (nI at1305)), (3, .int (nI (at1289 - 1))), (2, .int (-1)), (1, .int (nI nd)), (0, .ref h0)]) hx hb dX12_attempt_98 hl (by decide) rfl (fun ls hl => ?_)
            refine lv_aload_n hx hb dX12_attempt_100 rfl (lv_at hl 4 rfl) ?_
            have hP : va_P G.1 pCl (mW G h0 a (upd (upd (upd (upd (upd (upd (upd (upd (upd F 15 (nI fa1306)) 16 pl2212) 27 (nI nd20)) 31 (nI wr22)) 64 (nI at1305)) 65 (nI ne)) 66 (nI lk21)) 15 (nI fa1306)) 64 (nI at1305)) (updA (updA (stR X24 12 nd (nI r23)) 2 K) 2 K)) _ := hP
            have hD : va_D A (mW G h0 a (upd (upd (upd (upd (upd (upd (upd (upd (upd F 15 (nI fa1306)) 16 pl2212) 27 (nI nd20)) 31 (nI wr22)) 64 (nI at1305)) 65 (nI ne)) 66 (nI lk21)) 15 (nI fa1306)) 64 (nI at1305)) (updA (updA (stR X24 12 nd (nI r23)) 2 K) 2 K)) := mW_D hD
            refine pc_V0 (G := G) (As := []) (rest := []) hx hb hml hown hq hE hX pX0_al hP hD hS hA hl.1 (R_name l G h0 a (upd (upd (upd (upd (upd (upd (upd F 15 (nI fa1306)) 16 pl2212) 27 (nI nd20)) 31 (nI wr22)) 64 (nI at1305)) 65 (nI ne)) 66 (nI lk21)) (updA (stR X24 12 nd (nI r23)) 2 K) at1305 T fa1306 K (by omega) (by omega) hK (by omega)) (gV pw_1618 pw_1619 pw_1620 pw_1523 pw_1613) hV_X12_name 0 9 rfl rfl rfl rfl (Nat.le_of_ble_eq_true rfl) dX12_attempt_101 ⟨Nat.le_of_ble_eq_true rfl, Nat.le_of_ble_eq_true rfl⟩ ⟨(by show 5 + 1 ≤ (26 * n + 43); omega), (by show 8 + (2 + 11) + 124 ≤ (2000 * n + 4300); omega)⟩ (fun v2225 u2223 H locs hw2224 hP hD hS => ?_)
            obtain ⟨at2226, fa2227, pl2228⟩ := u2223
            obtain ⟨hw2224, h2229, h2230, h2231, h2232, h2233, h2234, h2235, h2236⟩ := hw2224
            have h2229 : at1305 ≤ at2226 := h2229
            have h2230 : at2226 ≤ T := h2230
            have h2231 : fa1306 ≤ fa2227 := h2231
            have h2232 : fa2227 ≤ 100 := h2232
            have h2233 : If (0 < fa1306) (at2226 = at1305 ∧ fa2227 = fa1306) := h2233
            have h2234 : at2226 ≤ at1305 + 1 := h2234
            have h2235 : at1305 + 1 ≤ at2226 + fa2227 := h2235
            have h2236 : If (fa2227 = 0) (K at1305 = 1) := h2236
            obtain rfl : v2225 = some (.int (nI at1305)) := hw2224
            have hP : va_P G.1 pCl (mW G h0 a (upd (upd (upd (upd (upd (upd (upd F 15 (nI fa2227)) 16 pl2228) 27 (nI nd20)) 31 (nI wr22)) 64 (nI at2226)) 65 (nI ne)) 66 (nI lk21)) (updA (stR X24 12 nd (nI r23)) 2 K)) _ := mW_to (F := F) (l1 := [(15, (nI fa1306)), (16, pl2212), (27, (nI nd20)), (31, (nI wr22)), (64, (nI at1305)), (65, (nI ne)), (66, (nI lk21)), (15, (nI fa2227)), (16, pl2228), (64, (nI at2226))]) (l2 := [(15, (nI fa2227)), (16, pl2228), (27, (nI nd20)), (31, (nI wr22)), (64, (nI at2226)), (65, (nI ne)), (66, (nI lk21))]) (V := [(nI fa2227), pl2228, (nI nd20), (nI wr22), (nI at2226), (nI ne), (nI lk21), (nI fa2227), pl2228, (nI at2226), (nI fa2227), pl2228, (nI nd20), (nI wr22), (nI at2226), (nI ne), (nI lk21)]) rfl rfl (show (updA (updA (stR X24 12 nd (nI r23)) 2 K) 2 K) = (updA (stR X24 12 nd (nI r23)) 2 K) from updsA_eq2 (F := X24) (l1 := [(12, (upd (X24 12) nd (nI r23))), (2, K), (2, K)]) (l2 := [(12, (upd (X24 12) nd (nI r23))), (2, K)]) (V := [(upd (X24 12) nd (nI r23)), K, K, (upd (X24 12) nd (nI r23)), K]) rfl rfl) hP
            have hD : va_D A (mW G h0 a (upd (upd (upd (upd (upd (upd (upd F 15 (nI fa2227)) 16 pl2228) 27 (nI nd20)) 31 (nI wr22)) 64 (nI at2226)) 65 (nI ne)) 66 (nI lk21)) (updA (stR X24 12 nd (nI r23)) 2 K)) := mW_D hD
            refine W.widen (k := 0) (n := 0) (Nat.le_of_ble_eq_true rfl) (Nat.le_of_ble_eq_true rfl) ?_
            refine W.eq (g2 := F0 m 104 ls [.int (nI at1305)]) rfl ?_
            obtain ⟨n2238, n2237⟩ := h2233 e1316
            replace n2238 := n2238.symm
            subst n2238
            replace n2237 := n2237.symm
            subst n2237
            refine lv_istore (lv' := [(5, .int (nI at1305)), (4, .int (nI at1305)), (3, .int (nI (at1289 - 1))), (2, .int (-1)), (1, .int (nI nd)), (0, .ref h0)]) hx hb dX12_attempt_104 hl (by decide) rfl (fun ls hl => ?_)
            refine lv_aload_n hx hb dX12_attempt_106 rfl (lv_at hl 5 rfl) ?_
            refine lv_bipush (v := 41) hx hb dX12_attempt_107 (by decide) ?_
            have hP : va_P G.1 pCl (mW G h0 a (upd (upd (upd (upd (upd (upd (upd (upd (upd F 15 (nI fa1306)) 16 pl2228) 27 (nI nd20)) 31 (nI wr22)) 64 (nI at1305)) 65 (nI ne)) 66 (nI lk21)) 15 (nI fa1306)) 64 (nI at1305)) (updA (updA (stR X24 12 nd (nI r23)) 2 K) 2 K)) _ := hP
            have hD : va_D A (mW G h0 a (upd (upd (upd (upd (upd (upd (upd (upd (upd F 15 (nI fa1306)) 16 pl2228) 27 (nI nd20)) 31 (nI wr22)) 64 (nI at1305)) 65 (nI ne)) 66 (nI lk21)) 15 (nI fa1306)) 64 (nI at1305)) (updA (updA (stR X24 12 nd (nI r23)) 2 K) 2 K)) := mW_D hD
            refine pc_V0 (G := G) (As := [.int 41]) (rest := []) hx hb hml hown hq hE hX pX0_al hP hD hS hA hl.1 (R_take l G h0 a (upd (upd (upd (upd (upd (upd (upd F 15 (nI fa1306)) 16 pl2228) 27 (nI nd20)) 31 (nI wr22)) 64 (nI at1305)) 65 (nI ne)) 66 (nI lk21)) (updA (stR X24 12 nd (nI r23)) 2 K) at1305 T fa1306 K 41 (by omega) (by omega) hK (by omega) (by decide) (by decide)) (gV pw_1614 pw_1615 pw_1616 pw_1523 pw_1601) hV_X12_take 0 9 rfl rfl rfl rfl (Nat.le_of_ble_eq_true rfl) dX12_attempt_109 ⟨Nat.le_of_ble_eq_true rfl, Nat.le_of_ble_eq_true rfl⟩ ⟨(by show 4 + 1 ≤ (26 * n + 43); omega), (by show 8 + (2 + 11) + 103 ≤ (2000 * n + 4300); omega)⟩ (fun v2241 u2239 H locs hw2240 hP hD hS => ?_)
            obtain ⟨at2242, fa2243, pl2244⟩ := u2239
            obtain ⟨hw2240, h2245, h2246, h2247, h2248, h2249, h2250, h2251, h2252⟩ := hw2240
            have h2245 : at1305 ≤ at2242 := h2245
            have h2246 : at2242 ≤ T := h2246
            have h2247 : fa1306 ≤ fa2243 := h2247
            have h2248 : fa2243 ≤ 100 := h2248
            have h2249 : If (0 < fa1306) (at2242 = at1305 ∧ fa2243 = fa1306) := h2249
            have h2250 : at2242 ≤ at1305 + 1 := h2250
            have h2251 : at1305 + 1 ≤ at2242 + fa2243 := h2251
            have h2252 : If (fa2243 = 0) (K at1305 = 41) := h2252
            obtain rfl : v2241 = none := hw2240
            have hP : va_P G.1 pCl (mW G h0 a (upd (upd (upd (upd (upd (upd (upd F 15 (nI fa2243)) 16 pl2244) 27 (nI nd20)) 31 (nI wr22)) 64 (nI at2242)) 65 (nI ne)) 66 (nI lk21)) (updA (stR X24 12 nd (nI r23)) 2 K)) _ := mW_to (F := F) (l1 := [(15, (nI fa1306)), (16, pl2228), (27, (nI nd20)), (31, (nI wr22)), (64, (nI at1305)), (65, (nI ne)), (66, (nI lk21)), (15, (nI fa2243)), (16, pl2244), (64, (nI at2242))]) (l2 := [(15, (nI fa2243)), (16, pl2244), (27, (nI nd20)), (31, (nI wr22)), (64, (nI at2242)), (65, (nI ne)), (66, (nI lk21))]) (V := [(nI fa2243), pl2244, (nI nd20), (nI wr22), (nI at2242), (nI ne), (nI lk21), (nI fa2243), pl2244, (nI at2242), (nI fa2243), pl2244, (nI nd20), (nI wr22), (nI at2242), (nI ne), (nI lk21)]) rfl rfl (show (updA (updA (stR X24 12 nd (nI r23)) 2 K) 2 K) = (updA (stR X24 12 nd (nI r23)) 2 K) from updsA_eq2 (F := X24) (l1 := [(12, (upd (X24 12) nd (nI r23))), (2, K), (2, K)]) (l2 := [(12, (upd (X24 12) nd (nI r23))), (2, K)]) (V := [(upd (X24 12) nd (nI r23)), K, K, (upd (X24 12) nd (nI r23)), K]) rfl rfl) hP
            have hD : va_D A (mW G h0 a (upd (upd (upd (upd (upd (upd (upd F 15 (nI fa2243)) 16 pl2244) 27 (nI nd20)) 31 (nI wr22)) 64 (nI at2242)) 65 (nI ne)) 66 (nI lk21)) (updA (stR X24 12 nd (nI r23)) 2 K)) := mW_D hD
            refine W.widen (k := 0) (n := 0) (Nat.le_of_ble_eq_true rfl) (Nat.le_of_ble_eq_true rfl) ?_
            refine W.eq (g2 := F0 m 112 ls []) rfl ?_
            obtain ⟨n2254, n2253⟩ := h2249 e1316
            replace n2254 := n2254.symm
            subst n2254
            replace n2253 := n2253.symm
            subst n2253
            refine lv_aload_n hx hb dX12_attempt_112 rfl (lv_at hl 5 rfl) ?_
            refine lv_bipush (v := 44) hx hb dX12_attempt_113 (by decide) ?_
            refine lv_iload_n hx hb dX12_attempt_115 rfl (lv_at hl 2 rfl) ?_
            refine lv_iload hx hb dX12_attempt_116 (lv_at hl 0 rfl) ?_
            refine lv_iload hx hb dX12_attempt_118 (lv_at hl 1 rfl) ?_
            refine lv_iconst (v := (-1)) hx hb dX12_attempt_120 (by decide) ?_
            have hP : va_P G.1 pCl (mW G h0 a (upd (upd (upd (upd (upd (upd (upd (upd F 15 (nI fa1306)) 16 pl2244) 27 (nI nd20)) 31 (nI wr22)) 64 (nI at1305)) 65 (nI ne)) 66 (nI lk21)) 27 (nI nd20)) (updA (stR X24 12 nd (nI r23)) 2 K)) _ := hP
            have hD : va_D A (mW G h0 a (upd (upd (upd (upd (upd (upd (upd (upd F 15 (nI fa1306)) 16 pl2244) 27 (nI nd20)) 31 (nI wr22)) 64 (nI at1305)) 65 (nI ne)) 66 (nI lk21)) 27 (nI nd20)) (updA (stR X24 12 nd (nI r23)) 2 K)) := mW_D hD
            refine pc_V0 (G := G) (As := [.int 44, .int (nI (at1289 - 1)), .int (nI at1305), .int (nI at1305), .int (-1)]) (rest := []) hx hb hml hown hq hE hX pX0_al hP hD hS hA hl.1 (R_nodeB l G h0 a (upd (upd (upd (upd (upd (upd (upd F 15 (nI fa1306)) 16 pl2244) 27 (nI nd20)) 31 (nI wr22)) 64 (nI at1305)) 65 (nI ne)) 66 (nI lk21)) (stR X24 12 nd (nI r23)) 44 (nI (at1289 - 1)) (nI at1305) (nI at1305) (-1) nd20 K (by omega)) (gV pw_1650 pw_1651 pw_1652 pw_1523 pw_1589) hV_X12_node 0 9 rfl rfl rfl rfl (Nat.le_of_ble_eq_true rfl) dX12_attempt_121 ⟨Nat.le_of_ble_eq_true rfl, Nat.le_of_ble_eq_true rfl⟩ ⟨(by show 2 + 1 ≤ (26 * n + 43); omega), (by show 8 + (7 + 11) + 60 ≤ (2000 * n + 4300); omega)⟩ (fun v2257 u2255 H locs hw2256 hP hD hS => ?_)
            obtain ⟨X2258, rfl⟩ : ∃ z, z = u2255 := ⟨_, rfl⟩
            obtain ⟨hw2256, h2259⟩ := hw2256
            have h2259 : NewN (stR X24 12 nd (nI r23)) X2258 nd20 44 (nI (at1289 - 1)) (nI at1305) (nI at1305) (-1) := h2259
            obtain rfl : v2257 = some (.int (nI nd20)) := hw2256
            have hP : va_P G.1 pCl (mW G h0 a (upd (upd (upd (upd (upd (upd (upd F 15 (nI fa1306)) 16 pl2244) 27 (nI (nd20 + 1))) 31 (nI wr22)) 64 (nI at1305)) 65 (nI ne)) 66 (nI lk21)) (updA X2258 2 K)) _ := mW_to (F := F) (l1 := [(15, (nI fa1306)), (16, pl2244), (27, (nI nd20)), (31, (nI wr22)), (64, (nI at1305)), (65, (nI ne)), (66, (nI lk21)), (27, (nI (nd20 + 1)))]) (l2 := [(15, (nI fa1306)), (16, pl2244), (27, (nI (nd20 + 1))), (31, (nI wr22)), (64, (nI at1305)), (65, (nI ne)), (66, (nI lk21))]) (V := [(nI fa1306), pl2244, (nI (nd20 + 1)), (nI wr22), (nI at1305), (nI ne), (nI lk21), (nI (nd20 + 1)), (nI fa1306), pl2244, (nI (nd20 + 1)), (nI wr22), (nI at1305), (nI ne), (nI lk21)]) rfl rfl rfl hP
            have hD : va_D A (mW G h0 a (upd (upd (upd (upd (upd (upd (upd F 15 (nI fa1306)) 16 pl2244) 27 (nI (nd20 + 1))) 31 (nI wr22)) 64 (nI at1305)) 65 (nI ne)) 66 (nI lk21)) (updA X2258 2 K)) := mW_D hD
            refine W.widen (k := 0) (n := 0) (Nat.le_of_ble_eq_true rfl) (Nat.le_of_ble_eq_true rfl) ?_
            refine W.eq (g2 := F0 m 124 ls [.int (nI nd20)]) rfl ?_
            have hkp2260 : Kp B X2258 wr22 T := (Kp.new hkp48 h2259)
            refine lv_istore (lv' := [(6, .int (nI nd20)), (5, .int (nI at1305)), (4, .int (nI at1305)), (3, .int (nI (at1289 - 1))), (2, .int (-1)), (1, .int (nI nd)), (0, .ref h0)]) hx hb dX12_attempt_124 hl (by decide) rfl (fun ls hl => ?_)
            refine lv_aload_n hx hb dX12_attempt_126 rfl (lv_at hl 6 rfl) ?_
            refine r_get (v := .ref (a 13)) hx hb hown hq hE hP 21 50 tFX12_21 (by decide) pw_1443 rfl dX12_attempt_127 ?_
            refine lv_iload hx hb dX12_attempt_130 (lv_at hl 0 rfl) ?_
            refine lv_aload_n hx hb dX12_attempt_132 rfl (lv_at hl 6 rfl) ?_
            have hP : va_P G.1 pCl (mW G h0 a (upd (upd (upd (upd (upd (upd (upd (upd (upd (upd (upd F 15 (nI fa1306)) 16 pl2244) 27 (nI (nd20 + 1))) 31 (nI wr22)) 64 (nI at1305)) 65 (nI ne)) 66 (nI lk21)) 15 (nI fa1306)) 27 (nI (nd20 + 1))) 31 (nI wr22)) 64 (nI at1305)) (updA X2258 2 K)) _ := mW_to (F := F) (l1 := [(15, (nI fa1306)), (16, pl2244), (27, (nI (nd20 + 1))), (31, (nI wr22)), (64, (nI at1305)), (65, (nI ne)), (66, (nI lk21))]) (l2 := [(15, (nI fa1306)), (16, pl2244), (27, (nI (nd20 + 1))), (31, (nI wr22)), (64, (nI at1305)), (65, (nI ne)), (66, (nI lk21)), (15, (nI fa1306)), (27, (nI (nd20 + 1))), (31, (nI wr22)), (64, (nI at1305))]) (V := [(nI fa1306), pl2244, (nI (nd20 + 1)), (nI wr22), (nI at1305), (nI ne), (nI lk21), (nI fa1306), pl2244, (nI (nd20 + 1)), (nI wr22), (nI at1305), (nI ne), (nI lk21), (nI fa1306), (nI (nd20 + 1)), (nI wr22), (nI at1305)]) rfl rfl rfl hP
            have hD : va_D A (mW G h0 a (upd (upd (upd (upd (upd (upd (upd (upd (upd (upd (upd F 15 (nI fa1306)) 16 pl2244) 27 (nI (nd20 + 1))) 31 (nI wr22)) 64 (nI at1305)) 65 (nI ne)) 66 (nI lk21)) 15 (nI fa1306)) 27 (nI (nd20 + 1))) 31 (nI wr22)) 64 (nI at1305)) (updA X2258 2 K)) := mW_D hD
            refine pc_V0 (G := G) (As := []) (rest := [.int (nI nd20), .ref (a 13)]) hx hb hml hown hq hE hX pX0_al hP hD hS hA hl.1 (RF_block l G h0 a (upd (upd (upd (upd (upd (upd (upd F 15 (nI fa1306)) 16 pl2244) 27 (nI (nd20 + 1))) 31 (nI wr22)) 64 (nI at1305)) 65 (nI ne)) 66 (nI lk21)) X2258 at1305 T fa1306 (nd20 + 1) wr22 K (by omega) (by omega) hK (by omega) e1316 (by omega) (by omega) (hkp2260).2) (gV pw_1685 pw_1686 pw_1687 pw_1523 pw_1688) hV_X12_block 0 9 rfl rfl rfl rfl (Nat.le_of_ble_eq_true rfl) dX12_attempt_133 ⟨Nat.le_of_ble_eq_true rfl, Nat.le_of_ble_eq_true rfl⟩ ⟨(by show 5 + 1 ≤ (26 * n + 43); omega), (by show 8 + (4 + 11) + 124 ≤ (2000 * n + 4300); omega)⟩ (fun v2263 u2261 H locs hw2262 hP hD hS => ?_)
            obtain ⟨pl2264, wr2265, X2266⟩ := u2261
            obtain ⟨hw2262, h2267, h2268, h2269⟩ := hw2262
            have h2267 : wr22 ≤ wr2265 := h2267
            have h2268 : wr2265 ≤ wr22 := h2268
            have h2269 : Kp X2258 X2266 wr2265 T := h2269
            obtain rfl : v2263 = some (.int (nI (nd20 + 1))) := hw2262
            have hP : va_P G.1 pCl (mW G h0 a (upd (upd (upd (upd (upd (upd (upd F 15 (nI fa1306)) 16 pl2264) 27 (nI ((nd20 + 1) + 1))) 31 (nI wr2265)) 64 (nI at1305)) 65 (nI ne)) 66 (nI lk21)) (updA X2266 2 K)) _ := mW_to (F := F) (l1 := [(15, (nI fa1306)), (16, pl2244), (27, (nI (nd20 + 1))), (31, (nI wr22)), (64, (nI at1305)), (65, (nI ne)), (66, (nI lk21)), (15, (nI fa1306)), (16, pl2264), (27, (nI ((nd20 + 1) + 1))), (31, (nI wr2265)), (64, (nI at1305))]) (l2 := [(15, (nI fa1306)), (16, pl2264), (27, (nI ((nd20 + 1) + 1))), (31, (nI wr2265)), (64, (nI at1305)), (65, (nI ne)), (66, (nI lk21))]) (V := [(nI fa1306), pl2264, (nI ((nd20 + 1) + 1)), (nI wr2265), (nI at1305), (nI ne), (nI lk21), (nI fa1306), pl2264, (nI ((nd20 + 1) + 1)), (nI wr2265), (nI at1305), (nI fa1306), pl2264, (nI ((nd20 + 1) + 1)), (nI wr2265), (nI at1305), (nI ne), (nI lk21)]) rfl rfl rfl hP
            have hD : va_D A (mW G h0 a (upd (upd (upd (upd (upd (upd (upd F 15 (nI fa1306)) 16 pl2264) 27 (nI ((nd20 + 1) + 1))) 31 (nI wr2265)) 64 (nI at1305)) 65 (nI ne)) 66 (nI lk21)) (updA X2266 2 K)) := mW_D hD
            refine W.widen (k := 0) (n := 0) (Nat.le_of_ble_eq_true rfl) (Nat.le_of_ble_eq_true rfl) ?_
            refine W.eq (g2 := F0 m 136 ls [.int (nI (nd20 + 1)), .int (nI nd20), .ref (a 13)]) rfl ?_
            have hkp2270 : Kp B X2266 wr2265 T := (Kp.trans hkp2260 h2269)
            refine r_sti (f := (X2266 13)) (j := nd20) hx hb hE hP hD hS 13 (ma_13 G a _) rfl (mas_13 G a _) (by omega) (by decide) dX12_attempt_136 (fun H locs hP hD hS => ?_)
            have hP : va_P G.1 pCl (mW G h0 a (upd (upd (upd (upd (upd (upd (upd F 15 (nI fa1306)) 16 pl2264) 27 (nI ((nd20 + 1) + 1))) 31 (nI wr2265)) 64 (nI at1305)) 65 (nI ne)) 66 (nI lk21)) (updA (stR X2266 13 nd20 (nI (nd20 + 1))) 2 K)) _ := mW_to (F := F) (l1 := [(15, (nI fa1306)), (16, pl2264), (27, (nI ((nd20 + 1) + 1))), (31, (nI wr2265)), (64, (nI at1305)), (65, (nI ne)), (66, (nI lk21))]) (l2 := [(15, (nI fa1306)), (16, pl2264), (27, (nI ((nd20 + 1) + 1))), (31, (nI wr2265)), (64, (nI at1305)), (65, (nI ne)), (66, (nI lk21))]) (V := [(nI fa1306), pl2264, (nI ((nd20 + 1) + 1)), (nI wr2265), (nI at1305), (nI ne), (nI lk21), (nI fa1306), pl2264, (nI ((nd20 + 1) + 1)), (nI wr2265), (nI at1305), (nI ne), (nI lk21)]) rfl rfl (show (updA (updA X2266 2 K) 13 (upd (X2266 13) nd20 (nI (nd20 + 1)))) = (updA (stR X2266 13 nd20 (nI (nd20 + 1))) 2 K) from updsA_eq2 (F := X2266) (l1 := [(2, K), (13, (upd (X2266 13) nd20 (nI (nd20 + 1))))]) (l2 := [(13, (upd (X2266 13) nd20 (nI (nd20 + 1)))), (2, K)]) (V := [K, (upd (X2266 13) nd20 (nI (nd20 + 1))), (upd (X2266 13) nd20 (nI (nd20 + 1))), K]) rfl rfl) hP
            have hD : va_D A (mW G h0 a (upd (upd (upd (upd (upd (upd (upd F 15 (nI fa1306)) 16 pl2264) 27 (nI ((nd20 + 1) + 1))) 31 (nI wr2265)) 64 (nI at1305)) 65 (nI ne)) 66 (nI lk21)) (updA (stR X2266 13 nd20 (nI (nd20 + 1))) 2 K)) := mW_D hD
            have hkp2271 : Kp B (stR X2266 13 nd20 (nI (nd20 + 1))) wr2265 T := (Kp.row hkp2270 (by omega))
            refine lv_iload_n hx hb dX12_attempt_137 rfl (lv_at hl 4 rfl) ?_
            refine lv_iconst (v := (-1)) hx hb dX12_attempt_138 (by decide) ?_
            refine lv_icmp_ne (tgt := 153) hx hb dX12_attempt_139 (by decide) (fun c2272 => absurd c2272 (by decide)) (fun c2272 => ?_)
            refine lv_aload_n hx hb dX12_attempt_142 rfl (lv_at hl 6 rfl) ?_
            refine r_get (v := .ref (a 13)) hx hb hown hq hE hP 21 50 tFX12_21 (by decide) pw_1443 rfl dX12_attempt_143 ?_
            refine lv_iload_n hx hb dX12_attempt_146 rfl (lv_at hl 5 rfl) ?_
            refine lv_iload hx hb dX12_attempt_147 (lv_at hl 0 rfl) ?_
            refine r_sti (f := ((stR X2266 13 nd20 (nI (nd20 + 1))) 13)) (j := nd) hx hb hE hP hD hS 13 (ma_13 G a _) rfl (mas_13 G a _) (by omega) (by decide) dX12_attempt_149 (fun H locs hP hD hS => ?_)
            have hP : va_P G.1 pCl (mW G h0 a (upd (upd (upd (upd (upd (upd (upd F 15 (nI fa1306)) 16 pl2264) 27 (nI ((nd20 + 1) + 1))) 31 (nI wr2265)) 64 (nI at1305)) 65 (nI ne)) 66 (nI lk21)) (updA (stR (stR X2266 13 nd20 (nI (nd20 + 1))) 13 nd (nI nd20)) 2 K)) _ := mW_to (F := F) (l1 := [(15, (nI fa1306)), (16, pl2264), (27, (nI ((nd20 + 1) + 1))), (31, (nI wr2265)), (64, (nI at1305)), (65, (nI ne)), (66, (nI lk21))]) (l2 := [(15, (nI fa1306)), (16, pl2264), (27, (nI ((nd20 + 1) + 1))), (31, (nI wr2265)), (64, (nI at1305)), (65, (nI ne)), (66, (nI lk21))]) (V := [(nI fa1306), pl2264, (nI ((nd20 + 1) + 1)), (nI wr2265), (nI at1305), (nI ne), (nI lk21), (nI fa1306), pl2264, (nI ((nd20 + 1) + 1)), (nI wr2265), (nI at1305), (nI ne), (nI lk21)]) rfl rfl (show (updA (updA (stR X2266 13 nd20 (nI (nd20 + 1))) 2 K) 13 (upd ((stR X2266 13 nd20 (nI (nd20 + 1))) 13) nd (nI nd20))) = (updA (stR (stR X2266 13 nd20 (nI (nd20 + 1))) 13 nd (nI nd20)) 2 K) from updsA_eq2 (F := X2266) (l1 := [(13, (upd (X2266 13) nd20 (nI (nd20 + 1)))), (2, K), (13, (upd ((stR X2266 13 nd20 (nI (nd20 + 1))) 13) nd (nI nd20)))]) (l2 := [(13, (upd (X2266 13) nd20 (nI (nd20 + 1)))), (13, (upd ((stR X2266 13 nd20 (nI (nd20 + 1))) 13) nd (nI nd20))), (2, K)]) (V := [(upd ((stR X2266 13 nd20 (nI (nd20 + 1))) 13) nd (nI nd20)), K, (upd ((stR X2266 13 nd20 (nI (nd20 + 1))) 13) nd (nI nd20)), (upd ((stR X2266 13 nd20 (nI (nd20 + 1))) 13) nd (nI nd20)), (upd ((stR X2266 13 nd20 (nI (nd20 + 1))) 13) nd (nI nd20)), K]) rfl rfl) hP
            have hD : va_D A (mW G h0 a (upd (upd (upd (upd (upd (upd (upd F 15 (nI fa1306)) 16 pl2264) 27 (nI ((nd20 + 1) + 1))) 31 (nI wr2265)) 64 (nI at1305)) 65 (nI ne)) 66 (nI lk21)) (updA (stR (stR X2266 13 nd20 (nI (nd20 + 1))) 13 nd (nI nd20)) 2 K)) := mW_D hD
            have hkp2273 : Kp B (stR (stR X2266 13 nd20 (nI (nd20 + 1))) 13 nd (nI nd20)) wr2265 T := (Kp.row hkp2271 (by omega))
            refine lv_goto (tgt := 161) hx hb dX12_attempt_150 (by decide) ?_
            refine lv_iload hx hb dX12_attempt_161 (lv_at hl 0 rfl) ?_
            refine lv_istore_n (lv' := [(2, .int (nI nd20)), (6, .int (nI nd20)), (5, .int (nI at1305)), (4, .int (nI at1305)), (3, .int (nI (at1289 - 1))), (1, .int (nI nd)), (0, .ref h0)]) hx hb dX12_attempt_163 rfl hl (by decide) rfl (fun ls hl => ?_)
            refine lv_goto (tgt := 71) hx hb dX12_attempt_164 (by decide) ?_
            refine lv_aload_n hx hb dX12_attempt_71 rfl (lv_at hl 6 rfl) ?_
            refine lv_sipush (v := 313) hx hb dX12_attempt_72 (by decide) ?_
            have hP : va_P G.1 pCl (mW G h0 a (upd (upd (upd (upd (upd (upd (upd (upd (upd F 15 (nI fa1306)) 16 pl2264) 27 (nI ((nd20 + 1) + 1))) 31 (nI wr2265)) 64 (nI at1305)) 65 (nI ne)) 66 (nI lk21)) 15 (nI fa1306)) 64 (nI at1305)) (updA (updA (stR (stR X2266 13 nd20 (nI (nd20 + 1))) 13 nd (nI nd20)) 2 K) 2 K)) _ := mW_to (F := F) (l1 := [(15, (nI fa1306)), (16, pl2264), (27, (nI ((nd20 + 1) + 1))), (31, (nI wr2265)), (64, (nI at1305)), (65, (nI ne)), (66, (nI lk21))]) (l2 := [(15, (nI fa1306)), (16, pl2264), (27, (nI ((nd20 + 1) + 1))), (31, (nI wr2265)), (64, (nI at1305)), (65, (nI ne)), (66, (nI lk21)), (15, (nI fa1306)), (64, (nI at1305))]) (V := [(nI fa1306), pl2264, (nI ((nd20 + 1) + 1)), (nI wr2265), (nI at1305), (nI ne), (nI lk21), (nI fa1306), pl2264, (nI ((nd20 + 1) + 1)), (nI wr2265), (nI at1305), (nI ne), (nI lk21), (nI fa1306), (nI at1305)]) rfl rfl (show (updA (stR (stR X2266 13 nd20 (nI (nd20 + 1))) 13 nd (nI nd20)) 2 K) = (updA (updA (stR (stR X2266 13 nd20 (nI (nd20 + 1))) 13 nd (nI nd20)) 2 K) 2 K) from updsA_eq2 (F := X2266) (l1 := [(13, (upd (X2266 13) nd20 (nI (nd20 + 1)))), (13, (upd ((stR X2266 13 nd20 (nI (nd20 + 1))) 13) nd (nI nd20))), (2, K)]) (l2 := [(13, (upd (X2266 13) nd20 (nI (nd20 + 1)))), (13, (upd ((stR X2266 13 nd20 (nI (nd20 + 1))) 13) nd (nI nd20))), (2, K), (2, K)]) (V := [(upd ((stR X2266 13 nd20 (nI (nd20 + 1))) 13) nd (nI nd20)), (upd ((stR X2266 13 nd20 (nI (nd20 + 1))) 13) nd (nI nd20)), K, (upd ((stR X2266 13 nd20 (nI (nd20 + 1))) 13) nd (nI nd20)), (upd ((stR X2266 13 nd20 (nI (nd20 + 1))) 13) nd (nI nd20)), K, K]) rfl rfl) hP
            have hD : va_D A (mW G h0 a (upd (upd (upd (upd (upd (upd (upd (upd (upd F 15 (nI fa1306)) 16 pl2264) 27 (nI ((nd20 + 1) + 1))) 31 (nI wr2265)) 64 (nI at1305)) 65 (nI ne)) 66 (nI lk21)) 15 (nI fa1306)) 64 (nI at1305)) (updA (updA (stR (stR X2266 13 nd20 (nI (nd20 + 1))) 13 nd (nI nd20)) 2 K) 2 K)) := mW_D hD
            refine pc_V0 (G := G) (As := [.int 313]) (rest := []) hx hb hml hown hq hE hX pX0_al hP hD hS hA hl.1 (R_may l G h0 a (upd (upd (upd (upd (upd (upd (upd F 15 (nI fa1306)) 16 pl2264) 27 (nI ((nd20 + 1) + 1))) 31 (nI wr2265)) 64 (nI at1305)) 65 (nI ne)) 66 (nI lk21)) (updA (stR (stR X2266 13 nd20 (nI (nd20 + 1))) 13 nd (nI nd20)) 2 K) at1305 T fa1306 K 313 (by omega) (by omega) hK (by omega) (by decide) (by decide)) (gV pw_1621 pw_1622 pw_1623 pw_1523 pw_1605) hV_X12_may 0 9 rfl rfl rfl rfl (Nat.le_of_ble_eq_true rfl) dX12_attempt_75 ⟨Nat.le_of_ble_eq_true rfl, Nat.le_of_ble_eq_true rfl⟩ ⟨(by show 3 + 1 ≤ (26 * n + 43); omega), (by show 8 + (3 + 11) + 81 ≤ (2000 * n + 4300); omega)⟩ (fun v2276 u2274 H locs hw2275 hP hD hS => ?_)
            obtain ⟨at2277, r2278⟩ := u2274
            obtain ⟨hw2275, h2279, h2280, h2281, h2282, h2283, h2284⟩ := hw2275
            have h2279 : r2278 ≤ 1 := h2279
            have h2280 : fa1306 + 100 * r2278 ≤ 100 := h2280
            have h2281 : at2277 = at1305 + r2278 := h2281
            have h2282 : at2277 ≤ T := h2282
            have h2283 : If (r2278 = 1) (K at1305 = 313) := h2283
            have h2284 : If (r2278 = 0) (fa1306 = 0 → ¬ K at1305 = 313) := h2284
            obtain rfl : v2276 = some (.int (nI r2278)) := hw2275
            have hP : va_P G.1 pCl (mW G h0 a (upd (upd (upd (upd (upd (upd (upd F 15 (nI fa1306)) 16 pl2264) 27 (nI ((nd20 + 1) + 1))) 31 (nI wr2265)) 64 (nI at2277)) 65 (nI ne)) 66 (nI lk21)) (updA (stR (stR X2266 13 nd20 (nI (nd20 + 1))) 13 nd (nI nd20)) 2 K)) _ := mW_to (F := F) (l1 := [(15, (nI fa1306)), (16, pl2264), (27, (nI ((nd20 + 1) + 1))), (31, (nI wr2265)), (64, (nI at1305)), (65, (nI ne)), (66, (nI lk21)), (15, (nI fa1306)), (64, (nI at2277))]) (l2 := [(15, (nI fa1306)), (16, pl2264), (27, (nI ((nd20 + 1) + 1))), (31, (nI wr2265)), (64, (nI at2277)), (65, (nI ne)), (66, (nI lk21))]) (V := [(nI fa1306), pl2264, (nI ((nd20 + 1) + 1)), (nI wr2265), (nI at2277), (nI ne), (nI lk21), (nI fa1306), (nI at2277), (nI fa1306), pl2264, (nI ((nd20 + 1) + 1)), (nI wr2265), (nI at2277), (nI ne), (nI lk21)]) rfl rfl (show (updA (updA (stR (stR X2266 13 nd20 (nI (nd20 + 1))) 13 nd (nI nd20)) 2 K) 2 K) = (updA (stR (stR X2266 13 nd20 (nI (nd20 + 1))) 13 nd (nI nd20)) 2 K) from updsA_eq2 (F := X2266) (l1 := [(13, (upd (X2266 13) nd20 (nI (nd20 + 1)))), (13, (upd ((stR X2266 13 nd20 (nI (nd20 + 1))) 13) nd (nI nd20))), (2, K), (2, K)]) (l2 := [(13, (upd (X2266 13) nd20 (nI (nd20 + 1)))), (13, (upd ((stR X2266 13 nd20 (nI (nd20 + 1))) 13) nd (nI nd20))), (2, K)]) (V := [(upd ((stR X2266 13 nd20 (nI (nd20 + 1))) 13) nd (nI nd20)), (upd ((stR X2266 13 nd20 (nI (nd20 + 1))) 13) nd (nI nd20)), K, K, (upd ((stR X2266 13 nd20 (nI (nd20 + 1))) 13) nd (nI nd20)), (upd ((stR X2266 13 nd20 (nI (nd20 + 1))) 13) nd (nI nd20)), K]) rfl rfl) hP
            have hD : va_D A (mW G h0 a (upd (upd (upd (upd (upd (upd (upd F 15 (nI fa1306)) 16 pl2264) 27 (nI ((nd20 + 1) + 1))) 31 (nI wr2265)) 64 (nI at2277)) 65 (nI ne)) 66 (nI lk21)) (updA (stR (stR X2266 13 nd20 (nI (nd20 + 1))) 13 nd (nI nd20)) 2 K)) := mW_D hD
            refine W.widen (k := 0) (n := 0) (Nat.le_of_ble_eq_true rfl) (Nat.le_of_ble_eq_true rfl) ?_
            refine W.eq (g2 := F0 m 78 ls [.int (nI r2278)]) rfl ?_
            obtain rfl : at1305 = at2277 := (by omega)
            refine lv_if_eq (tgt := 167) hx hb dX12_attempt_78 (by decide) (fun c2285 => ?_) (fun c2285 => (by have n2286 : ¬ (r2278 = 0) := fun h9 => c2285 ((nI_eq (a := r2278) (b := 0) (by omega) (by omega)).mpr h9); omega))
            refine lv_aload_n hx hb dX12_attempt_167 rfl (lv_at hl 6 rfl) ?_
            refine lv_sipush (v := 319) hx hb dX12_attempt_168 (by decide) ?_
            have hP : va_P G.1 pCl (mW G h0 a (upd (upd (upd (upd (upd (upd (upd (upd (upd F 15 (nI fa1306)) 16 pl2264) 27 (nI ((nd20 + 1) + 1))) 31 (nI wr2265)) 64 (nI at1305)) 65 (nI ne)) 66 (nI lk21)) 15 (nI fa1306)) 64 (nI at1305)) (updA (updA (stR (stR X2266 13 nd20 (nI (nd20 + 1))) 13 nd (nI nd20)) 2 K) 2 K)) _ := hP
            have hD : va_D A (mW G h0 a (upd (upd (upd (upd (upd (upd (upd (upd (upd F 15 (nI fa1306)) 16 pl2264) 27 (nI ((nd20 + 1) + 1))) 31 (nI wr2265)) 64 (nI at1305)) 65 (nI ne)) 66 (nI lk21)) 15 (nI fa1306)) 64 (nI at1305)) (updA (updA (stR (stR X2266 13 nd20 (nI (nd20 + 1))) 13 nd (nI nd20)) 2 K) 2 K)) := mW_D hD
            refine pc_V0 (G := G) (As := [.int 319]) (rest := []) hx hb hml hown hq hE hX pX0_al hP hD hS hA hl.1 (R_may l G h0 a (upd (upd (upd (upd (upd (upd (upd F 15 (nI fa1306)) 16 pl2264) 27 (nI ((nd20 + 1) + 1))) 31 (nI wr2265)) 64 (nI at1305)) 65 (nI ne)) 66 (nI lk21)) (updA (stR (stR X2266 13 nd20 (nI (nd20 + 1))) 13 nd (nI nd20)) 2 K) at1305 T fa1306 K 319 (by omega) (by omega) hK (by omega) (by decide) (by decide)) (gV pw_1621 pw_1622 pw_1623 pw_1523 pw_1605) hV_X12_may 0 9 rfl rfl rfl rfl (Nat.le_of_ble_eq_true rfl) dX12_attempt_171 ⟨Nat.le_of_ble_eq_true rfl, Nat.le_of_ble_eq_true rfl⟩ ⟨(by show 3 + 1 ≤ (26 * n + 43); omega), (by show 8 + (3 + 11) + 81 ≤ (2000 * n + 4300); omega)⟩ (fun v2289 u2287 H locs hw2288 hP hD hS => ?_)
            obtain ⟨at2290, r2291⟩ := u2287
            obtain ⟨hw2288, h2292, h2293, h2294, h2295, h2296, h2297⟩ := hw2288
            have h2292 : r2291 ≤ 1 := h2292
            have h2293 : fa1306 + 100 * r2291 ≤ 100 := h2293
            have h2294 : at2290 = at1305 + r2291 := h2294
            have h2295 : at2290 ≤ T := h2295
            have h2296 : If (r2291 = 1) (K at1305 = 319) := h2296
            have h2297 : If (r2291 = 0) (fa1306 = 0 → ¬ K at1305 = 319) := h2297
            obtain rfl : v2289 = some (.int (nI r2291)) := hw2288
            have hP : va_P G.1 pCl (mW G h0 a (upd (upd (upd (upd (upd (upd (upd F 15 (nI fa1306)) 16 pl2264) 27 (nI ((nd20 + 1) + 1))) 31 (nI wr2265)) 64 (nI at2290)) 65 (nI ne)) 66 (nI lk21)) (updA (stR (stR X2266 13 nd20 (nI (nd20 + 1))) 13 nd (nI nd20)) 2 K)) _ := mW_to (F := F) (l1 := [(15, (nI fa1306)), (16, pl2264), (27, (nI ((nd20 + 1) + 1))), (31, (nI wr2265)), (64, (nI at1305)), (65, (nI ne)), (66, (nI lk21)), (15, (nI fa1306)), (64, (nI at2290))]) (l2 := [(15, (nI fa1306)), (16, pl2264), (27, (nI ((nd20 + 1) + 1))), (31, (nI wr2265)), (64, (nI at2290)), (65, (nI ne)), (66, (nI lk21))]) (V := [(nI fa1306), pl2264, (nI ((nd20 + 1) + 1)), (nI wr2265), (nI at2290), (nI ne), (nI lk21), (nI fa1306), (nI at2290), (nI fa1306), pl2264, (nI ((nd20 + 1) + 1)), (nI wr2265), (nI at2290), (nI ne), (nI lk21)]) rfl rfl (show (updA (updA (stR (stR X2266 13 nd20 (nI (nd20 + 1))) 13 nd (nI nd20)) 2 K) 2 K) = (updA (stR (stR X2266 13 nd20 (nI (nd20 + 1))) 13 nd (nI nd20)) 2 K) from updsA_eq2 (F := X2266) (l1 := [(13, (upd (X2266 13) nd20 (nI (nd20 + 1)))), (13, (upd ((stR X2266 13 nd20 (nI (nd20 + 1))) 13) nd (nI nd20))), (2, K), (2, K)]) (l2 := [(13, (upd (X2266 13) nd20 (nI (nd20 + 1)))), (13, (upd ((stR X2266 13 nd20 (nI (nd20 + 1))) 13) nd (nI nd20))), (2, K)]) (V := [(upd ((stR X2266 13 nd20 (nI (nd20 + 1))) 13) nd (nI nd20)), (upd ((stR X2266 13 nd20 (nI (nd20 + 1))) 13) nd (nI nd20)), K, K, (upd ((stR X2266 13 nd20 (nI (nd20 + 1))) 13) nd (nI nd20)), (upd ((stR X2266 13 nd20 (nI (nd20 + 1))) 13) nd (nI nd20)), K]) rfl rfl) hP
            have hD : va_D A (mW G h0 a (upd (upd (upd (upd (upd (upd (upd F 15 (nI fa1306)) 16 pl2264) 27 (nI ((nd20 + 1) + 1))) 31 (nI wr2265)) 64 (nI at2290)) 65 (nI ne)) 66 (nI lk21)) (updA (stR (stR X2266 13 nd20 (nI (nd20 + 1))) 13 nd (nI nd20)) 2 K)) := mW_D hD
            refine W.widen (k := 0) (n := 0) (Nat.le_of_ble_eq_true rfl) (Nat.le_of_ble_eq_true rfl) ?_
            refine W.eq (g2 := F0 m 174 ls [.int (nI r2291)]) rfl ?_
            obtain rfl : at1305 = at2290 := (by omega)
            refine lv_if_eq (tgt := 187) hx hb dX12_attempt_174 (by decide) (fun c2298 => ?_) (fun c2298 => (by have n2299 : ¬ (r2291 = 0) := fun h9 => c2298 ((nI_eq (a := r2291) (b := 0) (by omega) (by omega)).mpr h9); omega))
            refine lv_iload_n hx hb dX12_attempt_187 rfl (lv_at hl 5 rfl) ?_
            have hz2300 : at0 ≤ at1305 := (by omega)
            have hz2301 : at1305 ≤ T := (by omega)
            have hz2302 : fa1306 ≤ 100 := (by omega)
            have hz2303 : nd ≤ ((nd20 + 1) + 1) := (by omega)
            have hz2304 : ((nd20 + 1) + 1) + 2 * at0 ≤ nd + 2 * at1305 + 100000 * fa1306 := (by omega)
            have hz2305 : ((nd20 + 1) + 1) + 2 * at0 ≤ nd + 2 * at1305 + (60 * (21 - ne) + 40) := (by omega)
            have hz2306 : wr ≤ wr2265 := (by omega)
            have hz2307 : wr2265 + at0 ≤ wr + at1305 := (by omega)
            have hz2308 : lk ≤ lk21 := (by omega)
            have hz2309 : lk21 ≤ 60 + 100 * fa1306 := (by omega)
            have hz2310 : at0 + 1 ≤ at1305 + fa1306 := (by omega)
            have hz2311 : nd ≤ ((nd20 + 1) + 1) := (by omega)
            have hz2312 : Kp B (stR (stR X2266 13 nd20 (nI (nd20 + 1))) 13 nd (nI nd20)) wr2265 T := hkp2273
            have hz2313 : If (fa1306 = 0) (Low B (stR (stR X2266 13 nd20 (nI (nd20 + 1))) 13 nd (nI nd20)) nd wr ∧ Frs K T wr2265 (stR (stR X2266 13 nd20 (nI (nd20 + 1))) 13 nd (nI nd20)) nd ((nd20 + 1) + 1) 20000 [(nd, (280 + 4 * (21 - ne)))] ∧ kcl 3 ((stR (stR X2266 13 nd20 (nI (nd20 + 1))) 13 nd (nI nd20)) 9 nd) = true) := (fun e => absurd e (by omega))
            have hP : va_P G.1 pCl (mW G h0 a (upd (upd (upd (upd (upd (upd (upd F 15 (nI fa1306)) 16 pl2264) 27 (nI ((nd20 + 1) + 1))) 31 (nI wr2265)) 64 (nI at1305)) 65 (nI ne)) 66 (nI lk21)) (updA (stR (stR X2266 13 nd20 (nI (nd20 + 1))) 13 nd (nI nd20)) 2 K)) _ := hP
            have hD : va_D A (mW G h0 a (upd (upd (upd (upd (upd (upd (upd F 15 (nI fa1306)) 16 pl2264) 27 (nI ((nd20 + 1) + 1))) 31 (nI wr2265)) 64 (nI at1305)) 65 (nI ne)) 66 (nI lk21)) (updA (stR (stR X2266 13 nd20 (nI (nd20 + 1))) 13 nd (nI nd20)) 2 K)) := mW_D hD
            exact W.iret (v := (nI nd)) hx hb hr (fun t9 ht9 hW9 => ⟨⟨_, (at1305, fa1306, pl2264, ((nd20 + 1) + 1), lk21, wr2265, nd, (stR (stR X2266 13 nd20 (nI (nd20 + 1))) 13 nd (nI nd20))), rfl, ⟨rfl, hz2300, hz2301, hz2302, hz2303, hz2304, hz2305, hz2306, hz2307, hz2308, hz2309, hz2310, hz2311, hz2312, hz2313⟩, by rw [ht9]; exact hP, hD⟩, hS.F ht9⟩) hS.2.2 dX12_attempt_188
      · refine lv_aload_n hx hb dX12_attempt_64 rfl (lv_at hl 1 rfl) ?_
        refine lv_iconst (v := 1) hx hb dX12_attempt_65 (by decide) ?_
        have hP : va_P G.1 pCl (mW G h0 a (upd (upd (upd (upd (upd (upd (upd (upd (upd F 15 0) 16 pl19) 27 (nI nd20)) 31 (nI wr22)) 64 (nI at17)) 65 (nI ne)) 66 (nI lk21)) 15 (nI 0)) 64 (nI at17)) (updA (updA (stR X24 12 nd (nI r23)) 2 K) 2 K)) _ := mW_to (F := F) (l1 := [(15, 0), (16, pl19), (27, (nI nd20)), (31, (nI wr22)), (64, (nI at17)), (65, (nI ne)), (66, (nI lk21))]) (l2 := [(15, 0), (16, pl19), (27, (nI nd20)), (31, (nI wr22)), (64, (nI at17)), (65, (nI ne)), (66, (nI lk21)), (15, (nI 0)), (64, (nI at17))]) (V := [(nI 0), pl19, (nI nd20), (nI wr22), (nI at17), (nI ne), (nI lk21), (nI 0), pl19, (nI nd20), (nI wr22), (nI at17), (nI ne), (nI lk21), (nI 0), (nI at17)]) rfl rfl (show (updA (stR X24 12 nd (nI r23)) 2 K) = (updA (updA (stR X24 12 nd (nI r23)) 2 K) 2 K) from updsA_eq2 (F := X24) (l1 := [(12, (upd (X24 12) nd (nI r23))), (2, K)]) (l2 := [(12, (upd (X24 12) nd (nI r23))), (2, K), (2, K)]) (V := [(upd (X24 12) nd (nI r23)), K, (upd (X24 12) nd (nI r23)), K, K]) rfl rfl) hP
        have hD : va_D A (mW G h0 a (upd (upd (upd (upd (upd (upd (upd (upd (upd F 15 0) 16 pl19) 27 (nI nd20)) 31 (nI wr22)) 64 (nI at17)) 65 (nI ne)) 66 (nI lk21)) 15 (nI 0)) 64 (nI at17)) (updA (updA (stR X24 12 nd (nI r23)) 2 K) 2 K)) := mW_D hD
        refine pc_V0 (G := G) (As := [.int (nI 1)]) (rest := []) hx hb hml hown hq hE hX pX0_al hP hD hS hA hl.1 (R_bad l G h0 a (upd (upd (upd (upd (upd (upd (upd F 15 0) 16 pl19) 27 (nI nd20)) 31 (nI wr22)) 64 (nI at17)) 65 (nI ne)) 66 (nI lk21)) (updA (stR X24 12 nd (nI r23)) 2 K) at17 T 0 K 1 (by omega) (by omega) hK (by omega) (by omega) (by omega)) (gV pw_1602 pw_1603 pw_1604 pw_1523 pw_1596) hV_X12_bad 0 9 rfl rfl rfl rfl (Nat.le_of_ble_eq_true rfl) dX12_attempt_66 ⟨Nat.le_of_ble_eq_true rfl, Nat.le_of_ble_eq_true rfl⟩ ⟨(by show 3 + 1 ≤ (26 * n + 43); omega), (by show 8 + (2 + 11) + 82 ≤ (2000 * n + 4300); omega)⟩ (fun v2316 u2314 H locs hw2315 hP hD hS => ?_)
        obtain ⟨fa2317, pl2318⟩ := u2314
        obtain ⟨hw2315, h2319, h2320, h2321, h2322⟩ := hw2315
        have h2319 : 0 ≤ fa2317 := h2319
        have h2320 : fa2317 ≤ 0 + 1 := h2320
        have h2321 : 0 < fa2317 := h2321
        have h2322 : If (0 < 0) (fa2317 = 0) := h2322
        obtain rfl : v2316 = none := hw2315
        have hP : va_P G.1 pCl (mW G h0 a (upd (upd (upd (upd (upd (upd (upd F 15 (nI fa2317)) 16 pl2318) 27 (nI nd20)) 31 (nI wr22)) 64 (nI at17)) 65 (nI ne)) 66 (nI lk21)) (updA (stR X24 12 nd (nI r23)) 2 K)) _ := mW_to (F := F) (l1 := [(15, 0), (16, pl19), (27, (nI nd20)), (31, (nI wr22)), (64, (nI at17)), (65, (nI ne)), (66, (nI lk21)), (15, (nI fa2317)), (16, pl2318), (64, (nI at17))]) (l2 := [(15, (nI fa2317)), (16, pl2318), (27, (nI nd20)), (31, (nI wr22)), (64, (nI at17)), (65, (nI ne)), (66, (nI lk21))]) (V := [(nI fa2317), pl2318, (nI nd20), (nI wr22), (nI at17), (nI ne), (nI lk21), (nI fa2317), pl2318, (nI at17), (nI fa2317), pl2318, (nI nd20), (nI wr22), (nI at17), (nI ne), (nI lk21)]) rfl rfl (show (updA (updA (stR X24 12 nd (nI r23)) 2 K) 2 K) = (updA (stR X24 12 nd (nI r23)) 2 K) from updsA_eq2 (F := X24) (l1 := [(12, (upd (X24 12) nd (nI r23))), (2, K), (2, K)]) (l2 := [(12, (upd (X24 12) nd (nI r23))), (2, K)]) (V := [(upd (X24 12) nd (nI r23)), K, K, (upd (X24 12) nd (nI r23)), K]) rfl rfl) hP
        have hD : va_D A (mW G h0 a (upd (upd (upd (upd (upd (upd (upd F 15 (nI fa2317)) 16 pl2318) 27 (nI nd20)) 31 (nI wr22)) 64 (nI at17)) 65 (nI ne)) 66 (nI lk21)) (updA (stR X24 12 nd (nI r23)) 2 K)) := mW_D hD
        refine W.widen (k := 0) (n := 0) (Nat.le_of_ble_eq_true rfl) (Nat.le_of_ble_eq_true rfl) ?_
        refine W.eq (g2 := F0 m 69 ls []) rfl ?_
        refine lv_iconst (v := (-1)) hx hb dX12_attempt_69 (by decide) ?_
        refine lv_istore_n (lv' := [(2, .int (-1)), (1, .int (nI nd)), (0, .ref h0)]) hx hb dX12_attempt_70 rfl hl (by decide) rfl (fun ls hl => ?_)
        refine lv_aload_n hx hb dX12_attempt_71 rfl (lv_at hl 2 rfl) ?_
        refine lv_sipush (v := 313) hx hb dX12_attempt_72 (by decide) ?_
        have hP : va_P G.1 pCl (mW G h0 a (upd (upd (upd (upd (upd (upd (upd (upd (upd F 15 (nI fa2317)) 16 pl2318) 27 (nI nd20)) 31 (nI wr22)) 64 (nI at17)) 65 (nI ne)) 66 (nI lk21)) 15 (nI fa2317)) 64 (nI at17)) (updA (updA (stR X24 12 nd (nI r23)) 2 K) 2 K)) _ := mW_to (F := F) (l1 := [(15, (nI fa2317)), (16, pl2318), (27, (nI nd20)), (31, (nI wr22)), (64, (nI at17)), (65, (nI ne)), (66, (nI lk21))]) (l2 := [(15, (nI fa2317)), (16, pl2318), (27, (nI nd20)), (31, (nI wr22)), (64, (nI at17)), (65, (nI ne)), (66, (nI lk21)), (15, (nI fa2317)), (64, (nI at17))]) (V := [(nI fa2317), pl2318, (nI nd20), (nI wr22), (nI at17), (nI ne), (nI lk21), (nI fa2317), pl2318, (nI nd20), (nI wr22), (nI at17), (nI ne), (nI lk21), (nI fa2317), (nI at17)]) rfl rfl (show (updA (stR X24 12 nd (nI r23)) 2 K) = (updA (updA (stR X24 12 nd (nI r23)) 2 K) 2 K) from updsA_eq2 (F := X24) (l1 := [(12, (upd (X24 12) nd (nI r23))), (2, K)]) (l2 := [(12, (upd (X24 12) nd (nI r23))), (2, K), (2, K)]) (V := [(upd (X24 12) nd (nI r23)), K, (upd (X24 12) nd (nI r23)), K, K]) rfl rfl) hP
        have hD : va_D A (mW G h0 a (upd (upd (upd (upd (upd (upd (upd (upd (upd F 15 (nI fa2317)) 16 pl2318) 27 (nI nd20)) 31 (nI wr22)) 64 (nI at17)) 65 (nI ne)) 66 (nI lk21)) 15 (nI fa2317)) 64 (nI at17)) (updA (updA (stR X24 12 nd (nI r23)) 2 K) 2 K)) := mW_D hD
        refine pc_V0 (G := G) (As := [.int 313]) (rest := []) hx hb hml hown hq hE hX pX0_al hP hD hS hA hl.1 (R_may l G h0 a (upd (upd (upd (upd (upd (upd (upd F 15 (nI fa2317)) 16 pl2318) 27 (nI nd20)) 31 (nI wr22)) 64 (nI at17)) 65 (nI ne)) 66 (nI lk21)) (updA (stR X24 12 nd (nI r23)) 2 K) at17 T fa2317 K 313 (by omega) (by omega) hK (by omega) (by decide) (by decide)) (gV pw_1621 pw_1622 pw_1623 pw_1523 pw_1605) hV_X12_may 0 9 rfl rfl rfl rfl (Nat.le_of_ble_eq_true rfl) dX12_attempt_75 ⟨Nat.le_of_ble_eq_true rfl, Nat.le_of_ble_eq_true rfl⟩ ⟨(by show 3 + 1 ≤ (26 * n + 43); omega), (by show 8 + (3 + 11) + 81 ≤ (2000 * n + 4300); omega)⟩ (fun v2325 u2323 H locs hw2324 hP hD hS => ?_)
        obtain ⟨at2326, r2327⟩ := u2323
        obtain ⟨hw2324, h2328, h2329, h2330, h2331, h2332, h2333⟩ := hw2324
        have h2328 : r2327 ≤ 1 := h2328
        have h2329 : fa2317 + 100 * r2327 ≤ 100 := h2329
        have h2330 : at2326 = at17 + r2327 := h2330
        have h2331 : at2326 ≤ T := h2331
        have h2332 : If (r2327 = 1) (K at17 = 313) := h2332
        have h2333 : If (r2327 = 0) (fa2317 = 0 → ¬ K at17 = 313) := h2333
        obtain rfl : v2325 = some (.int (nI r2327)) := hw2324
        have hP : va_P G.1 pCl (mW G h0 a (upd (upd (upd (upd (upd (upd (upd F 15 (nI fa2317)) 16 pl2318) 27 (nI nd20)) 31 (nI wr22)) 64 (nI at2326)) 65 (nI ne)) 66 (nI lk21)) (updA (stR X24 12 nd (nI r23)) 2 K)) _ := mW_to (F := F) (l1 := [(15, (nI fa2317)), (16, pl2318), (27, (nI nd20)), (31, (nI wr22)), (64, (nI at17)), (65, (nI ne)), (66, (nI lk21)), (15, (nI fa2317)), (64, (nI at2326))]) (l2 := [(15, (nI fa2317)), (16, pl2318), (27, (nI nd20)), (31, (nI wr22)), (64, (nI at2326)), (65, (nI ne)), (66, (nI lk21))]) (V := [(nI fa2317), pl2318, (nI nd20), (nI wr22), (nI at2326), (nI ne), (nI lk21), (nI fa2317), (nI at2326), (nI fa2317), pl2318, (nI nd20), (nI wr22), (nI at2326), (nI ne), (nI lk21)]) rfl rfl (show (updA (updA (stR X24 12 nd (nI r23)) 2 K) 2 K) = (updA (stR X24 12 nd (nI r23)) 2 K) from updsA_eq2 (F := X24) (l1 := [(12, (upd (X24 12) nd (nI r23))), (2, K), (2, K)]) (l2 := [(12, (upd (X24 12) nd (nI r23))), (2, K)]) (V := [(upd (X24 12) nd (nI r23)), K, K, (upd (X24 12) nd (nI r23)), K]) rfl rfl) hP
        have hD : va_D A (mW G h0 a (upd (upd (upd (upd (upd (upd (upd F 15 (nI fa2317)) 16 pl2318) 27 (nI nd20)) 31 (nI wr22)) 64 (nI at2326)) 65 (nI ne)) 66 (nI lk21)) (updA (stR X24 12 nd (nI r23)) 2 K)) := mW_D hD
        refine W.widen (k := 0) (n := 0) (Nat.le_of_ble_eq_true rfl) (Nat.le_of_ble_eq_true rfl) ?_
        refine W.eq (g2 := F0 m 78 ls [.int (nI r2327)]) rfl ?_
        obtain rfl : at17 = at2326 := (by omega)
        refine lv_if_eq (tgt := 167) hx hb dX12_attempt_78 (by decide) (fun c2334 => ?_) (fun c2334 => (by have n2335 : ¬ (r2327 = 0) := fun h9 => c2334 ((nI_eq (a := r2327) (b := 0) (by omega) (by omega)).mpr h9); omega))
        refine lv_aload_n hx hb dX12_attempt_167 rfl (lv_at hl 2 rfl) ?_
        refine lv_sipush (v := 319) hx hb dX12_attempt_168 (by decide) ?_
        have hP : va_P G.1 pCl (mW G h0 a (upd (upd (upd (upd (upd (upd (upd (upd (upd F 15 (nI fa2317)) 16 pl2318) 27 (nI nd20)) 31 (nI wr22)) 64 (nI at17)) 65 (nI ne)) 66 (nI lk21)) 15 (nI fa2317)) 64 (nI at17)) (updA (updA (stR X24 12 nd (nI r23)) 2 K) 2 K)) _ := hP
        have hD : va_D A (mW G h0 a (upd (upd (upd (upd (upd (upd (upd (upd (upd F 15 (nI fa2317)) 16 pl2318) 27 (nI nd20)) 31 (nI wr22)) 64 (nI at17)) 65 (nI ne)) 66 (nI lk21)) 15 (nI fa2317)) 64 (nI at17)) (updA (updA (stR X24 12 nd (nI r23)) 2 K) 2 K)) := mW_D hD
        refine pc_V0 (G := G) (As := [.int 319]) (rest := []) hx hb hml hown hq hE hX pX0_al hP hD hS hA hl.1 (R_may l G h0 a (upd (upd (upd (upd (upd (upd (upd F 15 (nI fa2317)) 16 pl2318) 27 (nI nd20)) 31 (nI wr22)) 64 (nI at17)) 65 (nI ne)) 66 (nI lk21)) (updA (stR X24 12 nd (nI r23)) 2 K) at17 T fa2317 K 319 (by omega) (by omega) hK (by omega) (by decide) (by decide)) (gV pw_1621 pw_1622 pw_1623 pw_1523 pw_1605) hV_X12_may 0 9 rfl rfl rfl rfl (Nat.le_of_ble_eq_true rfl) dX12_attempt_171 ⟨Nat.le_of_ble_eq_true rfl, Nat.le_of_ble_eq_true rfl⟩ ⟨(by show 3 + 1 ≤ (26 * n + 43); omega), (by show 8 + (3 + 11) + 81 ≤ (2000 * n + 4300); omega)⟩ (fun v2338 u2336 H locs hw2337 hP hD hS => ?_)
        obtain ⟨at2339, r2340⟩ := u2336
        obtain ⟨hw2337, h2341, h2342, h2343, h2344, h2345, h2346⟩ := hw2337
        have h2341 : r2340 ≤ 1 := h2341
        have h2342 : fa2317 + 100 * r2340 ≤ 100 := h2342
        have h2343 : at2339 = at17 + r2340 := h2343
        have h2344 : at2339 ≤ T := h2344
        have h2345 : If (r2340 = 1) (K at17 = 319) := h2345
        have h2346 : If (r2340 = 0) (fa2317 = 0 → ¬ K at17 = 319) := h2346
        obtain rfl : v2338 = some (.int (nI r2340)) := hw2337
        have hP : va_P G.1 pCl (mW G h0 a (upd (upd (upd (upd (upd (upd (upd F 15 (nI fa2317)) 16 pl2318) 27 (nI nd20)) 31 (nI wr22)) 64 (nI at2339)) 65 (nI ne)) 66 (nI lk21)) (updA (stR X24 12 nd (nI r23)) 2 K)) _ := mW_to (F := F) (l1 := [(15, (nI fa2317)), (16, pl2318), (27, (nI nd20)), (31, (nI wr22)), (64, (nI at17)), (65, (nI ne)), (66, (nI lk21)), (15, (nI fa2317)), (64, (nI at2339))]) (l2 := [(15, (nI fa2317)), (16, pl2318), (27, (nI nd20)), (31, (nI wr22)), (64, (nI at2339)), (65, (nI ne)), (66, (nI lk21))]) (V := [(nI fa2317), pl2318, (nI nd20), (nI wr22), (nI at2339), (nI ne), (nI lk21), (nI fa2317), (nI at2339), (nI fa2317), pl2318, (nI nd20), (nI wr22), (nI at2339), (nI ne), (nI lk21)]) rfl rfl (show (updA (updA (stR X24 12 nd (nI r23)) 2 K) 2 K) = (updA (stR X24 12 nd (nI r23)) 2 K) from updsA_eq2 (F := X24) (l1 := [(12, (upd (X24 12) nd (nI r23))), (2, K), (2, K)]) (l2 := [(12, (upd (X24 12) nd (nI r23))), (2, K)]) (V := [(upd (X24 12) nd (nI r23)), K, K, (upd (X24 12) nd (nI r23)), K]) rfl rfl) hP
        have hD : va_D A (mW G h0 a (upd (upd (upd (upd (upd (upd (upd F 15 (nI fa2317)) 16 pl2318) 27 (nI nd20)) 31 (nI wr22)) 64 (nI at2339)) 65 (nI ne)) 66 (nI lk21)) (updA (stR X24 12 nd (nI r23)) 2 K)) := mW_D hD
        refine W.widen (k := 0) (n := 0) (Nat.le_of_ble_eq_true rfl) (Nat.le_of_ble_eq_true rfl) ?_
        refine W.eq (g2 := F0 m 174 ls [.int (nI r2340)]) rfl ?_
        obtain rfl : at17 = at2339 := (by omega)
        refine lv_if_eq (tgt := 187) hx hb dX12_attempt_174 (by decide) (fun c2347 => ?_) (fun c2347 => (by have n2348 : ¬ (r2340 = 0) := fun h9 => c2347 ((nI_eq (a := r2340) (b := 0) (by omega) (by omega)).mpr h9); omega))
        refine lv_iload_n hx hb dX12_attempt_187 rfl (lv_at hl 1 rfl) ?_
        have hz2349 : at0 ≤ at17 := (by omega)
        have hz2350 : at17 ≤ T := (by omega)
        have hz2351 : fa2317 ≤ 100 := (by omega)
        have hz2352 : nd ≤ nd20 := (by omega)
        have hz2353 : nd20 + 2 * at0 ≤ nd + 2 * at17 + 100000 * fa2317 := (by omega)
        have hz2354 : nd20 + 2 * at0 ≤ nd + 2 * at17 + (60 * (21 - ne) + 40) := (by omega)
        have hz2355 : wr ≤ wr22 := (by omega)
        have hz2356 : wr22 + at0 ≤ wr + at17 := (by omega)
        have hz2357 : lk ≤ lk21 := (by omega)
        have hz2358 : lk21 ≤ 60 + 100 * fa2317 := (by omega)
        have hz2359 : at0 + 1 ≤ at17 + fa2317 := (by omega)
        have hz2360 : nd ≤ nd20 := (by omega)
        have hz2361 : Kp B (stR X24 12 nd (nI r23)) wr22 T := hkp48
        have hz2362 : If (fa2317 = 0) (Low B (stR X24 12 nd (nI r23)) nd wr ∧ Frs K T wr22 (stR X24 12 nd (nI r23)) nd nd20 20000 [(nd, (280 + 4 * (21 - ne)))] ∧ kcl 3 ((stR X24 12 nd (nI r23)) 9 nd) = true) := (fun e => absurd e (by omega))
        have hP : va_P G.1 pCl (mW G h0 a (upd (upd (upd (upd (upd (upd (upd F 15 (nI fa2317)) 16 pl2318) 27 (nI nd20)) 31 (nI wr22)) 64 (nI at17)) 65 (nI ne)) 66 (nI lk21)) (updA (stR X24 12 nd (nI r23)) 2 K)) _ := hP
        have hD : va_D A (mW G h0 a (upd (upd (upd (upd (upd (upd (upd F 15 (nI fa2317)) 16 pl2318) 27 (nI nd20)) 31 (nI wr22)) 64 (nI at17)) 65 (nI ne)) 66 (nI lk21)) (updA (stR X24 12 nd (nI r23)) 2 K)) := mW_D hD
        exact W.iret (v := (nI nd)) hx hb hr (fun t9 ht9 hW9 => ⟨⟨_, (at17, fa2317, pl2318, nd20, lk21, wr22, nd, (stR X24 12 nd (nI r23))), rfl, ⟨rfl, hz2349, hz2350, hz2351, hz2352, hz2353, hz2354, hz2355, hz2356, hz2357, hz2358, hz2359, hz2360, hz2361, hz2362⟩, by rw [ht9]; exact hP, hD⟩, hS.F ht9⟩) hS.2.2 dX12_attempt_188
  · have e40 := e40
    refine r_sti (f := (X24 12)) (j := nd) hx hb hE hP hD hS 12 (ma_12 G a _) rfl (mas_12 G a _) (by omega) (by decide) dX12_attempt_36 (fun H locs hP hD hS => ?_)
    have hP : va_P G.1 pCl (mW G h0 a (upd (upd (upd (upd (upd (upd (upd F 15 (nI fa18)) 16 pl19) 27 (nI nd20)) 31 (nI wr22)) 64 (nI at17)) 65 (nI ne)) 66 (nI lk21)) (updA (stR X24 12 nd (nI r23)) 2 K)) _ := mW_to (F := F) (l1 := [(15, (nI fa18)), (16, pl19), (27, (nI nd20)), (31, (nI wr22)), (64, (nI at17)), (65, (nI ne)), (66, (nI lk21))]) (l2 := [(15, (nI fa18)), (16, pl19), (27, (nI nd20)), (31, (nI wr22)), (64, (nI at17)), (65, (nI ne)), (66, (nI lk21))]) (V := [(nI fa18), pl19, (nI nd20), (nI wr22), (nI at17), (nI ne), (nI lk21), (nI fa18), pl19, (nI nd20), (nI wr22), (nI at17), (nI ne), (nI lk21)]) rfl rfl (show (updA (updA X24 2 K) 12 (upd (X24 12) nd (nI r23))) = (updA (stR X24 12 nd (nI r23)) 2 K) from updsA_eq2 (F := X24) (l1 := [(2, K), (12, (upd (X24 12) nd (nI r23)))]) (l2 := [(12, (upd (X24 12) nd (nI r23))), (2, K)]) (V := [K, (upd (X24 12) nd (nI r23)), (upd (X24 12) nd (nI r23)), K]) rfl rfl) hP
    have hD : va_D A (mW G h0 a (upd (upd (upd (upd (upd (upd (upd F 15 (nI fa18)) 16 pl19) 27 (nI nd20)) 31 (nI wr22)) 64 (nI at17)) 65 (nI ne)) 66 (nI lk21)) (updA (stR X24 12 nd (nI r23)) 2 K)) := mW_D hD
    have hkp2363 : Kp B (stR X24 12 nd (nI r23)) wr22 T := (Kp.row hkp39 (by omega))
    refine lv_aload_n hx hb dX12_attempt_37 rfl (lv_at hl 1 rfl) ?_
    refine r_get (v := .int (nI fa18)) hx hb hown hq hE hP 15 350 tFX12_15 (by decide) pw_1594 rfl dX12_attempt_38 ?_
    refine lv_if_ne (tgt := 69) hx hb dX12_attempt_41 (by decide) (fun c2364 => ?_) (fun c2364 => (by have n2365 : fa18 = 0 := (nI_eq (a := fa18) (b := 0) (by omega) (by omega)).mp c2364; omega))
    refine lv_iconst (v := (-1)) hx hb dX12_attempt_69 (by decide) ?_
    refine lv_istore_n (lv' := [(2, .int (-1)), (1, .int (nI nd)), (0, .ref h0)]) hx hb dX12_attempt_70 rfl hl (by decide) rfl (fun ls hl => ?_)
    refine lv_aload_n hx hb dX12_attempt_71 rfl (lv_at hl 2 rfl) ?_
    refine lv_sipush (v := 313) hx hb dX12_attempt_72 (by decide) ?_
    have hP : va_P G.1 pCl (mW G h0 a (upd (upd (upd (upd (upd (upd (upd (upd (upd F 15 (nI fa18)) 16 pl19) 27 (nI nd20)) 31 (nI wr22)) 64 (nI at17)) 65 (nI ne)) 66 (nI lk21)) 15 (nI fa18)) 64 (nI at17)) (updA (updA (stR X24 12 nd (nI r23)) 2 K) 2 K)) _ := mW_to (F := F) (l1 := [(15, (nI fa18)), (16, pl19), (27, (nI nd20)), (31, (nI wr22)), (64, (nI at17)), (65, (nI ne)), (66, (nI lk21))]) (l2 := [(15, (nI fa18)), (16, pl19), (27, (nI nd20)), (31, (nI wr22)), (64, (nI at17)), (65, (nI ne)), (66, (nI lk21)), (15, (nI fa18)), (64, (nI at17))]) (V := [(nI fa18), pl19, (nI nd20), (nI wr22), (nI at17), (nI ne), (nI lk21), (nI fa18), pl19, (nI nd20), (nI wr22), (nI at17), (nI ne), (nI lk21), (nI fa18), (nI at17)]) rfl rfl (show (updA (stR X24 12 nd (nI r23)) 2 K) = (updA (updA (stR X24 12 nd (nI r23)) 2 K) 2 K) from updsA_eq2 (F := X24) (l1 := [(12, (upd (X24 12) nd (nI r23))), (2, K)]) (l2 := [(12, (upd (X24 12) nd (nI r23))), (2, K), (2, K)]) (V := [(upd (X24 12) nd (nI r23)), K, (upd (X24 12) nd (nI r23)), K, K]) rfl rfl) hP
    have hD : va_D A (mW G h0 a (upd (upd (upd (upd (upd (upd (upd (upd (upd F 15 (nI fa18)) 16 pl19) 27 (nI nd20)) 31 (nI wr22)) 64 (nI at17)) 65 (nI ne)) 66 (nI lk21)) 15 (nI fa18)) 64 (nI at17)) (updA (updA (stR X24 12 nd (nI r23)) 2 K) 2 K)) := mW_D hD
    refine pc_V0 (G := G) (As := [.int 313]) (rest := []) hx hb hml hown hq hE hX pX0_al hP hD hS hA hl.1 (R_may l G h0 a (upd (upd (upd (upd (upd (upd (upd F 15 (nI fa18)) 16 pl19) 27 (nI nd20)) 31 (nI wr22)) 64 (nI at17)) 65 (nI ne)) 66 (nI lk21)) (updA (stR X24 12 nd (nI r23)) 2 K) at17 T fa18 K 313 (by omega) (by omega) hK (by omega) (by decide) (by decide)) (gV pw_1621 pw_1622 pw_1623 pw_1523 pw_1605) hV_X12_may 0 9 rfl rfl rfl rfl (Nat.le_of_ble_eq_true rfl) dX12_attempt_75 ⟨Nat.le_of_ble_eq_true rfl, Nat.le_of_ble_eq_true rfl⟩ ⟨(by show 3 + 1 ≤ (26 * n + 43); omega), (by show 8 + (3 + 11) + 81 ≤ (2000 * n + 4300); omega)⟩ (fun v2368 u2366 H locs hw2367 hP hD hS => ?_)
    obtain ⟨at2369, r2370⟩ := u2366
    obtain ⟨hw2367, h2371, h2372, h2373, h2374, h2375, h2376⟩ := hw2367
    have h2371 : r2370 ≤ 1 := h2371
    have h2372 : fa18 + 100 * r2370 ≤ 100 := h2372
    have h2373 : at2369 = at17 + r2370 := h2373
    have h2374 : at2369 ≤ T := h2374
    have h2375 : If (r2370 = 1) (K at17 = 313) := h2375
    have h2376 : If (r2370 = 0) (fa18 = 0 → ¬ K at17 = 313) := h2376
    obtain rfl : v2368 = some (.int (nI r2370)) := hw2367
    have hP : va_P G.1 pCl (mW G h0 a (upd (upd (upd (upd (upd (upd (upd F 15 (nI fa18)) 16 pl19) 27 (nI nd20)) 31 (nI wr22)) 64 (nI at2369)) 65 (nI ne)) 66 (nI lk21)) (updA (stR X24 12 nd (nI r23)) 2 K)) _ := mW_to (F := F) (l1 := [(15, (nI fa18)), (16, pl19), (27, (nI nd20)), (31, (nI wr22)), (64, (nI at17)), (65, (nI ne)), (66, (nI lk21)), (15, (nI fa18)), (64, (nI at2369))]) (l2 := [(15, (nI fa18)), (16, pl19), (27, (nI nd20)), (31, (nI wr22)), (64, (nI at2369)), (65, (nI ne)), (66, (nI lk21))]) (V := [(nI fa18), pl19, (nI nd20), (nI wr22), (nI at2369), (nI ne), (nI lk21), (nI fa18), (nI at2369), (nI fa18), pl19, (nI nd20), (nI wr22), (nI at2369), (nI ne), (nI lk21)]) rfl rfl (show (updA (updA (stR X24 12 nd (nI r23)) 2 K) 2 K) = (updA (stR X24 12 nd (nI r23)) 2 K) from updsA_eq2 (F := X24) (l1 := [(12, (upd (X24 12) nd (nI r23))), (2, K), (2, K)]) (l2 := [(12, (upd (X24 12) nd (nI r23))), (2, K)]) (V := [(upd (X24 12) nd (nI r23)), K, K, (upd (X24 12) nd (nI r23)), K]) rfl rfl) hP
    have hD : va_D A (mW G h0 a (upd (upd (upd (upd (upd (upd (upd F 15 (nI fa18)) 16 pl19) 27 (nI nd20)) 31 (nI wr22)) 64 (nI at2369)) 65 (nI ne)) 66 (nI lk21)) (updA (stR X24 12 nd (nI r23)) 2 K)) := mW_D hD
    refine W.widen (k := 0) (n := 0) (Nat.le_of_ble_eq_true rfl) (Nat.le_of_ble_eq_true rfl) ?_
    refine W.eq (g2 := F0 m 78 ls [.int (nI r2370)]) rfl ?_
    obtain rfl : at17 = at2369 := (by omega)
    refine lv_if_eq (tgt := 167) hx hb dX12_attempt_78 (by decide) (fun c2377 => ?_) (fun c2377 => (by have n2378 : ¬ (r2370 = 0) := fun h9 => c2377 ((nI_eq (a := r2370) (b := 0) (by omega) (by omega)).mpr h9); omega))
    refine lv_aload_n hx hb dX12_attempt_167 rfl (lv_at hl 2 rfl) ?_
    refine lv_sipush (v := 319) hx hb dX12_attempt_168 (by decide) ?_
    have hP : va_P G.1 pCl (mW G h0 a (upd (upd (upd (upd (upd (upd (upd (upd (upd F 15 (nI fa18)) 16 pl19) 27 (nI nd20)) 31 (nI wr22)) 64 (nI at17)) 65 (nI ne)) 66 (nI lk21)) 15 (nI fa18)) 64 (nI at17)) (updA (updA (stR X24 12 nd (nI r23)) 2 K) 2 K)) _ := hP
    have hD : va_D A (mW G h0 a (upd (upd (upd (upd (upd (upd (upd (upd (upd F 15 (nI fa18)) 16 pl19) 27 (nI nd20)) 31 (nI wr22)) 64 (nI at17)) 65 (nI ne)) 66 (nI lk21)) 15 (nI fa18)) 64 (nI at17)) (updA (updA (stR X24 12 nd (nI r23)) 2 K) 2 K)) := mW_D hD
    refine pc_V0 (G := G) (As := [.int 319]) (rest := []) hx hb hml hown hq hE hX pX0_al hP hD hS hA hl.1 (R_may l G h0 a (upd (upd (upd (upd (upd (upd (upd F 15 (nI fa18)) 16 pl19) 27 (nI nd20)) 31 (nI wr22)) 64 (nI at17)) 65 (nI ne)) 66 (nI lk21)) (updA (stR X24 12 nd (nI r23)) 2 K) at17 T fa18 K 319 (by omega) (by omega) hK (by omega) (by decide) (by decide)) (gV pw_1621 pw_1622 pw_1623 pw_1523 pw_1605) hV_X12_may 0 9 rfl rfl rfl rfl (Nat.le_of_ble_eq_true rfl) dX12_attempt_171 ⟨Nat.le_of_ble_eq_true rfl, Nat.le_of_ble_eq_true rfl⟩ ⟨(by show 3 + 1 ≤ (26 * n + 43); omega), (by show 8 + (3 + 11) + 81 ≤ (2000 * n + 4300); omega)⟩ (fun v2381 u2379 H locs hw2380 hP hD hS => ?_)
    obtain ⟨at2382, r2383⟩ := u2379
    obtain ⟨hw2380, h2384, h2385, h2386, h2387, h2388, h2389⟩ := hw2380
    have h2384 : r2383 ≤ 1 := h2384
    have h2385 : fa18 + 100 * r2383 ≤ 100 := h2385
    have h2386 : at2382 = at17 + r2383 := h2386
    have h2387 : at2382 ≤ T := h2387
    have h2388 : If (r2383 = 1) (K at17 = 319) := h2388
    have h2389 : If (r2383 = 0) (fa18 = 0 → ¬ K at17 = 319) := h2389
    obtain rfl : v2381 = some (.int (nI r2383)) := hw2380
    have hP : va_P G.1 pCl (mW G h0 a (upd (upd (upd (upd (upd (upd (upd F 15 (nI fa18)) 16 pl19) 27 (nI nd20)) 31 (nI wr22)) 64 (nI at2382)) 65 (nI ne)) 66 (nI lk21)) (updA (stR X24 12 nd (nI r23)) 2 K)) _ := mW_to (F := F) (l1 := [(15, (nI fa18)), (16, pl19), (27, (nI nd20)), (31, (nI wr22)), (64, (nI at17)), (65, (nI ne)), (66, (nI lk21)), (15, (nI fa18)), (64, (nI at2382))]) (l2 := [(15, (nI fa18)), (16, pl19), (27, (nI nd20)), (31, (nI wr22)), (64, (nI at2382)), (65, (nI ne)), (66, (nI lk21))]) (V := [(nI fa18), pl19, (nI nd20), (nI wr22), (nI at2382), (nI ne), (nI lk21), (nI fa18), (nI at2382), (nI fa18), pl19, (nI nd20), (nI wr22), (nI at2382), (nI ne), (nI lk21)]) rfl rfl (show (updA (updA (stR X24 12 nd (nI r23)) 2 K) 2 K) = (updA (stR X24 12 nd (nI r23)) 2 K) from updsA_eq2 (F := X24) (l1 := [(12, (upd (X24 12) nd (nI r23))), (2, K), (2, K)]) (l2 := [(12, (upd (X24 12) nd (nI r23))), (2, K)]) (V := [(upd (X24 12) nd (nI r23)), K, K, (upd (X24 12) nd (nI r23)), K]) rfl rfl) hP
    have hD : va_D A (mW G h0 a (upd (upd (upd (upd (upd (upd (upd F 15 (nI fa18)) 16 pl19) 27 (nI nd20)) 31 (nI wr22)) 64 (nI at2382)) 65 (nI ne)) 66 (nI lk21)) (updA (stR X24 12 nd (nI r23)) 2 K)) := mW_D hD
    refine W.widen (k := 0) (n := 0) (Nat.le_of_ble_eq_true rfl) (Nat.le_of_ble_eq_true rfl) ?_
    refine W.eq (g2 := F0 m 174 ls [.int (nI r2383)]) rfl ?_
    obtain rfl : at17 = at2382 := (by omega)
    refine lv_if_eq (tgt := 187) hx hb dX12_attempt_174 (by decide) (fun c2390 => ?_) (fun c2390 => (by have n2391 : ¬ (r2383 = 0) := fun h9 => c2390 ((nI_eq (a := r2383) (b := 0) (by omega) (by omega)).mpr h9); omega))
    refine lv_iload_n hx hb dX12_attempt_187 rfl (lv_at hl 1 rfl) ?_
    have hz2392 : at0 ≤ at17 := (by omega)
    have hz2393 : at17 ≤ T := (by omega)
    have hz2394 : fa18 ≤ 100 := (by omega)
    have hz2395 : nd ≤ nd20 := (by omega)
    have hz2396 : nd20 + 2 * at0 ≤ nd + 2 * at17 + 100000 * fa18 := (by omega)
    have hz2397 : nd20 + 2 * at0 ≤ nd + 2 * at17 + (60 * (21 - ne) + 40) := (by omega)
    have hz2398 : wr ≤ wr22 := (by omega)
    have hz2399 : wr22 + at0 ≤ wr + at17 := (by omega)
    have hz2400 : lk ≤ lk21 := (by omega)
    have hz2401 : lk21 ≤ 60 + 100 * fa18 := (by omega)
    have hz2402 : at0 + 1 ≤ at17 + fa18 := (by omega)
    have hz2403 : nd ≤ nd20 := (by omega)
    have hz2404 : Kp B (stR X24 12 nd (nI r23)) wr22 T := hkp2363
    have hz2405 : If (fa18 = 0) (Low B (stR X24 12 nd (nI r23)) nd wr ∧ Frs K T wr22 (stR X24 12 nd (nI r23)) nd nd20 20000 [(nd, (280 + 4 * (21 - ne)))] ∧ kcl 3 ((stR X24 12 nd (nI r23)) 9 nd) = true) := (fun e => absurd e (by omega))
    have hP : va_P G.1 pCl (mW G h0 a (upd (upd (upd (upd (upd (upd (upd F 15 (nI fa18)) 16 pl19) 27 (nI nd20)) 31 (nI wr22)) 64 (nI at17)) 65 (nI ne)) 66 (nI lk21)) (updA (stR X24 12 nd (nI r23)) 2 K)) _ := hP
    have hD : va_D A (mW G h0 a (upd (upd (upd (upd (upd (upd (upd F 15 (nI fa18)) 16 pl19) 27 (nI nd20)) 31 (nI wr22)) 64 (nI at17)) 65 (nI ne)) 66 (nI lk21)) (updA (stR X24 12 nd (nI r23)) 2 K)) := mW_D hD
    exact W.iret (v := (nI nd)) hx hb hr (fun t9 ht9 hW9 => ⟨⟨_, (at17, fa18, pl19, nd20, lk21, wr22, nd, (stR X24 12 nd (nI r23))), rfl, ⟨rfl, hz2392, hz2393, hz2394, hz2395, hz2396, hz2397, hz2398, hz2399, hz2400, hz2401, hz2402, hz2403, hz2404, hz2405⟩, by rw [ht9]; exact hP, hD⟩, hS.F ht9⟩) hS.2.2 dX12_attempt_188

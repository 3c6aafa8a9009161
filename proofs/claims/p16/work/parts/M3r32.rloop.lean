theorem dX12_loop_0 : decode cX12_loop 0 = .ok (.aload_n 0, 1) := by decide +kernel
theorem dX12_loop_1 : decode cX12_loop 1 = .ok (.bipush 36, 2) := by decide +kernel
theorem dX12_loop_3 : decode cX12_loop 3 = .ok (.aload_n 0, 1) := by decide +kernel
theorem dX12_loop_4 : decode cX12_loop 4 = .ok (.getfield 343, 3) := by decide +kernel
theorem dX12_loop_7 : decode cX12_loop 7 = .ok (.aload_n 0, 1) := by decide +kernel
theorem dX12_loop_8 : decode cX12_loop 8 = .ok (.getfield 343, 3) := by decide +kernel
theorem dX12_loop_11 : decode cX12_loop 11 = .ok (.iconst (-1), 1) := by decide +kernel
theorem dX12_loop_12 : decode cX12_loop 12 = .ok (.iconst (-1), 1) := by decide +kernel
theorem dX12_loop_13 : decode cX12_loop 13 = .ok (.invokevirtual 428, 3) := by decide +kernel
theorem dX12_loop_16 : decode cX12_loop 16 = .ok (.istore_n 1, 1) := by decide +kernel
theorem dX12_loop_17 : decode cX12_loop 17 = .ok (.aload_n 0, 1) := by decide +kernel
theorem dX12_loop_18 : decode cX12_loop 18 = .ok (.dup, 1) := by decide +kernel
theorem dX12_loop_19 : decode cX12_loop 19 = .ok (.getfield 343, 3) := by decide +kernel
theorem dX12_loop_22 : decode cX12_loop 22 = .ok (.iconst 1, 1) := by decide +kernel
theorem dX12_loop_23 : decode cX12_loop 23 = .ok (.iadd, 1) := by decide +kernel
theorem dX12_loop_24 : decode cX12_loop 24 = .ok (.putfield 343, 3) := by decide +kernel
theorem dX12_loop_27 : decode cX12_loop 27 = .ok (.aload_n 0, 1) := by decide +kernel
theorem dX12_loop_28 : decode cX12_loop 28 = .ok (.bipush 40, 2) := by decide +kernel
theorem dX12_loop_30 : decode cX12_loop 30 = .ok (.invokevirtual 369, 3) := by decide +kernel
theorem dX12_loop_139 : decode cX12_loop 139 = .ok (.aload_n 0, 1) := by decide +kernel
theorem dX12_loop_140 : decode cX12_loop 140 = .ok (.bipush 59, 2) := by decide +kernel
theorem dX12_loop_142 : decode cX12_loop 142 = .ok (.invokevirtual 369, 3) := by decide +kernel
theorem dX12_loop_171 : decode cX12_loop 171 = .ok (.aload_n 0, 1) := by decide +kernel
theorem dX12_loop_172 : decode cX12_loop 172 = .ok (.bipush 59, 2) := by decide +kernel
theorem dX12_loop_174 : decode cX12_loop 174 = .ok (.invokevirtual 369, 3) := by decide +kernel
theorem dX12_loop_219 : decode cX12_loop 219 = .ok (.aload_n 0, 1) := by decide +kernel
theorem dX12_loop_220 : decode cX12_loop 220 = .ok (.bipush 41, 2) := by decide +kernel
theorem dX12_loop_222 : decode cX12_loop 222 = .ok (.invokevirtual 369, 3) := by decide +kernel
theorem dX12_loop_225 : decode cX12_loop 225 = .ok (.aload_n 0, 1) := by decide +kernel
theorem dX12_loop_226 : decode cX12_loop 226 = .ok (.getfield 56, 3) := by decide +kernel
theorem dX12_loop_229 : decode cX12_loop 229 = .ok (.iload_n 1, 1) := by decide +kernel
theorem dX12_loop_230 : decode cX12_loop 230 = .ok (.aload_n 0, 1) := by decide +kernel
theorem dX12_loop_231 : decode cX12_loop 231 = .ok (.invokevirtual 438, 3) := by decide +kernel
theorem dX12_loop_234 : decode cX12_loop 234 = .ok (.iastore, 1) := by decide +kernel
theorem dX12_loop_235 : decode cX12_loop 235 = .ok (.iload_n 1, 1) := by decide +kernel
theorem dX12_loop_236 : decode cX12_loop 236 = .ok (.ireturn, 1) := by decide +kernel
theorem dX12_loop_177 : decode cX12_loop 177 = .ok (.aload_n 0, 1) := by decide +kernel
theorem dX12_loop_178 : decode cX12_loop 178 = .ok (.getfield 350, 3) := by decide +kernel
theorem dX12_loop_181 : decode cX12_loop 181 = .ok (.ifCond .ne 38, 3) := by decide +kernel
theorem dX12_loop_184 : decode cX12_loop 184 = .ok (.aload_n 0, 1) := by decide +kernel
theorem dX12_loop_185 : decode cX12_loop 185 = .ok (.invokevirtual 381, 3) := by decide +kernel
theorem dX12_loop_188 : decode cX12_loop 188 = .ok (.bipush 41, 2) := by decide +kernel
theorem dX12_loop_190 : decode cX12_loop 190 = .ok (.if_icmp .eq 29, 3) := by decide +kernel
theorem dX12_loop_193 : decode cX12_loop 193 = .ok (.aload_n 0, 1) := by decide +kernel
theorem dX12_loop_194 : decode cX12_loop 194 = .ok (.invokevirtual 450, 3) := by decide +kernel
theorem dX12_loop_197 : decode cX12_loop 197 = .ok (.ifCond .eq 17, 3) := by decide +kernel
theorem dX12_loop_214 : decode cX12_loop 214 = .ok (.aload_n 0, 1) := by decide +kernel
theorem dX12_loop_215 : decode cX12_loop 215 = .ok (.iconst 1, 1) := by decide +kernel
theorem dX12_loop_216 : decode cX12_loop 216 = .ok (.invokevirtual 356, 3) := by decide +kernel
theorem dX12_loop_200 : decode cX12_loop 200 = .ok (.aload_n 0, 1) := by decide +kernel
theorem dX12_loop_201 : decode cX12_loop 201 = .ok (.getfield 53, 3) := by decide +kernel
theorem dX12_loop_204 : decode cX12_loop 204 = .ok (.iload_n 1, 1) := by decide +kernel
theorem dX12_loop_205 : decode cX12_loop 205 = .ok (.aload_n 0, 1) := by decide +kernel
theorem dX12_loop_206 : decode cX12_loop 206 = .ok (.iconst 1, 1) := by decide +kernel
theorem dX12_loop_207 : decode cX12_loop 207 = .ok (.invokevirtual 465, 3) := by decide +kernel
theorem dX12_loop_210 : decode cX12_loop 210 = .ok (.iastore, 1) := by decide +kernel
theorem dX12_loop_211 : decode cX12_loop 211 = .ok (.goto 8, 3) := by decide +kernel
theorem dX12_loop_145 : decode cX12_loop 145 = .ok (.aload_n 0, 1) := by decide +kernel
theorem dX12_loop_146 : decode cX12_loop 146 = .ok (.getfield 350, 3) := by decide +kernel
theorem dX12_loop_149 : decode cX12_loop 149 = .ok (.ifCond .ne 22, 3) := by decide +kernel
theorem dX12_loop_152 : decode cX12_loop 152 = .ok (.aload_n 0, 1) := by decide +kernel
theorem dX12_loop_153 : decode cX12_loop 153 = .ok (.invokevirtual 381, 3) := by decide +kernel
theorem dX12_loop_156 : decode cX12_loop 156 = .ok (.bipush 59, 2) := by decide +kernel
theorem dX12_loop_158 : decode cX12_loop 158 = .ok (.if_icmp .eq 13, 3) := by decide +kernel
theorem dX12_loop_161 : decode cX12_loop 161 = .ok (.aload_n 0, 1) := by decide +kernel
theorem dX12_loop_162 : decode cX12_loop 162 = .ok (.getfield 50, 3) := by decide +kernel
theorem dX12_loop_165 : decode cX12_loop 165 = .ok (.iload_n 1, 1) := by decide +kernel
theorem dX12_loop_166 : decode cX12_loop 166 = .ok (.aload_n 0, 1) := by decide +kernel
theorem dX12_loop_167 : decode cX12_loop 167 = .ok (.invokevirtual 447, 3) := by decide +kernel
theorem dX12_loop_170 : decode cX12_loop 170 = .ok (.iastore, 1) := by decide +kernel
theorem dX12_loop_33 : decode cX12_loop 33 = .ok (.aload_n 0, 1) := by decide +kernel
theorem dX12_loop_34 : decode cX12_loop 34 = .ok (.getfield 350, 3) := by decide +kernel
theorem dX12_loop_37 : decode cX12_loop 37 = .ok (.ifCond .ne 102, 3) := by decide +kernel
theorem dX12_loop_40 : decode cX12_loop 40 = .ok (.aload_n 0, 1) := by decide +kernel
theorem dX12_loop_41 : decode cX12_loop 41 = .ok (.invokevirtual 381, 3) := by decide +kernel
theorem dX12_loop_44 : decode cX12_loop 44 = .ok (.bipush 59, 2) := by decide +kernel
theorem dX12_loop_46 : decode cX12_loop 46 = .ok (.if_icmp .eq 93, 3) := by decide +kernel
theorem dX12_loop_49 : decode cX12_loop 49 = .ok (.aload_n 0, 1) := by decide +kernel
theorem dX12_loop_50 : decode cX12_loop 50 = .ok (.invokevirtual 435, 3) := by decide +kernel
theorem dX12_loop_53 : decode cX12_loop 53 = .ok (.ifCond .eq 60, 3) := by decide +kernel
theorem dX12_loop_113 : decode cX12_loop 113 = .ok (.aload_n 0, 1) := by decide +kernel
theorem dX12_loop_114 : decode cX12_loop 114 = .ok (.invokevirtual 450, 3) := by decide +kernel
theorem dX12_loop_117 : decode cX12_loop 117 = .ok (.ifCond .eq 17, 3) := by decide +kernel
theorem dX12_loop_134 : decode cX12_loop 134 = .ok (.aload_n 0, 1) := by decide +kernel
theorem dX12_loop_135 : decode cX12_loop 135 = .ok (.iconst 1, 1) := by decide +kernel
theorem dX12_loop_136 : decode cX12_loop 136 = .ok (.invokevirtual 356, 3) := by decide +kernel
theorem dX12_loop_120 : decode cX12_loop 120 = .ok (.aload_n 0, 1) := by decide +kernel
theorem dX12_loop_121 : decode cX12_loop 121 = .ok (.getfield 47, 3) := by decide +kernel
theorem dX12_loop_124 : decode cX12_loop 124 = .ok (.iload_n 1, 1) := by decide +kernel
theorem dX12_loop_125 : decode cX12_loop 125 = .ok (.aload_n 0, 1) := by decide +kernel
theorem dX12_loop_126 : decode cX12_loop 126 = .ok (.iconst 0, 1) := by decide +kernel
theorem dX12_loop_127 : decode cX12_loop 127 = .ok (.invokevirtual 465, 3) := by decide +kernel
theorem dX12_loop_130 : decode cX12_loop 130 = .ok (.iastore, 1) := by decide +kernel
theorem dX12_loop_131 : decode cX12_loop 131 = .ok (.goto 8, 3) := by decide +kernel
theorem dX12_loop_56 : decode cX12_loop 56 = .ok (.aload_n 0, 1) := by decide +kernel
theorem dX12_loop_57 : decode cX12_loop 57 = .ok (.getfield 343, 3) := by decide +kernel
theorem dX12_loop_60 : decode cX12_loop 60 = .ok (.istore_n 2, 1) := by decide +kernel
theorem dX12_loop_61 : decode cX12_loop 61 = .ok (.aload_n 0, 1) := by decide +kernel
theorem dX12_loop_62 : decode cX12_loop 62 = .ok (.invokevirtual 406, 3) := by decide +kernel
theorem dX12_loop_65 : decode cX12_loop 65 = .ok (.istore_n 3, 1) := by decide +kernel
theorem dX12_loop_66 : decode cX12_loop 66 = .ok (.aload_n 0, 1) := by decide +kernel
theorem dX12_loop_67 : decode cX12_loop 67 = .ok (.invokevirtual 375, 3) := by decide +kernel
theorem dX12_loop_70 : decode cX12_loop 70 = .ok (.istore 4, 2) := by decide +kernel
theorem dX12_loop_72 : decode cX12_loop 72 = .ok (.aload_n 0, 1) := by decide +kernel
theorem dX12_loop_73 : decode cX12_loop 73 = .ok (.getfield 47, 3) := by decide +kernel
theorem dX12_loop_76 : decode cX12_loop 76 = .ok (.iload_n 1, 1) := by decide +kernel
theorem dX12_loop_77 : decode cX12_loop 77 = .ok (.aload_n 0, 1) := by decide +kernel
theorem dX12_loop_78 : decode cX12_loop 78 = .ok (.bipush 30, 2) := by decide +kernel
theorem dX12_loop_80 : decode cX12_loop 80 = .ok (.iload_n 2, 1) := by decide +kernel
theorem dX12_loop_81 : decode cX12_loop 81 = .ok (.iload 4, 2) := by decide +kernel
theorem dX12_loop_83 : decode cX12_loop 83 = .ok (.iload_n 3, 1) := by decide +kernel
theorem dX12_loop_84 : decode cX12_loop 84 = .ok (.iconst (-1), 1) := by decide +kernel
theorem dX12_loop_85 : decode cX12_loop 85 = .ok (.invokevirtual 428, 3) := by decide +kernel
theorem dX12_loop_88 : decode cX12_loop 88 = .ok (.iastore, 1) := by decide +kernel
theorem dX12_loop_89 : decode cX12_loop 89 = .ok (.aload_n 0, 1) := by decide +kernel
theorem dX12_loop_90 : decode cX12_loop 90 = .ok (.bipush 61, 2) := by decide +kernel
theorem dX12_loop_92 : decode cX12_loop 92 = .ok (.invokevirtual 369, 3) := by decide +kernel
theorem dX12_loop_95 : decode cX12_loop 95 = .ok (.aload_n 0, 1) := by decide +kernel
theorem dX12_loop_96 : decode cX12_loop 96 = .ok (.getfield 50, 3) := by decide +kernel
theorem dX12_loop_99 : decode cX12_loop 99 = .ok (.aload_n 0, 1) := by decide +kernel
theorem dX12_loop_100 : decode cX12_loop 100 = .ok (.getfield 47, 3) := by decide +kernel
theorem dX12_loop_103 : decode cX12_loop 103 = .ok (.iload_n 1, 1) := by decide +kernel
theorem dX12_loop_104 : decode cX12_loop 104 = .ok (.iaload, 1) := by decide +kernel
theorem dX12_loop_105 : decode cX12_loop 105 = .ok (.aload_n 0, 1) := by decide +kernel
theorem dX12_loop_106 : decode cX12_loop 106 = .ok (.invokevirtual 447, 3) := by decide +kernel
theorem dX12_loop_109 : decode cX12_loop 109 = .ok (.iastore, 1) := by decide +kernel
theorem dX12_loop_110 : decode cX12_loop 110 = .ok (.goto 29, 3) := by decide +kernel
set_option maxHeartbeats 2000000 in
set_option maxRecDepth 100000 in
/-- loop(), no fault ahead -/
theorem RT_loop (l : Launch) (G : pT) (h0 : Nat) (a : Nat → Nat) (F : Nat → Int32) (B : Nat → Nat → Int32) (at0 : Nat) (T : Nat) (n : Nat) (ne : Nat) (nd : Nat) (wr : Nat) (lk : Nat) (K : Nat → Int32) (hat : at0 ≤ T) (hT : T ≤ 5000) (hK : K T = 0 ∨ K T = 3) (hne : ne ≤ 20) (hnd : nd ≤ 2 * at0) (hwr : wr ≤ at0) (hlk : lk ≤ 60) (hy : tkRow (B 19) wr T) (hn : 21 ≤ n + ne) (hlt : at0 + 1 ≤ T) (hEc : Pchoice l G n) (hSt : Pstatement l G n) (hS0 : Psimple0 l G n) (hS1 : Psimple1 l G n) : PM l G pX0 yX12_loop cX12_loop 5 (some .int) ({ frames := (26 * n + 43), cells := 0, slots := 0, locals := (2000 * n + 4300) }) [.ref h0] (mW G h0 a (upd (upd (upd (upd (upd (upd F 15 0) 27 (nI nd)) 31 (nI wr)) 64 (nI at0)) 65 (nI ne)) 66 (nI lk)) (updA B 2 K)) (fun (v : Option Value) (u : Nat × Nat × Int32 × Nat × Nat × Nat × Nat × (Nat → Nat → Int32)) => v = some (.int (nI u.2.2.2.2.2.2.1)) ∧ (at0 ≤ u.1) ∧ (u.1 ≤ T) ∧ (u.2.1 ≤ 100) ∧ (nd ≤ u.2.2.2.1) ∧ (u.2.2.2.1 + 2 * at0 ≤ nd + 2 * u.1 + 100000 * u.2.1) ∧ (u.2.2.2.1 + 2 * at0 ≤ nd + 2 * u.1 + (60 * (21 - ne) + 40)) ∧ (wr ≤ u.2.2.2.2.2.1) ∧ (u.2.2.2.2.2.1 + at0 ≤ wr + u.1) ∧ (lk ≤ u.2.2.2.2.1) ∧ (u.2.2.2.2.1 ≤ 60 + 100 * u.2.1) ∧ (at0 + 1 ≤ u.1 + u.2.1) ∧ (u.2.2.2.2.2.2.1 ≤ u.2.2.2.1) ∧ (Kp B u.2.2.2.2.2.2.2 u.2.2.2.2.2.1 T) ∧ (If (u.2.1 = 0) (Low B u.2.2.2.2.2.2.2 nd wr ∧ Frs K T u.2.2.2.2.2.1 u.2.2.2.2.2.2.2 nd u.2.2.2.1 20000 [(u.2.2.2.2.2.2.1, (280 + 4 * (21 - ne)))] ∧ kcl 3 (u.2.2.2.2.2.2.2 9 u.2.2.2.2.2.2.1) = true))) (fun u => (mW G h0 a (upd (upd (upd (upd (upd (upd (upd F 15 (nI u.2.1)) 16 u.2.2.1) 27 (nI u.2.2.2.1)) 31 (nI u.2.2.2.2.2.1)) 64 (nI u.1)) 65 (nI ne)) 66 (nI u.2.2.2.2.1)) (updA u.2.2.2.2.2.2.2 2 K))) := by
  intro sz
  refine Met.ofW (cc := cX12_loop) (maxL := 5) (ret := (some .int)) (by decide) rfl ?_
  intro p e s m args below meth c s₁ B9 hml hv
  obtain ⟨rfl, hsz, hP, hD0, hE, hX⟩ := hv
  have hx := B9.exec
  have hb := B9.bytes
  have hr := B9.returns
  have hts := atoms_spec (ws := Cond.code yX12_loop cX12_loop 5 (some .int) :: pw) B9.pre
  have hq : ∀ w ∈ pw, w.before _ s = true := fun w h => hts w (List.mem_cons_of_mem _ h)
  have hown : s.vm.findClass RX12 = some m.cls := findClass_of_methodNamed B9.named
  have hlocks := B9.notSynchronized
  subst hsz
  have hD := hD0.self (sz := s.heap.size)
  have hA : ∀ q : Nat, s.heap.size ≤ q → va_A (mW G h0 a (upd (upd (upd (upd (upd (upd F 15 0) 27 (nI nd)) 31 (nI wr)) 64 (nI at0)) 65 (nI ne)) 66 (nI lk)) (updA B 2 K)) s.heap.size q := fun q h => Or.inr h
  have hP : va_P G.1 pCl (mW G h0 a (upd (upd (upd (upd (upd (upd F 15 0) 27 (nI nd)) 31 (nI wr)) 64 (nI at0)) 65 (nI ne)) 66 (nI lk)) (updA B 2 K)) s.heap := hP
  generalize va_A (mW G h0 a (upd (upd (upd (upd (upd (upd F 15 0) 27 (nI nd)) 31 (nI wr)) 64 (nI at0)) 65 (nI ne)) 66 (nI lk)) (updA B 2 K)) s.heap.size = A at hD hE hA ⊢
  have hS : va_S A s.heap s.heap [] := va_S.rf
  have hl := lv_entry ([.ref h0]) (n := 5) (Nat.le_of_ble_eq_true rfl)
  rw [lg_entry_eq]
  generalize (lg_sl ([.ref h0]) ++ List.replicate (5 - (lg_sl ([.ref h0])).length) Slot.unset).toArray = ls at hl ⊢
  have hl : lv_has ls 5 [(0, .ref h0)] := hl
  have hkp1 : Kp B B wr T := Kp.rfl hy
  have hlo2 : Low B B nd wr := Low.rfl
  refine lv_aload_n hx hb dX12_loop_0 rfl (lv_at hl 0 rfl) ?_
  refine lv_bipush (v := 36) hx hb dX12_loop_1 (by decide) ?_
  refine lv_aload_n hx hb dX12_loop_3 rfl (lv_at hl 0 rfl) ?_
  refine r_get (v := .int (nI at0)) hx hb hown hq hE hP 64 343 tFX12_64 (by decide) pw_1592 rfl dX12_loop_4 ?_
  refine lv_aload_n hx hb dX12_loop_7 rfl (lv_at hl 0 rfl) ?_
  refine r_get (v := .int (nI at0)) hx hb hown hq hE hP 64 343 tFX12_64 (by decide) pw_1592 rfl dX12_loop_8 ?_
  refine lv_iconst (v := (-1)) hx hb dX12_loop_11 (by decide) ?_
  refine lv_iconst (v := (-1)) hx hb dX12_loop_12 (by decide) ?_
  have hP : va_P G.1 pCl (mW G h0 a (upd (upd (upd (upd (upd (upd (upd F 15 0) 27 (nI nd)) 31 (nI wr)) 64 (nI at0)) 65 (nI ne)) 66 (nI lk)) 27 (nI nd)) (updA B 2 K)) _ := mW_to (F := F) (l1 := [(15, 0), (27, (nI nd)), (31, (nI wr)), (64, (nI at0)), (65, (nI ne)), (66, (nI lk))]) (l2 := [(15, 0), (27, (nI nd)), (31, (nI wr)), (64, (nI at0)), (65, (nI ne)), (66, (nI lk)), (27, (nI nd))]) (V := [0, (nI nd), (nI wr), (nI at0), (nI ne), (nI lk), 0, (nI nd), (nI wr), (nI at0), (nI ne), (nI lk), (nI nd)]) rfl rfl rfl hP
  have hD : va_D A (mW G h0 a (upd (upd (upd (upd (upd (upd (upd F 15 0) 27 (nI nd)) 31 (nI wr)) 64 (nI at0)) 65 (nI ne)) 66 (nI lk)) 27 (nI nd)) (updA B 2 K)) := mW_D hD
  refine pc_V0 (G := G) (As := [.int 36, .int (nI at0), .int (nI at0), .int (-1), .int (-1)]) (rest := []) hx hb hml hown hq hE hX pX0_al hP hD hS hA hl.1 (R_nodeB l G h0 a (upd (upd (upd (upd (upd (upd F 15 0) 27 (nI nd)) 31 (nI wr)) 64 (nI at0)) 65 (nI ne)) 66 (nI lk)) B 36 (nI at0) (nI at0) (-1) (-1) nd K (by omega)) (gV pw_1650 pw_1651 pw_1652 pw_1523 pw_1589) hV_X12_node 0 9 rfl rfl rfl rfl (Nat.le_of_ble_eq_true rfl) dX12_loop_13 ⟨Nat.le_of_ble_eq_true rfl, Nat.le_of_ble_eq_true rfl⟩ ⟨(by show 2 + 1 ≤ (26 * n + 43); omega), (by show 8 + (7 + 11) + 60 ≤ (2000 * n + 4300); omega)⟩ (fun v5 u3 H locs hw4 hP hD hS => ?_)
  obtain ⟨X6, rfl⟩ : ∃ z, z = u3 := ⟨_, rfl⟩
  obtain ⟨hw4, h7⟩ := hw4
  have h7 : NewN B X6 nd 36 (nI at0) (nI at0) (-1) (-1) := h7
  obtain rfl : v5 = some (.int (nI nd)) := hw4
  have hP : va_P G.1 pCl (mW G h0 a (upd (upd (upd (upd (upd (upd F 15 0) 27 (nI (nd + 1))) 31 (nI wr)) 64 (nI at0)) 65 (nI ne)) 66 (nI lk)) (updA X6 2 K)) _ := mW_to (F := F) (l1 := [(15, 0), (27, (nI nd)), (31, (nI wr)), (64, (nI at0)), (65, (nI ne)), (66, (nI lk)), (27, (nI (nd + 1)))]) (l2 := [(15, 0), (27, (nI (nd + 1))), (31, (nI wr)), (64, (nI at0)), (65, (nI ne)), (66, (nI lk))]) (V := [0, (nI (nd + 1)), (nI wr), (nI at0), (nI ne), (nI lk), (nI (nd + 1)), 0, (nI (nd + 1)), (nI wr), (nI at0), (nI ne), (nI lk)]) rfl rfl rfl hP
  have hD : va_D A (mW G h0 a (upd (upd (upd (upd (upd (upd F 15 0) 27 (nI (nd + 1))) 31 (nI wr)) 64 (nI at0)) 65 (nI ne)) 66 (nI lk)) (updA X6 2 K)) := mW_D hD
  refine W.widen (k := 0) (n := 0) (Nat.le_of_ble_eq_true rfl) (Nat.le_of_ble_eq_true rfl) ?_
  refine W.eq (g2 := F0 m 16 ls [.int (nI nd)]) rfl ?_
  have hkp8 : Kp B X6 wr T := (Kp.new hkp1 h7)
  have hlo9 : Low B X6 nd wr := (Low.new hlo2 h7 (by omega))
  have hf10 : Frs K T wr X6 nd (nd + 1) nd [(nd, 0)] := (Frs.new0 (k := 36) Frs.nil (Nat.le_refl _) (Nat.le_refl _) h7 rfl (by decide) (by decide) (by omega) (by omega) (fun e => absurd e (by decide)) (newOK.m1 (by decide)) (newOK.m1 (by decide)) (newOK.m1 (by decide)) (newOK.m1 (by decide)))
  have hn11 : Nd X6 nd 36 (-1) (-1) (-1) (-1) := (NewN.toNd h7)
  refine lv_istore_n (lv' := [(1, .int (nI nd)), (0, .ref h0)]) hx hb dX12_loop_16 rfl hl (by decide) rfl (fun ls hl => ?_)
  refine lv_aload_n hx hb dX12_loop_17 rfl (lv_at hl 1 rfl) ?_
  refine lv_dup hx hb dX12_loop_18 rfl ?_
  refine r_get (v := .int (nI at0)) hx hb hown hq hE hP 64 343 tFX12_64 (by decide) pw_1592 rfl dX12_loop_19 ?_
  refine lv_iconst (v := 1) hx hb dX12_loop_22 (by decide) ?_
  refine lv_iadd hx hb dX12_loop_23 ?_
  refine lv_topi (fun x12 e13 => ?_)
  obtain rfl : x12 = nI (at0 + 1) := e13.trans (nI_add (at0) (1))
  refine r_put (v := (nI (at0 + 1))) (ty := .int) hx hb hown hq hE hP hD hS 64 343 tFX12_64 (by decide) pw_1592 (by decide) rfl rfl (ms_64 a _ _) dX12_loop_24 (fun H locs hP hD hS => ?_)
  refine lv_aload_n hx hb dX12_loop_27 rfl (lv_at hl 1 rfl) ?_
  refine lv_bipush (v := 40) hx hb dX12_loop_28 (by decide) ?_
  have hP : va_P G.1 pCl (mW G h0 a (upd (upd (upd (upd (upd (upd (upd (upd F 15 0) 27 (nI (nd + 1))) 31 (nI wr)) 64 (nI (at0 + 1))) 65 (nI ne)) 66 (nI lk)) 15 (nI 0)) 64 (nI (at0 + 1))) (updA (updA X6 2 K) 2 K)) _ := mW_to (F := F) (l1 := [(15, 0), (27, (nI (nd + 1))), (31, (nI wr)), (64, (nI at0)), (65, (nI ne)), (66, (nI lk)), (64, (nI (at0 + 1)))]) (l2 := [(15, 0), (27, (nI (nd + 1))), (31, (nI wr)), (64, (nI (at0 + 1))), (65, (nI ne)), (66, (nI lk)), (15, (nI 0)), (64, (nI (at0 + 1)))]) (V := [(nI 0), (nI (nd + 1)), (nI wr), (nI (at0 + 1)), (nI ne), (nI lk), (nI (at0 + 1)), (nI 0), (nI (nd + 1)), (nI wr), (nI (at0 + 1)), (nI ne), (nI lk), (nI 0), (nI (at0 + 1))]) rfl rfl (show (updA X6 2 K) = (updA (updA X6 2 K) 2 K) from updsA_eq2 (F := X6) (l1 := [(2, K)]) (l2 := [(2, K), (2, K)]) (V := [K, K, K]) rfl rfl) hP
  have hD : va_D A (mW G h0 a (upd (upd (upd (upd (upd (upd (upd (upd F 15 0) 27 (nI (nd + 1))) 31 (nI wr)) 64 (nI (at0 + 1))) 65 (nI ne)) 66 (nI lk)) 15 (nI 0)) 64 (nI (at0 + 1))) (updA (updA X6 2 K) 2 K)) := mW_D hD
  refine pc_V0 (G := G) (As := [.int 40]) (rest := []) hx hb hml hown hq hE hX pX0_al hP hD hS hA hl.1 (R_take l G h0 a (upd (upd (upd (upd (upd (upd F 15 0) 27 (nI (nd + 1))) 31 (nI wr)) 64 (nI (at0 + 1))) 65 (nI ne)) 66 (nI lk)) (updA X6 2 K) (at0 + 1) T 0 K 40 (by omega) (by omega) hK (by omega) (by decide) (by decide)) (gV pw_1614 pw_1615 pw_1616 pw_1523 pw_1601) hV_X12_take 0 9 rfl rfl rfl rfl (Nat.le_of_ble_eq_true rfl) dX12_loop_30 ⟨Nat.le_of_ble_eq_true rfl, Nat.le_of_ble_eq_true rfl⟩ ⟨(by show 4 + 1 ≤ (26 * n + 43); omega), (by show 8 + (2 + 11) + 103 ≤ (2000 * n + 4300); omega)⟩ (fun v16 u14 H locs hw15 hP hD hS => ?_)
  obtain ⟨at17, fa18, pl19⟩ := u14
  obtain ⟨hw15, h20, h21, h22, h23, h24, h25, h26, h27⟩ := hw15
  have h20 : (at0 + 1) ≤ at17 := h20
  have h21 : at17 ≤ T := h21
  have h22 : 0 ≤ fa18 := h22
  have h23 : fa18 ≤ 100 := h23
  have h24 : If (0 < 0) (at17 = (at0 + 1) ∧ fa18 = 0) := h24
  have h25 : at17 ≤ (at0 + 1) + 1 := h25
  have h26 : (at0 + 1) + 1 ≤ at17 + fa18 := h26
  have h27 : If (fa18 = 0) (K (at0 + 1) = 40) := h27
  obtain rfl : v16 = none := hw15
  have hP : va_P G.1 pCl (mW G h0 a (upd (upd (upd (upd (upd (upd (upd F 15 (nI fa18)) 16 pl19) 27 (nI (nd + 1))) 31 (nI wr)) 64 (nI at17)) 65 (nI ne)) 66 (nI lk)) (updA X6 2 K)) _ := mW_to (F := F) (l1 := [(15, 0), (27, (nI (nd + 1))), (31, (nI wr)), (64, (nI (at0 + 1))), (65, (nI ne)), (66, (nI lk)), (15, (nI fa18)), (16, pl19), (64, (nI at17))]) (l2 := [(15, (nI fa18)), (16, pl19), (27, (nI (nd + 1))), (31, (nI wr)), (64, (nI at17)), (65, (nI ne)), (66, (nI lk))]) (V := [(nI fa18), (nI (nd + 1)), (nI wr), (nI at17), (nI ne), (nI lk), (nI fa18), pl19, (nI at17), (nI fa18), pl19, (nI (nd + 1)), (nI wr), (nI at17), (nI ne), (nI lk)]) rfl rfl (show (updA (updA X6 2 K) 2 K) = (updA X6 2 K) from updsA_eq2 (F := X6) (l1 := [(2, K), (2, K)]) (l2 := [(2, K)]) (V := [K, K, K]) rfl rfl) hP
  have hD : va_D A (mW G h0 a (upd (upd (upd (upd (upd (upd (upd F 15 (nI fa18)) 16 pl19) 27 (nI (nd + 1))) 31 (nI wr)) 64 (nI at17)) 65 (nI ne)) 66 (nI lk)) (updA X6 2 K)) := mW_D hD
  refine W.widen (k := 0) (n := 0) (Nat.le_of_ble_eq_true rfl) (Nat.le_of_ble_eq_true rfl) ?_
  refine W.eq (g2 := F0 m 33 ls []) rfl ?_
  rcases Nat.eq_zero_or_pos fa18 with e28 | e28
  · subst e28
    have hP : va_P G.1 pCl (mW G h0 a (upd (upd (upd (upd (upd (upd (upd F 15 0) 16 pl19) 27 (nI (nd + 1))) 31 (nI wr)) 64 (nI at17)) 65 (nI ne)) 66 (nI lk)) (updA X6 2 K)) _ := hP
    have hD : va_D A (mW G h0 a (upd (upd (upd (upd (upd (upd (upd F 15 0) 16 pl19) 27 (nI (nd + 1))) 31 (nI wr)) 64 (nI at17)) 65 (nI ne)) 66 (nI lk)) (updA X6 2 K)) := mW_D hD
    have cut_a : ∀ (at2 : Nat) (nd2 : Nat) (wr2 : Nat) (lk2 : Nat) (pl2 : Int32) (X2 : Nat → Nat → Int32) (xa3 : Int32) (H : Heap) (locs : List Loc) (ls : Array Slot), (at0 + 1 ≤ at2) → (nd ≤ nd2) → (nd2 + 2 * at0 ≤ nd + 2 * at2) → (wr ≤ wr2) → (wr2 + at0 ≤ wr + at2) → (lk ≤ lk2) → (lk2 ≤ 60) → (at2 ≤ T) → (nd + 1 ≤ nd2) → (Kp B X2 wr2 T) → (Low B X2 nd wr) → (Frs K T wr2 X2 nd nd2 nd [(nd, (280 + 4 * (21 - ne)))]) → (Nd X2 nd 36 xa3 (-1) (-1) (-1)) → va_P G.1 pCl (mW G h0 a (upd (upd (upd (upd (upd (upd (upd F 15 0) 16 pl2) 27 (nI nd2)) 31 (nI wr2)) 64 (nI at2)) 65 (nI ne)) 66 (nI lk2)) (updA X2 2 K)) H → va_D A (mW G h0 a (upd (upd (upd (upd (upd (upd (upd F 15 0) 16 pl2) 27 (nI nd2)) 31 (nI wr2)) 64 (nI at2)) 65 (nI ne)) 66 (nI lk2)) (updA X2 2 K)) → va_S A s.heap H locs → lv_has ls 5 [(1, .int (nI nd)), (0, .ref h0)] → W p l e (headSpec (Cond.code yX12_loop cX12_loop 5 (some .int) :: pw) ({ frames := (26 * n + 43), cells := 0, slots := 0, locals := (2000 * n + 4300) } : Room)).room s m ([.ref h0] : List Value).toArray below meth c H locs 0 0 (MQ below (pQ G A (fun (v : Option Value) (u : Nat × Nat × Int32 × Nat × Nat × Nat × Nat × (Nat → Nat → Int32)) => v = some (.int (nI u.2.2.2.2.2.2.1)) ∧ (at0 ≤ u.1) ∧ (u.1 ≤ T) ∧ (u.2.1 ≤ 100) ∧ (nd ≤ u.2.2.2.1) ∧ (u.2.2.2.1 + 2 * at0 ≤ nd + 2 * u.1 + 100000 * u.2.1) ∧ (u.2.2.2.1 + 2 * at0 ≤ nd + 2 * u.1 + (60 * (21 - ne) + 40)) ∧ (wr ≤ u.2.2.2.2.2.1) ∧ (u.2.2.2.2.2.1 + at0 ≤ wr + u.1) ∧ (lk ≤ u.2.2.2.2.1) ∧ (u.2.2.2.2.1 ≤ 60 + 100 * u.2.1) ∧ (at0 + 1 ≤ u.1 + u.2.1) ∧ (u.2.2.2.2.2.2.1 ≤ u.2.2.2.1) ∧ (Kp B u.2.2.2.2.2.2.2 u.2.2.2.2.2.1 T) ∧ (If (u.2.1 = 0) (Low B u.2.2.2.2.2.2.2 nd wr ∧ Frs K T u.2.2.2.2.2.1 u.2.2.2.2.2.2.2 nd u.2.2.2.1 20000 [(u.2.2.2.2.2.2.1, (280 + 4 * (21 - ne)))] ∧ kcl 3 (u.2.2.2.2.2.2.2 9 u.2.2.2.2.2.2.1) = true))) (fun u => (mW G h0 a (upd (upd (upd (upd (upd (upd (upd F 15 (nI u.2.1)) 16 u.2.2.1) 27 (nI u.2.2.2.1)) 31 (nI u.2.2.2.2.2.1)) 64 (nI u.1)) 65 (nI ne)) 66 (nI u.2.2.2.2.1)) (updA u.2.2.2.2.2.2.2 2 K)))) ([.ref h0] : List Value).toArray s ({ frames := (26 * n + 43), cells := 0, slots := 0, locals := (2000 * n + 4300) } : Room).cells ({ frames := (26 * n + 43), cells := 0, slots := 0, locals := (2000 * n + 4300) } : Room).slots A) (F0 m 139 ls []) := by
      intro at2 nd2 wr2 lk2 pl2 X2 xa3 H locs ls hl1 hl3 hl4 hl5 hl6 hl7 hl8 ha2 hnd2 hkp2 hlo2 hf2 hn2 hP hD hS hl
      refine lv_aload_n hx hb dX12_loop_139 rfl (lv_at hl 1 rfl) ?_
      refine lv_bipush (v := 59) hx hb dX12_loop_140 (by decide) ?_
      have hP : va_P G.1 pCl (mW G h0 a (upd (upd (upd (upd (upd (upd (upd (upd (upd F 15 0) 16 pl2) 27 (nI nd2)) 31 (nI wr2)) 64 (nI at2)) 65 (nI ne)) 66 (nI lk2)) 15 (nI 0)) 64 (nI at2)) (updA (updA X2 2 K) 2 K)) _ := mW_to (F := F) (l1 := [(15, 0), (16, pl2), (27, (nI nd2)), (31, (nI wr2)), (64, (nI at2)), (65, (nI ne)), (66, (nI lk2))]) (l2 := [(15, 0), (16, pl2), (27, (nI nd2)), (31, (nI wr2)), (64, (nI at2)), (65, (nI ne)), (66, (nI lk2)), (15, (nI 0)), (64, (nI at2))]) (V := [(nI 0), pl2, (nI nd2), (nI wr2), (nI at2), (nI ne), (nI lk2), (nI 0), pl2, (nI nd2), (nI wr2), (nI at2), (nI ne), (nI lk2), (nI 0), (nI at2)]) rfl rfl (show (updA X2 2 K) = (updA (updA X2 2 K) 2 K) from updsA_eq2 (F := X2) (l1 := [(2, K)]) (l2 := [(2, K), (2, K)]) (V := [K, K, K]) rfl rfl) hP
      have hD : va_D A (mW G h0 a (upd (upd (upd (upd (upd (upd (upd (upd (upd F 15 0) 16 pl2) 27 (nI nd2)) 31 (nI wr2)) 64 (nI at2)) 65 (nI ne)) 66 (nI lk2)) 15 (nI 0)) 64 (nI at2)) (updA (updA X2 2 K) 2 K)) := mW_D hD
      refine pc_V0 (G := G) (As := [.int 59]) (rest := []) hx hb hml hown hq hE hX pX0_al hP hD hS hA hl.1 (R_take l G h0 a (upd (upd (upd (upd (upd (upd (upd F 15 0) 16 pl2) 27 (nI nd2)) 31 (nI wr2)) 64 (nI at2)) 65 (nI ne)) 66 (nI lk2)) (updA X2 2 K) at2 T 0 K 59 (by omega) (by omega) hK (by omega) (by decide) (by decide)) (gV pw_1614 pw_1615 pw_1616 pw_1523 pw_1601) hV_X12_take 0 9 rfl rfl rfl rfl (Nat.le_of_ble_eq_true rfl) dX12_loop_142 ⟨Nat.le_of_ble_eq_true rfl, Nat.le_of_ble_eq_true rfl⟩ ⟨(by show 4 + 1 ≤ (26 * n + 43); omega), (by show 8 + (2 + 11) + 103 ≤ (2000 * n + 4300); omega)⟩ (fun v31 u29 H locs hw30 hP hD hS => ?_)
      obtain ⟨at32, fa33, pl34⟩ := u29
      obtain ⟨hw30, h35, h36, h37, h38, h39, h40, h41, h42⟩ := hw30
      have h35 : at2 ≤ at32 := h35
      have h36 : at32 ≤ T := h36
      have h37 : 0 ≤ fa33 := h37
      have h38 : fa33 ≤ 100 := h38
      have h39 : If (0 < 0) (at32 = at2 ∧ fa33 = 0) := h39
      have h40 : at32 ≤ at2 + 1 := h40
      have h41 : at2 + 1 ≤ at32 + fa33 := h41
      have h42 : If (fa33 = 0) (K at2 = 59) := h42
      obtain rfl : v31 = none := hw30
      have hP : va_P G.1 pCl (mW G h0 a (upd (upd (upd (upd (upd (upd (upd F 15 (nI fa33)) 16 pl34) 27 (nI nd2)) 31 (nI wr2)) 64 (nI at32)) 65 (nI ne)) 66 (nI lk2)) (updA X2 2 K)) _ := mW_to (F := F) (l1 := [(15, 0), (16, pl2), (27, (nI nd2)), (31, (nI wr2)), (64, (nI at2)), (65, (nI ne)), (66, (nI lk2)), (15, (nI fa33)), (16, pl34), (64, (nI at32))]) (l2 := [(15, (nI fa33)), (16, pl34), (27, (nI nd2)), (31, (nI wr2)), (64, (nI at32)), (65, (nI ne)), (66, (nI lk2))]) (V := [(nI fa33), pl34, (nI nd2), (nI wr2), (nI at32), (nI ne), (nI lk2), (nI fa33), pl34, (nI at32), (nI fa33), pl34, (nI nd2), (nI wr2), (nI at32), (nI ne), (nI lk2)]) rfl rfl (show (updA (updA X2 2 K) 2 K) = (updA X2 2 K) from updsA_eq2 (F := X2) (l1 := [(2, K), (2, K)]) (l2 := [(2, K)]) (V := [K, K, K]) rfl rfl) hP
      have hD : va_D A (mW G h0 a (upd (upd (upd (upd (upd (upd (upd F 15 (nI fa33)) 16 pl34) 27 (nI nd2)) 31 (nI wr2)) 64 (nI at32)) 65 (nI ne)) 66 (nI lk2)) (updA X2 2 K)) := mW_D hD
      refine W.widen (k := 0) (n := 0) (Nat.le_of_ble_eq_true rfl) (Nat.le_of_ble_eq_true rfl) ?_
      refine W.eq (g2 := F0 m 145 ls []) rfl ?_
      rcases Nat.eq_zero_or_pos fa33 with e43 | e43
      · subst e43
        have hP : va_P G.1 pCl (mW G h0 a (upd (upd (upd (upd (upd (upd (upd F 15 0) 16 pl34) 27 (nI nd2)) 31 (nI wr2)) 64 (nI at32)) 65 (nI ne)) 66 (nI lk2)) (updA X2 2 K)) _ := hP
        have hD : va_D A (mW G h0 a (upd (upd (upd (upd (upd (upd (upd F 15 0) 16 pl34) 27 (nI nd2)) 31 (nI wr2)) 64 (nI at32)) 65 (nI ne)) 66 (nI lk2)) (updA X2 2 K)) := mW_D hD
        have cut_b : ∀ (at2 : Nat) (nd2 : Nat) (wr2 : Nat) (lk2 : Nat) (pl2 : Int32) (X2 : Nat → Nat → Int32) (xa3 : Int32) (xb3 : Int32) (H : Heap) (locs : List Loc) (ls : Array Slot), (at0 + 1 ≤ at2) → (nd ≤ nd2) → (nd2 + 2 * at0 ≤ nd + 2 * at2) → (wr ≤ wr2) → (wr2 + at0 ≤ wr + at2) → (lk ≤ lk2) → (lk2 ≤ 60) → (at2 ≤ T) → (nd + 1 ≤ nd2) → (Kp B X2 wr2 T) → (Low B X2 nd wr) → (Frs K T wr2 X2 nd nd2 nd [(nd, (280 + 4 * (21 - ne)))]) → (Nd X2 nd 36 xa3 xb3 (-1) (-1)) → va_P G.1 pCl (mW G h0 a (upd (upd (upd (upd (upd (upd (upd F 15 0) 16 pl2) 27 (nI nd2)) 31 (nI wr2)) 64 (nI at2)) 65 (nI ne)) 66 (nI lk2)) (updA X2 2 K)) H → va_D A (mW G h0 a (upd (upd (upd (upd (upd (upd (upd F 15 0) 16 pl2) 27 (nI nd2)) 31 (nI wr2)) 64 (nI at2)) 65 (nI ne)) 66 (nI lk2)) (updA X2 2 K)) → va_S A s.heap H locs → lv_has ls 5 [(1, .int (nI nd)), (0, .ref h0)] → W p l e (headSpec (Cond.code yX12_loop cX12_loop 5 (some .int) :: pw) ({ frames := (26 * n + 43), cells := 0, slots := 0, locals := (2000 * n + 4300) } : Room)).room s m ([.ref h0] : List Value).toArray below meth c H locs 0 0 (MQ below (pQ G A (fun (v : Option Value) (u : Nat × Nat × Int32 × Nat × Nat × Nat × Nat × (Nat → Nat → Int32)) => v = some (.int (nI u.2.2.2.2.2.2.1)) ∧ (at0 ≤ u.1) ∧ (u.1 ≤ T) ∧ (u.2.1 ≤ 100) ∧ (nd ≤ u.2.2.2.1) ∧ (u.2.2.2.1 + 2 * at0 ≤ nd + 2 * u.1 + 100000 * u.2.1) ∧ (u.2.2.2.1 + 2 * at0 ≤ nd + 2 * u.1 + (60 * (21 - ne) + 40)) ∧ (wr ≤ u.2.2.2.2.2.1) ∧ (u.2.2.2.2.2.1 + at0 ≤ wr + u.1) ∧ (lk ≤ u.2.2.2.2.1) ∧ (u.2.2.2.2.1 ≤ 60 + 100 * u.2.1) ∧ (at0 + 1 ≤ u.1 + u.2.1) ∧ (u.2.2.2.2.2.2.1 ≤ u.2.2.2.1) ∧ (Kp B u.2.2.2.2.2.2.2 u.2.2.2.2.2.1 T) ∧ (If (u.2.1 = 0) (Low B u.2.2.2.2.2.2.2 nd wr ∧ Frs K T u.2.2.2.2.2.1 u.2.2.2.2.2.2.2 nd u.2.2.2.1 20000 [(u.2.2.2.2.2.2.1, (280 + 4 * (21 - ne)))] ∧ kcl 3 (u.2.2.2.2.2.2.2 9 u.2.2.2.2.2.2.1) = true))) (fun u => (mW G h0 a (upd (upd (upd (upd (upd (upd (upd F 15 (nI u.2.1)) 16 u.2.2.1) 27 (nI u.2.2.2.1)) 31 (nI u.2.2.2.2.2.1)) 64 (nI u.1)) 65 (nI ne)) 66 (nI u.2.2.2.2.1)) (updA u.2.2.2.2.2.2.2 2 K)))) ([.ref h0] : List Value).toArray s ({ frames := (26 * n + 43), cells := 0, slots := 0, locals := (2000 * n + 4300) } : Room).cells ({ frames := (26 * n + 43), cells := 0, slots := 0, locals := (2000 * n + 4300) } : Room).slots A) (F0 m 171 ls []) := by
          intro at2 nd2 wr2 lk2 pl2 X2 xa3 xb3 H locs ls hl1 hl3 hl4 hl5 hl6 hl7 hl8 ha2 hnd2 hkp2 hlo2 hf2 hn2 hP hD hS hl
          refine lv_aload_n hx hb dX12_loop_171 rfl (lv_at hl 1 rfl) ?_
          refine lv_bipush (v := 59) hx hb dX12_loop_172 (by decide) ?_
          have hP : va_P G.1 pCl (mW G h0 a (upd (upd (upd (upd (upd (upd (upd (upd (upd F 15 0) 16 pl2) 27 (nI nd2)) 31 (nI wr2)) 64 (nI at2)) 65 (nI ne)) 66 (nI lk2)) 15 (nI 0)) 64 (nI at2)) (updA (updA X2 2 K) 2 K)) _ := mW_to (F := F) (l1 := [(15, 0), (16, pl2), (27, (nI nd2)), (31, (nI wr2)), (64, (nI at2)), (65, (nI ne)), (66, (nI lk2))]) (l2 := [(15, 0), (16, pl2), (27, (nI nd2)), (31, (nI wr2)), (64, (nI at2)), (65, (nI ne)), (66, (nI lk2)), (15, (nI 0)), (64, (nI at2))]) (V := [(nI 0), pl2, (nI nd2), (nI wr2), (nI at2), (nI ne), (nI lk2), (nI 0), pl2, (nI nd2), (nI wr2), (nI at2), (nI ne), (nI lk2), (nI 0), (nI at2)]) rfl rfl (show (updA X2 2 K) = (updA (updA X2 2 K) 2 K) from updsA_eq2 (F := X2) (l1 := [(2, K)]) (l2 := [(2, K), (2, K)]) (V := [K, K, K]) rfl rfl) hP
          have hD : va_D A (mW G h0 a (upd (upd (upd (upd (upd (upd (upd (upd (upd F 15 0) 16 pl2) 27 (nI nd2)) 31 (nI wr2)) 64 (nI at2)) 65 (nI ne)) 66 (nI lk2)) 15 (nI 0)) 64 (nI at2)) (updA (updA X2 2 K) 2 K)) := mW_D hD
          refine pc_V0 (G := G) (As := [.int 59]) (rest := []) hx hb hml hown hq hE hX pX0_al hP hD hS hA hl.1 (R_take l G h0 a (upd (upd (upd (upd (upd (upd (upd F 15 0) 16 pl2) 27 (nI nd2)) 31 (nI wr2)) 64 (nI at2)) 65 (nI ne)) 66 (nI lk2)) (updA X2 2 K) at2 T 0 K 59 (by omega) (by omega) hK (by omega) (by decide) (by decide)) (gV pw_1614 pw_1615 pw_1616 pw_1523 pw_1601) hV_X12_take 0 9 rfl rfl rfl rfl (Nat.le_of_ble_eq_true rfl) dX12_loop_174 ⟨Nat.le_of_ble_eq_true rfl, Nat.le_of_ble_eq_true rfl⟩ ⟨(by show 4 + 1 ≤ (26 * n + 43); omega), (by show 8 + (2 + 11) + 103 ≤ (2000 * n + 4300); omega)⟩ (fun v46 u44 H locs hw45 hP hD hS => ?_)
          obtain ⟨at47, fa48, pl49⟩ := u44
          obtain ⟨hw45, h50, h51, h52, h53, h54, h55, h56, h57⟩ := hw45
          have h50 : at2 ≤ at47 := h50
          have h51 : at47 ≤ T := h51
          have h52 : 0 ≤ fa48 := h52
          have h53 : fa48 ≤ 100 := h53
          have h54 : If (0 < 0) (at47 = at2 ∧ fa48 = 0) := h54
          have h55 : at47 ≤ at2 + 1 := h55
          have h56 : at2 + 1 ≤ at47 + fa48 := h56
          have h57 : If (fa48 = 0) (K at2 = 59) := h57
          obtain rfl : v46 = none := hw45
          have hP : va_P G.1 pCl (mW G h0 a (upd (upd (upd (upd (upd (upd (upd F 15 (nI fa48)) 16 pl49) 27 (nI nd2)) 31 (nI wr2)) 64 (nI at47)) 65 (nI ne)) 66 (nI lk2)) (updA X2 2 K)) _ := mW_to (F := F) (l1 := [(15, 0), (16, pl2), (27, (nI nd2)), (31, (nI wr2)), (64, (nI at2)), (65, (nI ne)), (66, (nI lk2)), (15, (nI fa48)), (16, pl49), (64, (nI at47))]) (l2 := [(15, (nI fa48)), (16, pl49), (27, (nI nd2)), (31, (nI wr2)), (64, (nI at47)), (65, (nI ne)), (66, (nI lk2))]) (V := [(nI fa48), pl49, (nI nd2), (nI wr2), (nI at47), (nI ne), (nI lk2), (nI fa48), pl49, (nI at47), (nI fa48), pl49, (nI nd2), (nI wr2), (nI at47), (nI ne), (nI lk2)]) rfl rfl (show (updA (updA X2 2 K) 2 K) = (updA X2 2 K) from updsA_eq2 (F := X2) (l1 := [(2, K), (2, K)]) (l2 := [(2, K)]) (V := [K, K, K]) rfl rfl) hP
          have hD : va_D A (mW G h0 a (upd (upd (upd (upd (upd (upd (upd F 15 (nI fa48)) 16 pl49) 27 (nI nd2)) 31 (nI wr2)) 64 (nI at47)) 65 (nI ne)) 66 (nI lk2)) (updA X2 2 K)) := mW_D hD
          refine W.widen (k := 0) (n := 0) (Nat.le_of_ble_eq_true rfl) (Nat.le_of_ble_eq_true rfl) ?_
          refine W.eq (g2 := F0 m 177 ls []) rfl ?_
          rcases Nat.eq_zero_or_pos fa48 with e58 | e58
          · subst e58
            have hP : va_P G.1 pCl (mW G h0 a (upd (upd (upd (upd (upd (upd (upd F 15 0) 16 pl49) 27 (nI nd2)) 31 (nI wr2)) 64 (nI at47)) 65 (nI ne)) 66 (nI lk2)) (updA X2 2 K)) _ := hP
            have hD : va_D A (mW G h0 a (upd (upd (upd (upd (upd (upd (upd F 15 0) 16 pl49) 27 (nI nd2)) 31 (nI wr2)) 64 (nI at47)) 65 (nI ne)) 66 (nI lk2)) (updA X2 2 K)) := mW_D hD
            have cut_c : ∀ (at2 : Nat) (nd2 : Nat) (wr2 : Nat) (lk2 : Nat) (pl2 : Int32) (X2 : Nat → Nat → Int32) (xa3 : Int32) (xb3 : Int32) (xc3 : Int32) (H : Heap) (locs : List Loc) (ls : Array Slot), (at0 + 1 ≤ at2) → (nd ≤ nd2) → (nd2 + 2 * at0 ≤ nd + 2 * at2) → (wr ≤ wr2) → (wr2 + at0 ≤ wr + at2) → (lk ≤ lk2) → (lk2 ≤ 60) → (at2 ≤ T) → (nd + 1 ≤ nd2) → (Kp B X2 wr2 T) → (Low B X2 nd wr) → (Frs K T wr2 X2 nd nd2 nd [(nd, (280 + 4 * (21 - ne)))]) → (Nd X2 nd 36 xa3 xb3 xc3 (-1)) → va_P G.1 pCl (mW G h0 a (upd (upd (upd (upd (upd (upd (upd F 15 0) 16 pl2) 27 (nI nd2)) 31 (nI wr2)) 64 (nI at2)) 65 (nI ne)) 66 (nI lk2)) (updA X2 2 K)) H → va_D A (mW G h0 a (upd (upd (upd (upd (upd (upd (upd F 15 0) 16 pl2) 27 (nI nd2)) 31 (nI wr2)) 64 (nI at2)) 65 (nI ne)) 66 (nI lk2)) (updA X2 2 K)) → va_S A s.heap H locs → lv_has ls 5 [(1, .int (nI nd)), (0, .ref h0)] → W p l e (headSpec (Cond.code yX12_loop cX12_loop 5 (some .int) :: pw) ({ frames := (26 * n + 43), cells := 0, slots := 0, locals := (2000 * n + 4300) } : Room)).room s m ([.ref h0] : List Value).toArray below meth c H locs 0 0 (MQ below (pQ G A (fun (v : Option Value) (u : Nat × Nat × Int32 × Nat × Nat × Nat × Nat × (Nat → Nat → Int32)) => v = some (.int (nI u.2.2.2.2.2.2.1)) ∧ (at0 ≤ u.1) ∧ (u.1 ≤ T) ∧ (u.2.1 ≤ 100) ∧ (nd ≤ u.2.2.2.1) ∧ (u.2.2.2.1 + 2 * at0 ≤ nd + 2 * u.1 + 100000 * u.2.1) ∧ (u.2.2.2.1 + 2 * at0 ≤ nd + 2 * u.1 + (60 * (21 - ne) + 40)) ∧ (wr ≤ u.2.2.2.2.2.1) ∧ (u.2.2.2.2.2.1 + at0 ≤ wr + u.1) ∧ (lk ≤ u.2.2.2.2.1) ∧ (u.2.2.2.2.1 ≤ 60 + 100 * u.2.1) ∧ (at0 + 1 ≤ u.1 + u.2.1) ∧ (u.2.2.2.2.2.2.1 ≤ u.2.2.2.1) ∧ (Kp B u.2.2.2.2.2.2.2 u.2.2.2.2.2.1 T) ∧ (If (u.2.1 = 0) (Low B u.2.2.2.2.2.2.2 nd wr ∧ Frs K T u.2.2.2.2.2.1 u.2.2.2.2.2.2.2 nd u.2.2.2.1 20000 [(u.2.2.2.2.2.2.1, (280 + 4 * (21 - ne)))] ∧ kcl 3 (u.2.2.2.2.2.2.2 9 u.2.2.2.2.2.2.1) = true))) (fun u => (mW G h0 a (upd (upd (upd (upd (upd (upd (upd F 15 (nI u.2.1)) 16 u.2.2.1) 27 (nI u.2.2.2.1)) 31 (nI u.2.2.2.2.2.1)) 64 (nI u.1)) 65 (nI ne)) 66 (nI u.2.2.2.2.1)) (updA u.2.2.2.2.2.2.2 2 K)))) ([.ref h0] : List Value).toArray s ({ frames := (26 * n + 43), cells := 0, slots := 0, locals := (2000 * n + 4300) } : Room).cells ({ frames := (26 * n + 43), cells := 0, slots := 0, locals := (2000 * n + 4300) } : Room).slots A) (F0 m 219 ls []) := by
              intro at2 nd2 wr2 lk2 pl2 X2 xa3 xb3 xc3 H locs ls hl1 hl3 hl4 hl5 hl6 hl7 hl8 ha2 hnd2 hkp2 hlo2 hf2 hn2 hP hD hS hl
              refine lv_aload_n hx hb dX12_loop_219 rfl (lv_at hl 1 rfl) ?_
              refine lv_bipush (v := 41) hx hb dX12_loop_220 (by decide) ?_
              have hP : va_P G.1 pCl (mW G h0 a (upd (upd (upd (upd (upd (upd (upd (upd (upd F 15 0) 16 pl2) 27 (nI nd2)) 31 (nI wr2)) 64 (nI at2)) 65 (nI ne)) 66 (nI lk2)) 15 (nI 0)) 64 (nI at2)) (updA (updA X2 2 K) 2 K)) _ := mW_to (F := F) (l1 := [(15, 0), (16, pl2), (27, (nI nd2)), (31, (nI wr2)), (64, (nI at2)), (65, (nI ne)), (66, (nI lk2))]) (l2 := [(15, 0), (16, pl2), (27, (nI nd2)), (31, (nI wr2)), (64, (nI at2)), (65, (nI ne)), (66, (nI lk2)), (15, (nI 0)), (64, (nI at2))]) (V := [(nI 0), pl2, (nI nd2), (nI wr2), (nI at2), (nI ne), (nI lk2), (nI 0), pl2, (nI nd2), (nI wr2), (nI at2), (nI ne), (nI lk2), (nI 0), (nI at2)]) rfl rfl (show (updA X2 2 K) = (updA (updA X2 2 K) 2 K) from updsA_eq2 (F := X2) (l1 := [(2, K)]) (l2 := [(2, K), (2, K)]) (V := [K, K, K]) rfl rfl) hP
              have hD : va_D A (mW G h0 a (upd (upd (upd (upd (upd (upd (upd (upd (upd F 15 0) 16 pl2) 27 (nI nd2)) 31 (nI wr2)) 64 (nI at2)) 65 (nI ne)) 66 (nI lk2)) 15 (nI 0)) 64 (nI at2)) (updA (updA X2 2 K) 2 K)) := mW_D hD
              refine pc_V0 (G := G) (As := [.int 41]) (rest := []) hx hb hml hown hq hE hX pX0_al hP hD hS hA hl.1 (R_take l G h0 a (upd (upd (upd (upd (upd (upd (upd F 15 0) 16 pl2) 27 (nI nd2)) 31 (nI wr2)) 64 (nI at2)) 65 (nI ne)) 66 (nI lk2)) (updA X2 2 K) at2 T 0 K 41 (by omega) (by omega) hK (by omega) (by decide) (by decide)) (gV pw_1614 pw_1615 pw_1616 pw_1523 pw_1601) hV_X12_take 0 9 rfl rfl rfl rfl (Nat.le_of_ble_eq_true rfl) dX12_loop_222 ⟨Nat.le_of_ble_eq_true rfl, Nat.le_of_ble_eq_true rfl⟩ ⟨(by show 4 + 1 ≤ (26 * n + 43); omega), (by show 8 + (2 + 11) + 103 ≤ (2000 * n + 4300); omega)⟩ (fun v61 u59 H locs hw60 hP hD hS => ?_)
              obtain ⟨at62, fa63, pl64⟩ := u59
              obtain ⟨hw60, h65, h66, h67, h68, h69, h70, h71, h72⟩ := hw60
              have h65 : at2 ≤ at62 := h65
              have h66 : at62 ≤ T := h66
              have h67 : 0 ≤ fa63 := h67
              have h68 : fa63 ≤ 100 := h68
              have h69 : If (0 < 0) (at62 = at2 ∧ fa63 = 0) := h69
              have h70 : at62 ≤ at2 + 1 := h70
              have h71 : at2 + 1 ≤ at62 + fa63 := h71
              have h72 : If (fa63 = 0) (K at2 = 41) := h72
              obtain rfl : v61 = none := hw60
              have hP : va_P G.1 pCl (mW G h0 a (upd (upd (upd (upd (upd (upd (upd F 15 (nI fa63)) 16 pl64) 27 (nI nd2)) 31 (nI wr2)) 64 (nI at62)) 65 (nI ne)) 66 (nI lk2)) (updA X2 2 K)) _ := mW_to (F := F) (l1 := [(15, 0), (16, pl2), (27, (nI nd2)), (31, (nI wr2)), (64, (nI at2)), (65, (nI ne)), (66, (nI lk2)), (15, (nI fa63)), (16, pl64), (64, (nI at62))]) (l2 := [(15, (nI fa63)), (16, pl64), (27, (nI nd2)), (31, (nI wr2)), (64, (nI at62)), (65, (nI ne)), (66, (nI lk2))]) (V := [(nI fa63), pl64, (nI nd2), (nI wr2), (nI at62), (nI ne), (nI lk2), (nI fa63), pl64, (nI at62), (nI fa63), pl64, (nI nd2), (nI wr2), (nI at62), (nI ne), (nI lk2)]) rfl rfl (show (updA (updA X2 2 K) 2 K) = (updA X2 2 K) from updsA_eq2 (F := X2) (l1 := [(2, K), (2, K)]) (l2 := [(2, K)]) (V := [K, K, K]) rfl rfl) hP
              have hD : va_D A (mW G h0 a (upd (upd (upd (upd (upd (upd (upd F 15 (nI fa63)) 16 pl64) 27 (nI nd2)) 31 (nI wr2)) 64 (nI at62)) 65 (nI ne)) 66 (nI lk2)) (updA X2 2 K)) := mW_D hD
              refine W.widen (k := 0) (n := 0) (Nat.le_of_ble_eq_true rfl) (Nat.le_of_ble_eq_true rfl) ?_
              refine W.eq (g2 := F0 m 225 ls []) rfl ?_
              rcases Nat.eq_zero_or_pos fa63 with e73 | e73
              · subst e73
                have hP : va_P G.1 pCl (mW G h0 a (upd (upd (upd (upd (upd (upd (upd F 15 0) 16 pl64) 27 (nI nd2)) 31 (nI wr2)) 64 (nI at62)) 65 (nI ne)) 66 (nI lk2)) (updA X2 2 K)) _ := hP
                have hD : va_D A (mW G h0 a (upd (upd (upd (upd (upd (upd (upd F 15 0) 16 pl64) 27 (nI nd2)) 31 (nI wr2)) 64 (nI at62)) 65 (nI ne)) 66 (nI lk2)) (updA X2 2 K)) := mW_D hD
                refine lv_aload_n hx hb dX12_loop_225 rfl (lv_at hl 1 rfl) ?_
                refine r_get (v := .ref (a 15)) hx hb hown hq hE hP 23 56 tFX12_23 (by decide) pw_1445 rfl dX12_loop_226 ?_
                refine lv_iload_n hx hb dX12_loop_229 rfl (lv_at hl 0 rfl) ?_
                refine lv_aload_n hx hb dX12_loop_230 rfl (lv_at hl 1 rfl) ?_
                have hP : va_P G.1 pCl (mW G h0 a (upd (upd (upd (upd (upd (upd (upd (upd (upd (upd (upd (upd (upd F 15 0) 16 pl64) 27 (nI nd2)) 31 (nI wr2)) 64 (nI at62)) 65 (nI ne)) 66 (nI lk2)) 15 0) 27 (nI nd2)) 31 (nI wr2)) 64 (nI at62)) 65 (nI ne)) 66 (nI lk2)) (updA X2 2 K)) _ := mW_to (F := F) (l1 := [(15, 0), (16, pl64), (27, (nI nd2)), (31, (nI wr2)), (64, (nI at62)), (65, (nI ne)), (66, (nI lk2))]) (l2 := [(15, 0), (16, pl64), (27, (nI nd2)), (31, (nI wr2)), (64, (nI at62)), (65, (nI ne)), (66, (nI lk2)), (15, 0), (27, (nI nd2)), (31, (nI wr2)), (64, (nI at62)), (65, (nI ne)), (66, (nI lk2))]) (V := [0, pl64, (nI nd2), (nI wr2), (nI at62), (nI ne), (nI lk2), 0, pl64, (nI nd2), (nI wr2), (nI at62), (nI ne), (nI lk2), 0, (nI nd2), (nI wr2), (nI at62), (nI ne), (nI lk2)]) rfl rfl rfl hP
                have hD : va_D A (mW G h0 a (upd (upd (upd (upd (upd (upd (upd (upd (upd (upd (upd (upd (upd F 15 0) 16 pl64) 27 (nI nd2)) 31 (nI wr2)) 64 (nI at62)) 65 (nI ne)) 66 (nI lk2)) 15 0) 27 (nI nd2)) 31 (nI wr2)) 64 (nI at62)) 65 (nI ne)) 66 (nI lk2)) (updA X2 2 K)) := mW_D hD
                refine pc_V0 (G := G) (As := []) (rest := [.int (nI nd), .ref (a 15)]) hx hb hml hown hq hE hX pX0_al hP hD hS hA hl.1 (hSt h0 a (upd (upd (upd (upd (upd (upd (upd F 15 0) 16 pl64) 27 (nI nd2)) 31 (nI wr2)) 64 (nI at62)) 65 (nI ne)) 66 (nI lk2)) X2 at62 T ne nd2 wr2 lk2 K (by omega) (by omega) hK (by omega) (by omega) (by omega) (by omega) (hkp2).2 (by omega)) (gV pw_1699 pw_1700 pw_1701 pw_1523 pw_1706) hV_X12_statement 0 9 rfl rfl rfl rfl (Nat.le_of_ble_eq_true rfl) dX12_loop_231 ⟨Nat.le_of_ble_eq_true rfl, Nat.le_of_ble_eq_true rfl⟩ ⟨(by show (26 * n + 40) + 1 ≤ (26 * n + 43); omega), (by show 8 + (3 + 11) + (2000 * n + 4000) ≤ (2000 * n + 4300); omega)⟩ (fun v76 u74 H locs hw75 hP hD hS => ?_)
                obtain ⟨at77, fa78, pl79, nd80, lk81, wr82, r83, X84⟩ := u74
                obtain ⟨hw75, h85, h86, h87, h88, h89, h90, h91, h92, h93, h94, h95, h96, h97, h98⟩ := hw75
                have h85 : at62 ≤ at77 := h85
                have h86 : at77 ≤ T := h86
                have h87 : fa78 ≤ 100 := h87
                have h88 : nd2 ≤ nd80 := h88
                have h89 : nd80 + 2 * at62 ≤ nd2 + 2 * at77 + 100000 * fa78 := h89
                have h90 : nd80 + 2 * at62 ≤ nd2 + 2 * at77 + (60 * (20 - ne) + 40) := h90
                have h91 : wr2 ≤ wr82 := h91
                have h92 : wr82 + at62 ≤ wr2 + at77 := h92
                have h93 : lk2 ≤ lk81 := h93
                have h94 : lk81 ≤ lk2 := h94
                have h95 : at62 + 1 ≤ at77 + fa78 := h95
                have h96 : r83 ≤ nd80 := h96
                have h97 : Kp X2 X84 wr82 T := h97
                have h98 : If (fa78 = 0) (Low X2 X84 nd2 wr2 ∧ Frs K T wr82 X84 nd2 nd80 20000 [(r83, (280 + 4 * (20 - ne)))] ∧ kcl 3 (X84 9 r83) = true) := h98
                obtain rfl : v76 = some (.int (nI r83)) := hw75
                have hP : va_P G.1 pCl (mW G h0 a (upd (upd (upd (upd (upd (upd (upd F 15 (nI fa78)) 16 pl79) 27 (nI nd80)) 31 (nI wr82)) 64 (nI at77)) 65 (nI ne)) 66 (nI lk81)) (updA X84 2 K)) _ := mW_to (F := F) (l1 := [(15, 0), (16, pl64), (27, (nI nd2)), (31, (nI wr2)), (64, (nI at62)), (65, (nI ne)), (66, (nI lk2)), (15, (nI fa78)), (16, pl79), (27, (nI nd80)), (31, (nI wr82)), (64, (nI at77)), (65, (nI ne)), (66, (nI lk81))]) (l2 := [(15, (nI fa78)), (16, pl79), (27, (nI nd80)), (31, (nI wr82)), (64, (nI at77)), (65, (nI ne)), (66, (nI lk81))]) (V := [(nI fa78), pl79, (nI nd80), (nI wr82), (nI at77), (nI ne), (nI lk81), (nI fa78), pl79, (nI nd80), (nI wr82), (nI at77), (nI ne), (nI lk81), (nI fa78), pl79, (nI nd80), (nI wr82), (nI at77), (nI ne), (nI lk81)]) rfl rfl rfl hP
                have hD : va_D A (mW G h0 a (upd (upd (upd (upd (upd (upd (upd F 15 (nI fa78)) 16 pl79) 27 (nI nd80)) 31 (nI wr82)) 64 (nI at77)) 65 (nI ne)) 66 (nI lk81)) (updA X84 2 K)) := mW_D hD
                refine W.widen (k := 0) (n := 0) (Nat.le_of_ble_eq_true rfl) (Nat.le_of_ble_eq_true rfl) ?_
                refine W.eq (g2 := F0 m 234 ls [.int (nI r83), .int (nI nd), .ref (a 15)]) rfl ?_
                have hkp99 : Kp B X84 wr82 T := (Kp.trans hkp2 h97)
                rcases Nat.eq_zero_or_pos fa78 with e100 | e100
                · subst e100
                  have hP : va_P G.1 pCl (mW G h0 a (upd (upd (upd (upd (upd (upd (upd F 15 0) 16 pl79) 27 (nI nd80)) 31 (nI wr82)) 64 (nI at77)) 65 (nI ne)) 66 (nI lk81)) (updA X84 2 K)) _ := hP
                  have hD : va_D A (mW G h0 a (upd (upd (upd (upd (upd (upd (upd F 15 0) 16 pl79) 27 (nI nd80)) 31 (nI wr82)) 64 (nI at77)) 65 (nI ne)) 66 (nI lk81)) (updA X84 2 K)) := mW_D hD
                  obtain ⟨hlw101, hf102, hc103⟩ := h98 rfl
                  have hlo104 : Low B X84 nd wr := (Low.trans hlo2 hlw101 (by omega) (by omega))
                  have hf105 : Frs K T wr82 X84 nd nd2 nd [(nd, (280 + 4 * (21 - ne)))] := (Frs.same hf2 (by omega) (fun j i q1 q2 q3 q4 => (hlw101.1 j i q1 (by omega) (by omega))))
                  have hn106 : Nd X84 nd 36 xa3 xb3 xc3 (-1) := (Nd.low hn2 hlw101 (by omega))
                  have hm107 := Frs.mem hf102
                  refine r_sti (f := (X84 15)) (j := nd) hx hb hE hP hD hS 15 (ma_15 G a _) rfl (mas_15 G a _) (by omega) (by decide) dX12_loop_234 (fun H locs hP hD hS => ?_)
                  have hP : va_P G.1 pCl (mW G h0 a (upd (upd (upd (upd (upd (upd (upd F 15 0) 16 pl79) 27 (nI nd80)) 31 (nI wr82)) 64 (nI at77)) 65 (nI ne)) 66 (nI lk81)) (updA (stR X84 15 nd (nI r83)) 2 K)) _ := mW_to (F := F) (l1 := [(15, 0), (16, pl79), (27, (nI nd80)), (31, (nI wr82)), (64, (nI at77)), (65, (nI ne)), (66, (nI lk81))]) (l2 := [(15, 0), (16, pl79), (27, (nI nd80)), (31, (nI wr82)), (64, (nI at77)), (65, (nI ne)), (66, (nI lk81))]) (V := [0, pl79, (nI nd80), (nI wr82), (nI at77), (nI ne), (nI lk81), 0, pl79, (nI nd80), (nI wr82), (nI at77), (nI ne), (nI lk81)]) rfl rfl (show (updA (updA X84 2 K) 15 (upd (X84 15) nd (nI r83))) = (updA (stR X84 15 nd (nI r83)) 2 K) from updsA_eq2 (F := X84) (l1 := [(2, K), (15, (upd (X84 15) nd (nI r83)))]) (l2 := [(15, (upd (X84 15) nd (nI r83))), (2, K)]) (V := [K, (upd (X84 15) nd (nI r83)), (upd (X84 15) nd (nI r83)), K]) rfl rfl) hP
                  have hD : va_D A (mW G h0 a (upd (upd (upd (upd (upd (upd (upd F 15 0) 16 pl79) 27 (nI nd80)) 31 (nI wr82)) 64 (nI at77)) 65 (nI ne)) 66 (nI lk81)) (updA (stR X84 15 nd (nI r83)) 2 K)) := mW_D hD
                  have hkp108 : Kp B (stR X84 15 nd (nI r83)) wr82 T := (Kp.row hkp99 (by omega))
                  have hlo109 : Low B (stR X84 15 nd (nI r83)) nd wr := (Low.st hlo104 (by omega) (by omega))
                  have hf110 : Frs K T wr82 X84 nd nd80 nd [(nd, (280 + 4 * (21 - ne))), (r83, (280 + 4 * (20 - ne)))] := (Frs.join hf105 hf102 (by omega) (by omega) (by omega))
                  have hn111 : Nd (stR X84 15 nd (nI r83)) nd 36 xa3 xb3 xc3 (nI r83) := (Nd.st hn106 (by omega))
                  have hc112 : kcl 3 ((stR X84 15 nd (nI r83)) 9 r83) = true := by rw [st_ne (by omega)]; exact hc103
                  have hf113 : Frs K T wr82 (stR X84 15 nd (nI r83)) nd nd80 nd [(nd, (280 + 4 * (21 - ne)))] := (Frs.set (s := 4) (k := 36) hf110 (by omega) (by omega) (by simp) (by omega) (by omega) hn106.2.2.2.2 hn106.1 (by decide) ⟨by decide, by decide, by decide, hc103, fun h => absurd h (by decide)⟩ (by omega) (by omega) (by decide) (fun h1 h2 => by omega))
                  have hf114 : Frs K T wr82 (stR X84 15 nd (nI r83)) nd nd80 20000 [(nd, (280 + 4 * (21 - ne)))] := (Frs.fin (k := 36) hf113 hn111 rfl (by decide) (fun h => absurd h (by decide)) (fun h => absurd h (by decide)) (fun h => absurd h (by decide)) (fun _ => nI_m1 (by omega)))
                  refine lv_iload_n hx hb dX12_loop_235 rfl (lv_at hl 0 rfl) ?_
                  have hz115 : at0 ≤ at77 := (by omega)
                  have hz116 : at77 ≤ T := (by omega)
                  have hz117 : 0 ≤ 100 := (by omega)
                  have hz118 : nd ≤ nd80 := (by omega)
                  have hz119 : nd80 + 2 * at0 ≤ nd + 2 * at77 + 100000 * 0 := (by omega)
                  have hz120 : nd80 + 2 * at0 ≤ nd + 2 * at77 + (60 * (21 - ne) + 40) := (by omega)
                  have hz121 : wr ≤ wr82 := (by omega)
                  have hz122 : wr82 + at0 ≤ wr + at77 := (by omega)
                  have hz123 : lk ≤ lk81 := (by omega)
                  have hz124 : lk81 ≤ 60 + 100 * 0 := (by omega)
                  have hz125 : at0 + 1 ≤ at77 + 0 := (by omega)
                  have hz126 : nd ≤ nd80 := (by omega)
                  have hz127 : Kp B (stR X84 15 nd (nI r83)) wr82 T := hkp108
                  have hz128 : If (0 = 0) (Low B (stR X84 15 nd (nI r83)) nd wr ∧ Frs K T wr82 (stR X84 15 nd (nI r83)) nd nd80 20000 [(nd, (280 + 4 * (21 - ne)))] ∧ kcl 3 ((stR X84 15 nd (nI r83)) 9 nd) = true) := (fun _ => ⟨hlo109, Frs.up hf114 (by omega), (by rw [hn111.1]; decide)⟩)
                  have hP : va_P G.1 pCl (mW G h0 a (upd (upd (upd (upd (upd (upd (upd F 15 (nI 0)) 16 pl79) 27 (nI nd80)) 31 (nI wr82)) 64 (nI at77)) 65 (nI ne)) 66 (nI lk81)) (updA (stR X84 15 nd (nI r83)) 2 K)) _ := mW_to (F := F) (l1 := [(15, 0), (16, pl79), (27, (nI nd80)), (31, (nI wr82)), (64, (nI at77)), (65, (nI ne)), (66, (nI lk81))]) (l2 := [(15, (nI 0)), (16, pl79), (27, (nI nd80)), (31, (nI wr82)), (64, (nI at77)), (65, (nI ne)), (66, (nI lk81))]) (V := [(nI 0), pl79, (nI nd80), (nI wr82), (nI at77), (nI ne), (nI lk81), (nI 0), pl79, (nI nd80), (nI wr82), (nI at77), (nI ne), (nI lk81)]) rfl rfl rfl hP
                  have hD : va_D A (mW G h0 a (upd (upd (upd (upd (upd (upd (upd F 15 (nI 0)) 16 pl79) 27 (nI nd80)) 31 (nI wr82)) 64 (nI at77)) 65 (nI ne)) 66 (nI lk81)) (updA (stR X84 15 nd (nI r83)) 2 K)) := mW_D hD
                  exact W.iret (v := (nI nd)) hx hb hr (fun t9 ht9 hW9 => ⟨⟨_, (at77, 0, pl79, nd80, lk81, wr82, nd, (stR X84 15 nd (nI r83))), rfl, ⟨rfl, hz115, hz116, hz117, hz118, hz119, hz120, hz121, hz122, hz123, hz124, hz125, hz126, hz127, hz128⟩, by rw [ht9]; exact hP, hD⟩, hS.F ht9⟩) hS.2.2 dX12_loop_236
                · have e100 := e100
                  refine r_sti (f := (X84 15)) (j := nd) hx hb hE hP hD hS 15 (ma_15 G a _) rfl (mas_15 G a _) (by omega) (by decide) dX12_loop_234 (fun H locs hP hD hS => ?_)
                  have hP : va_P G.1 pCl (mW G h0 a (upd (upd (upd (upd (upd (upd (upd F 15 (nI fa78)) 16 pl79) 27 (nI nd80)) 31 (nI wr82)) 64 (nI at77)) 65 (nI ne)) 66 (nI lk81)) (updA (stR X84 15 nd (nI r83)) 2 K)) _ := mW_to (F := F) (l1 := [(15, (nI fa78)), (16, pl79), (27, (nI nd80)), (31, (nI wr82)), (64, (nI at77)), (65, (nI ne)), (66, (nI lk81))]) (l2 := [(15, (nI fa78)), (16, pl79), (27, (nI nd80)), (31, (nI wr82)), (64, (nI at77)), (65, (nI ne)), (66, (nI lk81))]) (V := [(nI fa78), pl79, (nI nd80), (nI wr82), (nI at77), (nI ne), (nI lk81), (nI fa78), pl79, (nI nd80), (nI wr82), (nI at77), (nI ne), (nI lk81)]) rfl rfl (show (updA (updA X84 2 K) 15 (upd (X84 15) nd (nI r83))) = (updA (stR X84 15 nd (nI r83)) 2 K) from updsA_eq2 (F := X84) (l1 := [(2, K), (15, (upd (X84 15) nd (nI r83)))]) (l2 := [(15, (upd (X84 15) nd (nI r83))), (2, K)]) (V := [K, (upd (X84 15) nd (nI r83)), (upd (X84 15) nd (nI r83)), K]) rfl rfl) hP
                  have hD : va_D A (mW G h0 a (upd (upd (upd (upd (upd (upd (upd F 15 (nI fa78)) 16 pl79) 27 (nI nd80)) 31 (nI wr82)) 64 (nI at77)) 65 (nI ne)) 66 (nI lk81)) (updA (stR X84 15 nd (nI r83)) 2 K)) := mW_D hD
                  have hkp129 : Kp B (stR X84 15 nd (nI r83)) wr82 T := (Kp.row hkp99 (by omega))
                  refine lv_iload_n hx hb dX12_loop_235 rfl (lv_at hl 0 rfl) ?_
                  have hz130 : at0 ≤ at77 := (by omega)
                  have hz131 : at77 ≤ T := (by omega)
                  have hz132 : fa78 ≤ 100 := (by omega)
                  have hz133 : nd ≤ nd80 := (by omega)
                  have hz134 : nd80 + 2 * at0 ≤ nd + 2 * at77 + 100000 * fa78 := (by omega)
                  have hz135 : nd80 + 2 * at0 ≤ nd + 2 * at77 + (60 * (21 - ne) + 40) := (by omega)
                  have hz136 : wr ≤ wr82 := (by omega)
                  have hz137 : wr82 + at0 ≤ wr + at77 := (by omega)
                  have hz138 : lk ≤ lk81 := (by omega)
                  have hz139 : lk81 ≤ 60 + 100 * fa78 := (by omega)
                  have hz140 : at0 + 1 ≤ at77 + fa78 := (by omega)
                  have hz141 : nd ≤ nd80 := (by omega)
                  have hz142 : Kp B (stR X84 15 nd (nI r83)) wr82 T := hkp129
                  have hz143 : If (fa78 = 0) (Low B (stR X84 15 nd (nI r83)) nd wr ∧ Frs K T wr82 (stR X84 15 nd (nI r83)) nd nd80 20000 [(nd, (280 + 4 * (21 - ne)))] ∧ kcl 3 ((stR X84 15 nd (nI r83)) 9 nd) = true) := (fun e => absurd e (by omega))
                  have hP : va_P G.1 pCl (mW G h0 a (upd (upd (upd (upd (upd (upd (upd F 15 (nI fa78)) 16 pl79) 27 (nI nd80)) 31 (nI wr82)) 64 (nI at77)) 65 (nI ne)) 66 (nI lk81)) (updA (stR X84 15 nd (nI r83)) 2 K)) _ := hP
                  have hD : va_D A (mW G h0 a (upd (upd (upd (upd (upd (upd (upd F 15 (nI fa78)) 16 pl79) 27 (nI nd80)) 31 (nI wr82)) 64 (nI at77)) 65 (nI ne)) 66 (nI lk81)) (updA (stR X84 15 nd (nI r83)) 2 K)) := mW_D hD
                  exact W.iret (v := (nI nd)) hx hb hr (fun t9 ht9 hW9 => ⟨⟨_, (at77, fa78, pl79, nd80, lk81, wr82, nd, (stR X84 15 nd (nI r83))), rfl, ⟨rfl, hz130, hz131, hz132, hz133, hz134, hz135, hz136, hz137, hz138, hz139, hz140, hz141, hz142, hz143⟩, by rw [ht9]; exact hP, hD⟩, hS.F ht9⟩) hS.2.2 dX12_loop_236
              · have e73 := e73
                refine lv_aload_n hx hb dX12_loop_225 rfl (lv_at hl 1 rfl) ?_
                refine r_get (v := .ref (a 15)) hx hb hown hq hE hP 23 56 tFX12_23 (by decide) pw_1445 rfl dX12_loop_226 ?_
                refine lv_iload_n hx hb dX12_loop_229 rfl (lv_at hl 0 rfl) ?_
                refine lv_aload_n hx hb dX12_loop_230 rfl (lv_at hl 1 rfl) ?_
                have hP : va_P G.1 pCl (mW G h0 a (upd (upd (upd (upd (upd (upd (upd (upd (upd F 15 (nI fa63)) 16 pl64) 27 (nI nd2)) 31 (nI wr2)) 64 (nI at62)) 65 (nI ne)) 66 (nI lk2)) 15 (nI fa63)) 64 (nI at62)) (updA (updA X2 2 K) 2 K)) _ := mW_to (F := F) (l1 := [(15, (nI fa63)), (16, pl64), (27, (nI nd2)), (31, (nI wr2)), (64, (nI at62)), (65, (nI ne)), (66, (nI lk2))]) (l2 := [(15, (nI fa63)), (16, pl64), (27, (nI nd2)), (31, (nI wr2)), (64, (nI at62)), (65, (nI ne)), (66, (nI lk2)), (15, (nI fa63)), (64, (nI at62))]) (V := [(nI fa63), pl64, (nI nd2), (nI wr2), (nI at62), (nI ne), (nI lk2), (nI fa63), pl64, (nI nd2), (nI wr2), (nI at62), (nI ne), (nI lk2), (nI fa63), (nI at62)]) rfl rfl (show (updA X2 2 K) = (updA (updA X2 2 K) 2 K) from updsA_eq2 (F := X2) (l1 := [(2, K)]) (l2 := [(2, K), (2, K)]) (V := [K, K, K]) rfl rfl) hP
                have hD : va_D A (mW G h0 a (upd (upd (upd (upd (upd (upd (upd (upd (upd F 15 (nI fa63)) 16 pl64) 27 (nI nd2)) 31 (nI wr2)) 64 (nI at62)) 65 (nI ne)) 66 (nI lk2)) 15 (nI fa63)) 64 (nI at62)) (updA (updA X2 2 K) 2 K)) := mW_D hD
                refine pc_V0 (G := G) (As := []) (rest := [.int (nI nd), .ref (a 15)]) hx hb hml hown hq hE hX pX0_al hP hD hS hA hl.1 (RF_statement l G h0 a (upd (upd (upd (upd (upd (upd (upd F 15 (nI fa63)) 16 pl64) 27 (nI nd2)) 31 (nI wr2)) 64 (nI at62)) 65 (nI ne)) 66 (nI lk2)) (updA X2 2 K) at62 T fa63 K (by omega) (by omega) hK (by omega) e73) (gV pw_1699 pw_1700 pw_1701 pw_1523 pw_1706) hV_X12_statement 0 9 rfl rfl rfl rfl (Nat.le_of_ble_eq_true rfl) dX12_loop_231 ⟨Nat.le_of_ble_eq_true rfl, Nat.le_of_ble_eq_true rfl⟩ ⟨(by show 2 + 1 ≤ (26 * n + 43); omega), (by show 8 + (3 + 11) + 60 ≤ (2000 * n + 4300); omega)⟩ (fun v146 u144 H locs hw145 hP hD hS => ?_)
                obtain rfl : v146 = some (.int 0) := hw145
                have hP : va_P G.1 pCl (mW G h0 a (upd (upd (upd (upd (upd (upd (upd F 15 (nI fa63)) 16 pl64) 27 (nI nd2)) 31 (nI wr2)) 64 (nI at62)) 65 (nI ne)) 66 (nI lk2)) (updA X2 2 K)) _ := mW_to (F := F) (l1 := [(15, (nI fa63)), (16, pl64), (27, (nI nd2)), (31, (nI wr2)), (64, (nI at62)), (65, (nI ne)), (66, (nI lk2)), (15, (nI fa63)), (64, (nI at62))]) (l2 := [(15, (nI fa63)), (16, pl64), (27, (nI nd2)), (31, (nI wr2)), (64, (nI at62)), (65, (nI ne)), (66, (nI lk2))]) (V := [(nI fa63), pl64, (nI nd2), (nI wr2), (nI at62), (nI ne), (nI lk2), (nI fa63), (nI at62), (nI fa63), pl64, (nI nd2), (nI wr2), (nI at62), (nI ne), (nI lk2)]) rfl rfl (show (updA (updA X2 2 K) 2 K) = (updA X2 2 K) from updsA_eq2 (F := X2) (l1 := [(2, K), (2, K)]) (l2 := [(2, K)]) (V := [K, K, K]) rfl rfl) hP
                have hD : va_D A (mW G h0 a (upd (upd (upd (upd (upd (upd (upd F 15 (nI fa63)) 16 pl64) 27 (nI nd2)) 31 (nI wr2)) 64 (nI at62)) 65 (nI ne)) 66 (nI lk2)) (updA X2 2 K)) := mW_D hD
                refine W.widen (k := 0) (n := 0) (Nat.le_of_ble_eq_true rfl) (Nat.le_of_ble_eq_true rfl) ?_
                refine W.eq (g2 := F0 m 234 ls [.int 0, .int (nI nd), .ref (a 15)]) rfl ?_
                refine r_sti (f := (X2 15)) (j := nd) hx hb hE hP hD hS 15 (ma_15 G a _) rfl (mas_15 G a _) (by omega) (by decide) dX12_loop_234 (fun H locs hP hD hS => ?_)
                have hP : va_P G.1 pCl (mW G h0 a (upd (upd (upd (upd (upd (upd (upd F 15 (nI fa63)) 16 pl64) 27 (nI nd2)) 31 (nI wr2)) 64 (nI at62)) 65 (nI ne)) 66 (nI lk2)) (updA (stR X2 15 nd 0) 2 K)) _ := mW_to (F := F) (l1 := [(15, (nI fa63)), (16, pl64), (27, (nI nd2)), (31, (nI wr2)), (64, (nI at62)), (65, (nI ne)), (66, (nI lk2))]) (l2 := [(15, (nI fa63)), (16, pl64), (27, (nI nd2)), (31, (nI wr2)), (64, (nI at62)), (65, (nI ne)), (66, (nI lk2))]) (V := [(nI fa63), pl64, (nI nd2), (nI wr2), (nI at62), (nI ne), (nI lk2), (nI fa63), pl64, (nI nd2), (nI wr2), (nI at62), (nI ne), (nI lk2)]) rfl rfl (show (updA (updA X2 2 K) 15 (upd (X2 15) nd 0)) = (updA (stR X2 15 nd 0) 2 K) from updsA_eq2 (F := X2) (l1 := [(2, K), (15, (upd (X2 15) nd 0))]) (l2 := [(15, (upd (X2 15) nd 0)), (2, K)]) (V := [K, (upd (X2 15) nd 0), (upd (X2 15) nd 0), K]) rfl rfl) hP
                have hD : va_D A (mW G h0 a (upd (upd (upd (upd (upd (upd (upd F 15 (nI fa63)) 16 pl64) 27 (nI nd2)) 31 (nI wr2)) 64 (nI at62)) 65 (nI ne)) 66 (nI lk2)) (updA (stR X2 15 nd 0) 2 K)) := mW_D hD
                have hkp147 : Kp B (stR X2 15 nd 0) wr2 T := (Kp.row hkp2 (by omega))
                refine lv_iload_n hx hb dX12_loop_235 rfl (lv_at hl 0 rfl) ?_
                have hz148 : at0 ≤ at62 := (by omega)
                have hz149 : at62 ≤ T := (by omega)
                have hz150 : fa63 ≤ 100 := (by omega)
                have hz151 : nd ≤ nd2 := (by omega)
                have hz152 : nd2 + 2 * at0 ≤ nd + 2 * at62 + 100000 * fa63 := (by omega)
                have hz153 : nd2 + 2 * at0 ≤ nd + 2 * at62 + (60 * (21 - ne) + 40) := (by omega)
                have hz154 : wr ≤ wr2 := (by omega)
                have hz155 : wr2 + at0 ≤ wr + at62 := (by omega)
                have hz156 : lk ≤ lk2 := (by omega)
                have hz157 : lk2 ≤ 60 + 100 * fa63 := (by omega)
                have hz158 : at0 + 1 ≤ at62 + fa63 := (by omega)
                have hz159 : nd ≤ nd2 := (by omega)
                have hz160 : Kp B (stR X2 15 nd 0) wr2 T := hkp147
                have hz161 : If (fa63 = 0) (Low B (stR X2 15 nd 0) nd wr ∧ Frs K T wr2 (stR X2 15 nd 0) nd nd2 20000 [(nd, (280 + 4 * (21 - ne)))] ∧ kcl 3 ((stR X2 15 nd 0) 9 nd) = true) := (fun e => absurd e (by omega))
                have hP : va_P G.1 pCl (mW G h0 a (upd (upd (upd (upd (upd (upd (upd F 15 (nI fa63)) 16 pl64) 27 (nI nd2)) 31 (nI wr2)) 64 (nI at62)) 65 (nI ne)) 66 (nI lk2)) (updA (stR X2 15 nd 0) 2 K)) _ := hP
                have hD : va_D A (mW G h0 a (upd (upd (upd (upd (upd (upd (upd F 15 (nI fa63)) 16 pl64) 27 (nI nd2)) 31 (nI wr2)) 64 (nI at62)) 65 (nI ne)) 66 (nI lk2)) (updA (stR X2 15 nd 0) 2 K)) := mW_D hD
                exact W.iret (v := (nI nd)) hx hb hr (fun t9 ht9 hW9 => ⟨⟨_, (at62, fa63, pl64, nd2, lk2, wr2, nd, (stR X2 15 nd 0)), rfl, ⟨rfl, hz148, hz149, hz150, hz151, hz152, hz153, hz154, hz155, hz156, hz157, hz158, hz159, hz160, hz161⟩, by rw [ht9]; exact hP, hD⟩, hS.F ht9⟩) hS.2.2 dX12_loop_236
            refine lv_aload_n hx hb dX12_loop_177 rfl (lv_at hl 1 rfl) ?_
            refine r_get (v := .int 0) hx hb hown hq hE hP 15 350 tFX12_15 (by decide) pw_1594 rfl dX12_loop_178 ?_
            refine lv_if_ne (tgt := 219) hx hb dX12_loop_181 (by decide) (fun c162 => absurd c162 (by decide)) (fun c162 => ?_)
            refine lv_aload_n hx hb dX12_loop_184 rfl (lv_at hl 1 rfl) ?_
            have hP : va_P G.1 pCl (mW G h0 a (upd (upd (upd (upd (upd (upd (upd (upd (upd F 15 0) 16 pl49) 27 (nI nd2)) 31 (nI wr2)) 64 (nI at47)) 65 (nI ne)) 66 (nI lk2)) 15 (nI 0)) 64 (nI at47)) (updA (updA X2 2 K) 2 K)) _ := mW_to (F := F) (l1 := [(15, 0), (16, pl49), (27, (nI nd2)), (31, (nI wr2)), (64, (nI at47)), (65, (nI ne)), (66, (nI lk2))]) (l2 := [(15, 0), (16, pl49), (27, (nI nd2)), (31, (nI wr2)), (64, (nI at47)), (65, (nI ne)), (66, (nI lk2)), (15, (nI 0)), (64, (nI at47))]) (V := [(nI 0), pl49, (nI nd2), (nI wr2), (nI at47), (nI ne), (nI lk2), (nI 0), pl49, (nI nd2), (nI wr2), (nI at47), (nI ne), (nI lk2), (nI 0), (nI at47)]) rfl rfl (show (updA X2 2 K) = (updA (updA X2 2 K) 2 K) from updsA_eq2 (F := X2) (l1 := [(2, K)]) (l2 := [(2, K), (2, K)]) (V := [K, K, K]) rfl rfl) hP
            have hD : va_D A (mW G h0 a (upd (upd (upd (upd (upd (upd (upd (upd (upd F 15 0) 16 pl49) 27 (nI nd2)) 31 (nI wr2)) 64 (nI at47)) 65 (nI ne)) 66 (nI lk2)) 15 (nI 0)) 64 (nI at47)) (updA (updA X2 2 K) 2 K)) := mW_D hD
            refine pc_V0 (G := G) (As := []) (rest := []) hx hb hml hown hq hE hX pX0_al hP hD hS hA hl.1 (R_kind l G h0 a (upd (upd (upd (upd (upd (upd (upd F 15 0) 16 pl49) 27 (nI nd2)) 31 (nI wr2)) 64 (nI at47)) 65 (nI ne)) 66 (nI lk2)) (updA X2 2 K) at47 T 0 K (by omega) (by omega) hK (by omega)) (gV pw_1626 pw_1627 pw_1628 pw_1523 pw_1591) hV_X12_kind 0 9 rfl rfl rfl rfl (Nat.le_of_ble_eq_true rfl) dX12_loop_185 ⟨Nat.le_of_ble_eq_true rfl, Nat.le_of_ble_eq_true rfl⟩ ⟨(by show 2 + 1 ≤ (26 * n + 43); omega), (by show 8 + (1 + 11) + 60 ≤ (2000 * n + 4300); omega)⟩ (fun v165 u163 H locs hw164 hP hD hS => ?_)
            obtain rfl : v165 = some (.int (K at47)) := hw164
            have hP : va_P G.1 pCl (mW G h0 a (upd (upd (upd (upd (upd (upd (upd F 15 0) 16 pl49) 27 (nI nd2)) 31 (nI wr2)) 64 (nI at47)) 65 (nI ne)) 66 (nI lk2)) (updA X2 2 K)) _ := mW_to (F := F) (l1 := [(15, 0), (16, pl49), (27, (nI nd2)), (31, (nI wr2)), (64, (nI at47)), (65, (nI ne)), (66, (nI lk2)), (15, (nI 0)), (64, (nI at47))]) (l2 := [(15, 0), (16, pl49), (27, (nI nd2)), (31, (nI wr2)), (64, (nI at47)), (65, (nI ne)), (66, (nI lk2))]) (V := [0, pl49, (nI nd2), (nI wr2), (nI at47), (nI ne), (nI lk2), 0, (nI at47), 0, pl49, (nI nd2), (nI wr2), (nI at47), (nI ne), (nI lk2)]) rfl rfl (show (updA (updA X2 2 K) 2 K) = (updA X2 2 K) from updsA_eq2 (F := X2) (l1 := [(2, K), (2, K)]) (l2 := [(2, K)]) (V := [K, K, K]) rfl rfl) hP
            have hD : va_D A (mW G h0 a (upd (upd (upd (upd (upd (upd (upd F 15 0) 16 pl49) 27 (nI nd2)) 31 (nI wr2)) 64 (nI at47)) 65 (nI ne)) 66 (nI lk2)) (updA X2 2 K)) := mW_D hD
            refine W.widen (k := 0) (n := 0) (Nat.le_of_ble_eq_true rfl) (Nat.le_of_ble_eq_true rfl) ?_
            refine W.eq (g2 := F0 m 188 ls [.int (K at47)]) rfl ?_
            refine lv_bipush (v := 41) hx hb dX12_loop_188 (by decide) ?_
            refine lv_icmp_eq (tgt := 219) hx hb dX12_loop_190 (by decide) (fun c166 => ?_) (fun c166 => ?_)
            · have hP : va_P G.1 pCl (mW G h0 a (upd (upd (upd (upd (upd (upd (upd F 15 0) 16 pl49) 27 (nI nd2)) 31 (nI wr2)) 64 (nI at47)) 65 (nI ne)) 66 (nI lk2)) (updA X2 2 K)) _ := hP
              have hD : va_D A (mW G h0 a (upd (upd (upd (upd (upd (upd (upd F 15 0) 16 pl49) 27 (nI nd2)) 31 (nI wr2)) 64 (nI at47)) 65 (nI ne)) 66 (nI lk2)) (updA X2 2 K)) := mW_D hD
              exact cut_c at47 nd2 wr2 lk2 pl49 X2 xa3 xb3 (-1) _ _ _ (by omega) (by omega) (by omega) (by omega) (by omega) (by omega) (by omega) (by omega) (by omega) hkp2 hlo2 (Frs.up hf2 (by omega)) hn2 hP hD hS (lv_sub hl [0, 1] rfl)
            · refine lv_aload_n hx hb dX12_loop_193 rfl (lv_at hl 1 rfl) ?_
              have hP : va_P G.1 pCl (mW G h0 a (upd (upd (upd (upd (upd (upd (upd (upd (upd F 15 0) 16 pl49) 27 (nI nd2)) 31 (nI wr2)) 64 (nI at47)) 65 (nI ne)) 66 (nI lk2)) 15 (nI 0)) 64 (nI at47)) (updA (updA X2 2 K) 2 K)) _ := mW_to (F := F) (l1 := [(15, 0), (16, pl49), (27, (nI nd2)), (31, (nI wr2)), (64, (nI at47)), (65, (nI ne)), (66, (nI lk2))]) (l2 := [(15, 0), (16, pl49), (27, (nI nd2)), (31, (nI wr2)), (64, (nI at47)), (65, (nI ne)), (66, (nI lk2)), (15, (nI 0)), (64, (nI at47))]) (V := [(nI 0), pl49, (nI nd2), (nI wr2), (nI at47), (nI ne), (nI lk2), (nI 0), pl49, (nI nd2), (nI wr2), (nI at47), (nI ne), (nI lk2), (nI 0), (nI at47)]) rfl rfl (show (updA X2 2 K) = (updA (updA X2 2 K) 2 K) from updsA_eq2 (F := X2) (l1 := [(2, K)]) (l2 := [(2, K), (2, K)]) (V := [K, K, K]) rfl rfl) hP
              have hD : va_D A (mW G h0 a (upd (upd (upd (upd (upd (upd (upd (upd (upd F 15 0) 16 pl49) 27 (nI nd2)) 31 (nI wr2)) 64 (nI at47)) 65 (nI ne)) 66 (nI lk2)) 15 (nI 0)) 64 (nI at47)) (updA (updA X2 2 K) 2 K)) := mW_D hD
              refine pc_V0 (G := G) (As := []) (rest := []) hx hb hml hown hq hE hX pX0_al hP hD hS hA hl.1 (R_isOperand l G h0 a (upd (upd (upd (upd (upd (upd (upd F 15 0) 16 pl49) 27 (nI nd2)) 31 (nI wr2)) 64 (nI at47)) 65 (nI ne)) 66 (nI lk2)) (updA X2 2 K) at47 T 0 K (by omega) (by omega) hK (by omega)) (gV pw_1675 pw_1676 pw_1677 pw_1523 pw_1636) hV_X12_isOperand 0 9 rfl rfl rfl rfl (Nat.le_of_ble_eq_true rfl) dX12_loop_194 ⟨Nat.le_of_ble_eq_true rfl, Nat.le_of_ble_eq_true rfl⟩ ⟨(by show 3 + 1 ≤ (26 * n + 43); omega), (by show 8 + (2 + 11) + 80 ≤ (2000 * n + 4300); omega)⟩ (fun v169 u167 H locs hw168 hP hD hS => ?_)
              obtain ⟨r170, rfl⟩ : ∃ z, z = u167 := ⟨_, rfl⟩
              obtain ⟨hw168, h171, h172⟩ := hw168
              have h171 : r170 ≤ 1 := h171
              have h172 : at47 + r170 ≤ T := h172
              obtain rfl : v169 = some (.int (nI r170)) := hw168
              have hP : va_P G.1 pCl (mW G h0 a (upd (upd (upd (upd (upd (upd (upd F 15 0) 16 pl49) 27 (nI nd2)) 31 (nI wr2)) 64 (nI at47)) 65 (nI ne)) 66 (nI lk2)) (updA X2 2 K)) _ := mW_to (F := F) (l1 := [(15, 0), (16, pl49), (27, (nI nd2)), (31, (nI wr2)), (64, (nI at47)), (65, (nI ne)), (66, (nI lk2)), (15, (nI 0)), (64, (nI at47))]) (l2 := [(15, 0), (16, pl49), (27, (nI nd2)), (31, (nI wr2)), (64, (nI at47)), (65, (nI ne)), (66, (nI lk2))]) (V := [0, pl49, (nI nd2), (nI wr2), (nI at47), (nI ne), (nI lk2), 0, (nI at47), 0, pl49, (nI nd2), (nI wr2), (nI at47), (nI ne), (nI lk2)]) rfl rfl (show (updA (updA X2 2 K) 2 K) = (updA X2 2 K) from updsA_eq2 (F := X2) (l1 := [(2, K), (2, K)]) (l2 := [(2, K)]) (V := [K, K, K]) rfl rfl) hP
              have hD : va_D A (mW G h0 a (upd (upd (upd (upd (upd (upd (upd F 15 0) 16 pl49) 27 (nI nd2)) 31 (nI wr2)) 64 (nI at47)) 65 (nI ne)) 66 (nI lk2)) (updA X2 2 K)) := mW_D hD
              refine W.widen (k := 0) (n := 0) (Nat.le_of_ble_eq_true rfl) (Nat.le_of_ble_eq_true rfl) ?_
              refine W.eq (g2 := F0 m 197 ls [.int (nI r170)]) rfl ?_
              refine lv_if_eq (tgt := 214) hx hb dX12_loop_197 (by decide) (fun c173 => ?_) (fun c173 => ?_)
              · have n174 : r170 = 0 := (nI_eq (a := r170) (b := 0) (by omega) (by omega)).mp c173
                refine lv_aload_n hx hb dX12_loop_214 rfl (lv_at hl 1 rfl) ?_
                refine lv_iconst (v := 1) hx hb dX12_loop_215 (by decide) ?_
                have hP : va_P G.1 pCl (mW G h0 a (upd (upd (upd (upd (upd (upd (upd (upd (upd F 15 0) 16 pl49) 27 (nI nd2)) 31 (nI wr2)) 64 (nI at47)) 65 (nI ne)) 66 (nI lk2)) 15 (nI 0)) 64 (nI at47)) (updA (updA X2 2 K) 2 K)) _ := mW_to (F := F) (l1 := [(15, 0), (16, pl49), (27, (nI nd2)), (31, (nI wr2)), (64, (nI at47)), (65, (nI ne)), (66, (nI lk2))]) (l2 := [(15, 0), (16, pl49), (27, (nI nd2)), (31, (nI wr2)), (64, (nI at47)), (65, (nI ne)), (66, (nI lk2)), (15, (nI 0)), (64, (nI at47))]) (V := [(nI 0), pl49, (nI nd2), (nI wr2), (nI at47), (nI ne), (nI lk2), (nI 0), pl49, (nI nd2), (nI wr2), (nI at47), (nI ne), (nI lk2), (nI 0), (nI at47)]) rfl rfl (show (updA X2 2 K) = (updA (updA X2 2 K) 2 K) from updsA_eq2 (F := X2) (l1 := [(2, K)]) (l2 := [(2, K), (2, K)]) (V := [K, K, K]) rfl rfl) hP
                have hD : va_D A (mW G h0 a (upd (upd (upd (upd (upd (upd (upd (upd (upd F 15 0) 16 pl49) 27 (nI nd2)) 31 (nI wr2)) 64 (nI at47)) 65 (nI ne)) 66 (nI lk2)) 15 (nI 0)) 64 (nI at47)) (updA (updA X2 2 K) 2 K)) := mW_D hD
                refine pc_V0 (G := G) (As := [.int (nI 1)]) (rest := []) hx hb hml hown hq hE hX pX0_al hP hD hS hA hl.1 (R_bad l G h0 a (upd (upd (upd (upd (upd (upd (upd F 15 0) 16 pl49) 27 (nI nd2)) 31 (nI wr2)) 64 (nI at47)) 65 (nI ne)) 66 (nI lk2)) (updA X2 2 K) at47 T 0 K 1 (by omega) (by omega) hK (by omega) (by omega) (by omega)) (gV pw_1602 pw_1603 pw_1604 pw_1523 pw_1596) hV_X12_bad 0 9 rfl rfl rfl rfl (Nat.le_of_ble_eq_true rfl) dX12_loop_216 ⟨Nat.le_of_ble_eq_true rfl, Nat.le_of_ble_eq_true rfl⟩ ⟨(by show 3 + 1 ≤ (26 * n + 43); omega), (by show 8 + (2 + 11) + 82 ≤ (2000 * n + 4300); omega)⟩ (fun v177 u175 H locs hw176 hP hD hS => ?_)
                obtain ⟨fa178, pl179⟩ := u175
                obtain ⟨hw176, h180, h181, h182, h183⟩ := hw176
                have h180 : 0 ≤ fa178 := h180
                have h181 : fa178 ≤ 0 + 1 := h181
                have h182 : 0 < fa178 := h182
                have h183 : If (0 < 0) (fa178 = 0) := h183
                obtain rfl : v177 = none := hw176
                have hP : va_P G.1 pCl (mW G h0 a (upd (upd (upd (upd (upd (upd (upd F 15 (nI fa178)) 16 pl179) 27 (nI nd2)) 31 (nI wr2)) 64 (nI at47)) 65 (nI ne)) 66 (nI lk2)) (updA X2 2 K)) _ := mW_to (F := F) (l1 := [(15, 0), (16, pl49), (27, (nI nd2)), (31, (nI wr2)), (64, (nI at47)), (65, (nI ne)), (66, (nI lk2)), (15, (nI fa178)), (16, pl179), (64, (nI at47))]) (l2 := [(15, (nI fa178)), (16, pl179), (27, (nI nd2)), (31, (nI wr2)), (64, (nI at47)), (65, (nI ne)), (66, (nI lk2))]) (V := [(nI fa178), pl179, (nI nd2), (nI wr2), (nI at47), (nI ne), (nI lk2), (nI fa178), pl179, (nI at47), (nI fa178), pl179, (nI nd2), (nI wr2), (nI at47), (nI ne), (nI lk2)]) rfl rfl (show (updA (updA X2 2 K) 2 K) = (updA X2 2 K) from updsA_eq2 (F := X2) (l1 := [(2, K), (2, K)]) (l2 := [(2, K)]) (V := [K, K, K]) rfl rfl) hP
                have hD : va_D A (mW G h0 a (upd (upd (upd (upd (upd (upd (upd F 15 (nI fa178)) 16 pl179) 27 (nI nd2)) 31 (nI wr2)) 64 (nI at47)) 65 (nI ne)) 66 (nI lk2)) (updA X2 2 K)) := mW_D hD
                refine W.widen (k := 0) (n := 0) (Nat.le_of_ble_eq_true rfl) (Nat.le_of_ble_eq_true rfl) ?_
                refine W.eq (g2 := F0 m 219 ls []) rfl ?_
                refine lv_aload_n hx hb dX12_loop_219 rfl (lv_at hl 1 rfl) ?_
                refine lv_bipush (v := 41) hx hb dX12_loop_220 (by decide) ?_
                have hP : va_P G.1 pCl (mW G h0 a (upd (upd (upd (upd (upd (upd (upd (upd (upd F 15 (nI fa178)) 16 pl179) 27 (nI nd2)) 31 (nI wr2)) 64 (nI at47)) 65 (nI ne)) 66 (nI lk2)) 15 (nI fa178)) 64 (nI at47)) (updA (updA X2 2 K) 2 K)) _ := mW_to (F := F) (l1 := [(15, (nI fa178)), (16, pl179), (27, (nI nd2)), (31, (nI wr2)), (64, (nI at47)), (65, (nI ne)), (66, (nI lk2))]) (l2 := [(15, (nI fa178)), (16, pl179), (27, (nI nd2)), (31, (nI wr2)), (64, (nI at47)), (65, (nI ne)), (66, (nI lk2)), (15, (nI fa178)), (64, (nI at47))]) (V := [(nI fa178), pl179, (nI nd2), (nI wr2), (nI at47), (nI ne), (nI lk2), (nI fa178), pl179, (nI nd2), (nI wr2), (nI at47), (nI ne), (nI lk2), (nI fa178), (nI at47)]) rfl rfl (show (updA X2 2 K) = (updA (updA X2 2 K) 2 K) from updsA_eq2 (F := X2) (l1 := [(2, K)]) (l2 := [(2, K), (2, K)]) (V := [K, K, K]) rfl rfl) hP
                have hD : va_D A (mW G h0 a (upd (upd (upd (upd (upd (upd (upd (upd (upd F 15 (nI fa178)) 16 pl179) 27 (nI nd2)) 31 (nI wr2)) 64 (nI at47)) 65 (nI ne)) 66 (nI lk2)) 15 (nI fa178)) 64 (nI at47)) (updA (updA X2 2 K) 2 K)) := mW_D hD
                refine pc_V0 (G := G) (As := [.int 41]) (rest := []) hx hb hml hown hq hE hX pX0_al hP hD hS hA hl.1 (R_take l G h0 a (upd (upd (upd (upd (upd (upd (upd F 15 (nI fa178)) 16 pl179) 27 (nI nd2)) 31 (nI wr2)) 64 (nI at47)) 65 (nI ne)) 66 (nI lk2)) (updA X2 2 K) at47 T fa178 K 41 (by omega) (by omega) hK (by omega) (by decide) (by decide)) (gV pw_1614 pw_1615 pw_1616 pw_1523 pw_1601) hV_X12_take 0 9 rfl rfl rfl rfl (Nat.le_of_ble_eq_true rfl) dX12_loop_222 ⟨Nat.le_of_ble_eq_true rfl, Nat.le_of_ble_eq_true rfl⟩ ⟨(by show 4 + 1 ≤ (26 * n + 43); omega), (by show 8 + (2 + 11) + 103 ≤ (2000 * n + 4300); omega)⟩ (fun v186 u184 H locs hw185 hP hD hS => ?_)
                obtain ⟨at187, fa188, pl189⟩ := u184
                obtain ⟨hw185, h190, h191, h192, h193, h194, h195, h196, h197⟩ := hw185
                have h190 : at47 ≤ at187 := h190
                have h191 : at187 ≤ T := h191
                have h192 : fa178 ≤ fa188 := h192
                have h193 : fa188 ≤ 100 := h193
                have h194 : If (0 < fa178) (at187 = at47 ∧ fa188 = fa178) := h194
                have h195 : at187 ≤ at47 + 1 := h195
                have h196 : at47 + 1 ≤ at187 + fa188 := h196
                have h197 : If (fa188 = 0) (K at47 = 41) := h197
                obtain rfl : v186 = none := hw185
                have hP : va_P G.1 pCl (mW G h0 a (upd (upd (upd (upd (upd (upd (upd F 15 (nI fa188)) 16 pl189) 27 (nI nd2)) 31 (nI wr2)) 64 (nI at187)) 65 (nI ne)) 66 (nI lk2)) (updA X2 2 K)) _ := mW_to (F := F) (l1 := [(15, (nI fa178)), (16, pl179), (27, (nI nd2)), (31, (nI wr2)), (64, (nI at47)), (65, (nI ne)), (66, (nI lk2)), (15, (nI fa188)), (16, pl189), (64, (nI at187))]) (l2 := [(15, (nI fa188)), (16, pl189), (27, (nI nd2)), (31, (nI wr2)), (64, (nI at187)), (65, (nI ne)), (66, (nI lk2))]) (V := [(nI fa188), pl189, (nI nd2), (nI wr2), (nI at187), (nI ne), (nI lk2), (nI fa188), pl189, (nI at187), (nI fa188), pl189, (nI nd2), (nI wr2), (nI at187), (nI ne), (nI lk2)]) rfl rfl (show (updA (updA X2 2 K) 2 K) = (updA X2 2 K) from updsA_eq2 (F := X2) (l1 := [(2, K), (2, K)]) (l2 := [(2, K)]) (V := [K, K, K]) rfl rfl) hP
                have hD : va_D A (mW G h0 a (upd (upd (upd (upd (upd (upd (upd F 15 (nI fa188)) 16 pl189) 27 (nI nd2)) 31 (nI wr2)) 64 (nI at187)) 65 (nI ne)) 66 (nI lk2)) (updA X2 2 K)) := mW_D hD
                refine W.widen (k := 0) (n := 0) (Nat.le_of_ble_eq_true rfl) (Nat.le_of_ble_eq_true rfl) ?_
                refine W.eq (g2 := F0 m 225 ls []) rfl ?_
                obtain ⟨n199, n198⟩ := h194 h182
                replace n199 := n199.symm
                subst n199
                replace n198 := n198.symm
                subst n198
                refine lv_aload_n hx hb dX12_loop_225 rfl (lv_at hl 1 rfl) ?_
                refine r_get (v := .ref (a 15)) hx hb hown hq hE hP 23 56 tFX12_23 (by decide) pw_1445 rfl dX12_loop_226 ?_
                refine lv_iload_n hx hb dX12_loop_229 rfl (lv_at hl 0 rfl) ?_
                refine lv_aload_n hx hb dX12_loop_230 rfl (lv_at hl 1 rfl) ?_
                have hP : va_P G.1 pCl (mW G h0 a (upd (upd (upd (upd (upd (upd (upd (upd (upd F 15 (nI fa178)) 16 pl189) 27 (nI nd2)) 31 (nI wr2)) 64 (nI at47)) 65 (nI ne)) 66 (nI lk2)) 15 (nI fa178)) 64 (nI at47)) (updA (updA X2 2 K) 2 K)) _ := hP
                have hD : va_D A (mW G h0 a (upd (upd (upd (upd (upd (upd (upd (upd (upd F 15 (nI fa178)) 16 pl189) 27 (nI nd2)) 31 (nI wr2)) 64 (nI at47)) 65 (nI ne)) 66 (nI lk2)) 15 (nI fa178)) 64 (nI at47)) (updA (updA X2 2 K) 2 K)) := mW_D hD
                refine pc_V0 (G := G) (As := []) (rest := [.int (nI nd), .ref (a 15)]) hx hb hml hown hq hE hX pX0_al hP hD hS hA hl.1 (RF_statement l G h0 a (upd (upd (upd (upd (upd (upd (upd F 15 (nI fa178)) 16 pl189) 27 (nI nd2)) 31 (nI wr2)) 64 (nI at47)) 65 (nI ne)) 66 (nI lk2)) (updA X2 2 K) at47 T fa178 K (by omega) (by omega) hK (by omega) h182) (gV pw_1699 pw_1700 pw_1701 pw_1523 pw_1706) hV_X12_statement 0 9 rfl rfl rfl rfl (Nat.le_of_ble_eq_true rfl) dX12_loop_231 ⟨Nat.le_of_ble_eq_true rfl, Nat.le_of_ble_eq_true rfl⟩ ⟨(by show 2 + 1 ≤ (26 * n + 43); omega), (by show 8 + (3 + 11) + 60 ≤ (2000 * n + 4300); omega)⟩ (fun v202 u200 H locs hw201 hP hD hS => ?_)
                obtain rfl : v202 = some (.int 0) := hw201
                have hP : va_P G.1 pCl (mW G h0 a (upd (upd (upd (upd (upd (upd (upd F 15 (nI fa178)) 16 pl189) 27 (nI nd2)) 31 (nI wr2)) 64 (nI at47)) 65 (nI ne)) 66 (nI lk2)) (updA X2 2 K)) _ := mW_to (F := F) (l1 := [(15, (nI fa178)), (16, pl189), (27, (nI nd2)), (31, (nI wr2)), (64, (nI at47)), (65, (nI ne)), (66, (nI lk2)), (15, (nI fa178)), (64, (nI at47))]) (l2 := [(15, (nI fa178)), (16, pl189), (27, (nI nd2)), (31, (nI wr2)), (64, (nI at47)), (65, (nI ne)), (66, (nI lk2))]) (V := [(nI fa178), pl189, (nI nd2), (nI wr2), (nI at47), (nI ne), (nI lk2), (nI fa178), (nI at47), (nI fa178), pl189, (nI nd2), (nI wr2), (nI at47), (nI ne), (nI lk2)]) rfl rfl (show (updA (updA X2 2 K) 2 K) = (updA X2 2 K) from updsA_eq2 (F := X2) (l1 := [(2, K), (2, K)]) (l2 := [(2, K)]) (V := [K, K, K]) rfl rfl) hP
                have hD : va_D A (mW G h0 a (upd (upd (upd (upd (upd (upd (upd F 15 (nI fa178)) 16 pl189) 27 (nI nd2)) 31 (nI wr2)) 64 (nI at47)) 65 (nI ne)) 66 (nI lk2)) (updA X2 2 K)) := mW_D hD
                refine W.widen (k := 0) (n := 0) (Nat.le_of_ble_eq_true rfl) (Nat.le_of_ble_eq_true rfl) ?_
                refine W.eq (g2 := F0 m 234 ls [.int 0, .int (nI nd), .ref (a 15)]) rfl ?_
                refine r_sti (f := (X2 15)) (j := nd) hx hb hE hP hD hS 15 (ma_15 G a _) rfl (mas_15 G a _) (by omega) (by decide) dX12_loop_234 (fun H locs hP hD hS => ?_)
                have hP : va_P G.1 pCl (mW G h0 a (upd (upd (upd (upd (upd (upd (upd F 15 (nI fa178)) 16 pl189) 27 (nI nd2)) 31 (nI wr2)) 64 (nI at47)) 65 (nI ne)) 66 (nI lk2)) (updA (stR X2 15 nd 0) 2 K)) _ := mW_to (F := F) (l1 := [(15, (nI fa178)), (16, pl189), (27, (nI nd2)), (31, (nI wr2)), (64, (nI at47)), (65, (nI ne)), (66, (nI lk2))]) (l2 := [(15, (nI fa178)), (16, pl189), (27, (nI nd2)), (31, (nI wr2)), (64, (nI at47)), (65, (nI ne)), (66, (nI lk2))]) (V := [(nI fa178), pl189, (nI nd2), (nI wr2), (nI at47), (nI ne), (nI lk2), (nI fa178), pl189, (nI nd2), (nI wr2), (nI at47), (nI ne), (nI lk2)]) rfl rfl (show (updA (updA X2 2 K) 15 (upd (X2 15) nd 0)) = (updA (stR X2 15 nd 0) 2 K) from updsA_eq2 (F := X2) (l1 := [(2, K), (15, (upd (X2 15) nd 0))]) (l2 := [(15, (upd (X2 15) nd 0)), (2, K)]) (V := [K, (upd (X2 15) nd 0), (upd (X2 15) nd 0), K]) rfl rfl) hP
                have hD : va_D A (mW G h0 a (upd (upd (upd (upd (upd (upd (upd F 15 (nI fa178)) 16 pl189) 27 (nI nd2)) 31 (nI wr2)) 64 (nI at47)) 65 (nI ne)) 66 (nI lk2)) (updA (stR X2 15 nd 0) 2 K)) := mW_D hD
                have hkp203 : Kp B (stR X2 15 nd 0) wr2 T := (Kp.row hkp2 (by omega))
                refine lv_iload_n hx hb dX12_loop_235 rfl (lv_at hl 0 rfl) ?_
                have hz204 : at0 ≤ at47 := (by omega)
                have hz205 : at47 ≤ T := (by omega)
                have hz206 : fa178 ≤ 100 := (by omega)
                have hz207 : nd ≤ nd2 := (by omega)
                have hz208 : nd2 + 2 * at0 ≤ nd + 2 * at47 + 100000 * fa178 := (by omega)
                have hz209 : nd2 + 2 * at0 ≤ nd + 2 * at47 + (60 * (21 - ne) + 40) := (by omega)
                have hz210 : wr ≤ wr2 := (by omega)
                have hz211 : wr2 + at0 ≤ wr + at47 := (by omega)
                have hz212 : lk ≤ lk2 := (by omega)
                have hz213 : lk2 ≤ 60 + 100 * fa178 := (by omega)
                have hz214 : at0 + 1 ≤ at47 + fa178 := (by omega)
                have hz215 : nd ≤ nd2 := (by omega)
                have hz216 : Kp B (stR X2 15 nd 0) wr2 T := hkp203
                have hz217 : If (fa178 = 0) (Low B (stR X2 15 nd 0) nd wr ∧ Frs K T wr2 (stR X2 15 nd 0) nd nd2 20000 [(nd, (280 + 4 * (21 - ne)))] ∧ kcl 3 ((stR X2 15 nd 0) 9 nd) = true) := (fun e => absurd e (by omega))
                have hP : va_P G.1 pCl (mW G h0 a (upd (upd (upd (upd (upd (upd (upd F 15 (nI fa178)) 16 pl189) 27 (nI nd2)) 31 (nI wr2)) 64 (nI at47)) 65 (nI ne)) 66 (nI lk2)) (updA (stR X2 15 nd 0) 2 K)) _ := hP
                have hD : va_D A (mW G h0 a (upd (upd (upd (upd (upd (upd (upd F 15 (nI fa178)) 16 pl189) 27 (nI nd2)) 31 (nI wr2)) 64 (nI at47)) 65 (nI ne)) 66 (nI lk2)) (updA (stR X2 15 nd 0) 2 K)) := mW_D hD
                exact W.iret (v := (nI nd)) hx hb hr (fun t9 ht9 hW9 => ⟨⟨_, (at47, fa178, pl189, nd2, lk2, wr2, nd, (stR X2 15 nd 0)), rfl, ⟨rfl, hz204, hz205, hz206, hz207, hz208, hz209, hz210, hz211, hz212, hz213, hz214, hz215, hz216, hz217⟩, by rw [ht9]; exact hP, hD⟩, hS.F ht9⟩) hS.2.2 dX12_loop_236
              · have n218 : ¬ (r170 = 0) := fun h9 => c173 ((nI_eq (a := r170) (b := 0) (by omega) (by omega)).mpr h9)
                refine lv_aload_n hx hb dX12_loop_200 rfl (lv_at hl 1 rfl) ?_
                refine r_get (v := .ref (a 14)) hx hb hown hq hE hP 22 53 tFX12_22 (by decide) pw_1444 rfl dX12_loop_201 ?_
                refine lv_iload_n hx hb dX12_loop_204 rfl (lv_at hl 0 rfl) ?_
                refine lv_aload_n hx hb dX12_loop_205 rfl (lv_at hl 1 rfl) ?_
                refine lv_iconst (v := 1) hx hb dX12_loop_206 (by decide) ?_
                have hP : va_P G.1 pCl (mW G h0 a (upd (upd (upd (upd (upd (upd (upd (upd (upd (upd (upd (upd (upd F 15 0) 16 pl49) 27 (nI nd2)) 31 (nI wr2)) 64 (nI at47)) 65 (nI ne)) 66 (nI lk2)) 15 0) 27 (nI nd2)) 31 (nI wr2)) 64 (nI at47)) 65 (nI ne)) 66 (nI lk2)) (updA X2 2 K)) _ := mW_to (F := F) (l1 := [(15, 0), (16, pl49), (27, (nI nd2)), (31, (nI wr2)), (64, (nI at47)), (65, (nI ne)), (66, (nI lk2))]) (l2 := [(15, 0), (16, pl49), (27, (nI nd2)), (31, (nI wr2)), (64, (nI at47)), (65, (nI ne)), (66, (nI lk2)), (15, 0), (27, (nI nd2)), (31, (nI wr2)), (64, (nI at47)), (65, (nI ne)), (66, (nI lk2))]) (V := [0, pl49, (nI nd2), (nI wr2), (nI at47), (nI ne), (nI lk2), 0, pl49, (nI nd2), (nI wr2), (nI at47), (nI ne), (nI lk2), 0, (nI nd2), (nI wr2), (nI at47), (nI ne), (nI lk2)]) rfl rfl rfl hP
                have hD : va_D A (mW G h0 a (upd (upd (upd (upd (upd (upd (upd (upd (upd (upd (upd (upd (upd F 15 0) 16 pl49) 27 (nI nd2)) 31 (nI wr2)) 64 (nI at47)) 65 (nI ne)) 66 (nI lk2)) 15 0) 27 (nI nd2)) 31 (nI wr2)) 64 (nI at47)) 65 (nI ne)) 66 (nI lk2)) (updA X2 2 K)) := mW_D hD
                refine pc_V0 (G := G) (As := [.int 1]) (rest := [.int (nI nd), .ref (a 14)]) hx hb hml hown hq hE hX pX0_al hP hD hS hA hl.1 (hS1 h0 a (upd (upd (upd (upd (upd (upd (upd F 15 0) 16 pl49) 27 (nI nd2)) 31 (nI wr2)) 64 (nI at47)) 65 (nI ne)) 66 (nI lk2)) X2 at47 T ne nd2 wr2 lk2 K (by omega) (by omega) hK (by omega) (by omega) (by omega) (by omega) (hkp2).2 (by omega)) (gV pw_1696 pw_1697 pw_1698 pw_1523 pw_1682) hV_X12_simple 0 9 rfl rfl rfl rfl (Nat.le_of_ble_eq_true rfl) dX12_loop_207 ⟨Nat.le_of_ble_eq_true rfl, Nat.le_of_ble_eq_true rfl⟩ ⟨(by show (26 * n + 30) + 1 ≤ (26 * n + 43); omega), (by show 8 + (6 + 11) + (2000 * n + 3000) ≤ (2000 * n + 4300); omega)⟩ (fun v221 u219 H locs hw220 hP hD hS => ?_)
                obtain ⟨at222, fa223, pl224, nd225, lk226, wr227, r228, X229⟩ := u219
                obtain ⟨hw220, h230, h231, h232, h233, h234, h235, h236, h237, h238, h239, h240, h241, h242, h243⟩ := hw220
                have h230 : at47 ≤ at222 := h230
                have h231 : at222 ≤ T := h231
                have h232 : fa223 ≤ 100 := h232
                have h233 : nd2 ≤ nd225 := h233
                have h234 : nd225 + 2 * at47 ≤ nd2 + 2 * at222 + 1 + 100000 * fa223 := h234
                have h235 : nd225 + 2 * at47 ≤ nd2 + 2 * at222 + (40 * (21 - ne) + 5) := h235
                have h236 : wr2 ≤ wr227 := h236
                have h237 : wr227 + at47 ≤ wr2 + at222 := h237
                have h238 : lk2 ≤ lk226 := h238
                have h239 : lk226 ≤ 60 + 100 * fa223 := h239
                have h240 : at47 + 1 ≤ at222 + fa223 := h240
                have h241 : r228 ≤ nd225 := h241
                have h242 : Kp X2 X229 wr227 T := h242
                have h243 : If (fa223 = 0) (Low X2 X229 nd2 wr2 ∧ Frs K T wr227 X229 nd2 nd225 20000 [(r228, 280)] ∧ kcl 15 (X229 9 r228) = true) := h243
                obtain rfl : v221 = some (.int (nI r228)) := hw220
                have hP : va_P G.1 pCl (mW G h0 a (upd (upd (upd (upd (upd (upd (upd F 15 (nI fa223)) 16 pl224) 27 (nI nd225)) 31 (nI wr227)) 64 (nI at222)) 65 (nI ne)) 66 (nI lk226)) (updA X229 2 K)) _ := mW_to (F := F) (l1 := [(15, 0), (16, pl49), (27, (nI nd2)), (31, (nI wr2)), (64, (nI at47)), (65, (nI ne)), (66, (nI lk2)), (15, (nI fa223)), (16, pl224), (27, (nI nd225)), (31, (nI wr227)), (64, (nI at222)), (65, (nI ne)), (66, (nI lk226))]) (l2 := [(15, (nI fa223)), (16, pl224), (27, (nI nd225)), (31, (nI wr227)), (64, (nI at222)), (65, (nI ne)), (66, (nI lk226))]) (V := [(nI fa223), pl224, (nI nd225), (nI wr227), (nI at222), (nI ne), (nI lk226), (nI fa223), pl224, (nI nd225), (nI wr227), (nI at222), (nI ne), (nI lk226), (nI fa223), pl224, (nI nd225), (nI wr227), (nI at222), (nI ne), (nI lk226)]) rfl rfl rfl hP
                have hD : va_D A (mW G h0 a (upd (upd (upd (upd (upd (upd (upd F 15 (nI fa223)) 16 pl224) 27 (nI nd225)) 31 (nI wr227)) 64 (nI at222)) 65 (nI ne)) 66 (nI lk226)) (updA X229 2 K)) := mW_D hD
                refine W.widen (k := 0) (n := 0) (Nat.le_of_ble_eq_true rfl) (Nat.le_of_ble_eq_true rfl) ?_
                refine W.eq (g2 := F0 m 210 ls [.int (nI r228), .int (nI nd), .ref (a 14)]) rfl ?_
                have hkp244 : Kp B X229 wr227 T := (Kp.trans hkp2 h242)
                rcases Nat.eq_zero_or_pos fa223 with e245 | e245
                · subst e245
                  have hP : va_P G.1 pCl (mW G h0 a (upd (upd (upd (upd (upd (upd (upd F 15 0) 16 pl224) 27 (nI nd225)) 31 (nI wr227)) 64 (nI at222)) 65 (nI ne)) 66 (nI lk226)) (updA X229 2 K)) _ := hP
                  have hD : va_D A (mW G h0 a (upd (upd (upd (upd (upd (upd (upd F 15 0) 16 pl224) 27 (nI nd225)) 31 (nI wr227)) 64 (nI at222)) 65 (nI ne)) 66 (nI lk226)) (updA X229 2 K)) := mW_D hD
                  obtain ⟨hlw246, hf247, hc248⟩ := h243 rfl
                  have hlo249 : Low B X229 nd wr := (Low.trans hlo2 hlw246 (by omega) (by omega))
                  have hf250 : Frs K T wr227 X229 nd nd2 nd [(nd, (280 + 4 * (21 - ne)))] := (Frs.same hf2 (by omega) (fun j i q1 q2 q3 q4 => (hlw246.1 j i q1 (by omega) (by omega))))
                  have hn251 : Nd X229 nd 36 xa3 xb3 (-1) (-1) := (Nd.low hn2 hlw246 (by omega))
                  have hm252 := Frs.mem hf247
                  refine r_sti (f := (X229 14)) (j := nd) hx hb hE hP hD hS 14 (ma_14 G a _) rfl (mas_14 G a _) (by omega) (by decide) dX12_loop_210 (fun H locs hP hD hS => ?_)
                  have hP : va_P G.1 pCl (mW G h0 a (upd (upd (upd (upd (upd (upd (upd F 15 0) 16 pl224) 27 (nI nd225)) 31 (nI wr227)) 64 (nI at222)) 65 (nI ne)) 66 (nI lk226)) (updA (stR X229 14 nd (nI r228)) 2 K)) _ := mW_to (F := F) (l1 := [(15, 0), (16, pl224), (27, (nI nd225)), (31, (nI wr227)), (64, (nI at222)), (65, (nI ne)), (66, (nI lk226))]) (l2 := [(15, 0), (16, pl224), (27, (nI nd225)), (31, (nI wr227)), (64, (nI at222)), (65, (nI ne)), (66, (nI lk226))]) (V := [0, pl224, (nI nd225), (nI wr227), (nI at222), (nI ne), (nI lk226), 0, pl224, (nI nd225), (nI wr227), (nI at222), (nI ne), (nI lk226)]) rfl rfl (show (updA (updA X229 2 K) 14 (upd (X229 14) nd (nI r228))) = (updA (stR X229 14 nd (nI r228)) 2 K) from updsA_eq2 (F := X229) (l1 := [(2, K), (14, (upd (X229 14) nd (nI r228)))]) (l2 := [(14, (upd (X229 14) nd (nI r228))), (2, K)]) (V := [K, (upd (X229 14) nd (nI r228)), (upd (X229 14) nd (nI r228)), K]) rfl rfl) hP
                  have hD : va_D A (mW G h0 a (upd (upd (upd (upd (upd (upd (upd F 15 0) 16 pl224) 27 (nI nd225)) 31 (nI wr227)) 64 (nI at222)) 65 (nI ne)) 66 (nI lk226)) (updA (stR X229 14 nd (nI r228)) 2 K)) := mW_D hD
                  have hkp253 : Kp B (stR X229 14 nd (nI r228)) wr227 T := (Kp.row hkp244 (by omega))
                  have hlo254 : Low B (stR X229 14 nd (nI r228)) nd wr := (Low.st hlo249 (by omega) (by omega))
                  have hf255 : Frs K T wr227 X229 nd nd225 nd [(nd, (280 + 4 * (21 - ne))), (r228, 280)] := (Frs.join hf250 hf247 (by omega) (by omega) (by omega))
                  have hn256 : Nd (stR X229 14 nd (nI r228)) nd 36 xa3 xb3 (nI r228) (-1) := (Nd.st hn251 (by omega))
                  have hc257 : kcl 15 ((stR X229 14 nd (nI r228)) 9 r228) = true := by rw [st_ne (by omega)]; exact hc248
                  have hf258 : Frs K T wr227 (stR X229 14 nd (nI r228)) nd nd225 nd [(nd, (280 + 4 * (21 - ne)))] := (Frs.set (s := 3) (k := 36) hf255 (by omega) (by omega) (by simp) (by omega) (by omega) hn251.2.2.2.1 hn251.1 (by decide) ⟨by decide, by decide, by decide, hc248, fun h => absurd h (by decide)⟩ (by omega) (by omega) (by decide) (fun h1 h2 => by omega))
                  refine lv_goto (tgt := 219) hx hb dX12_loop_211 (by decide) ?_
                  have hP : va_P G.1 pCl (mW G h0 a (upd (upd (upd (upd (upd (upd (upd F 15 0) 16 pl224) 27 (nI nd225)) 31 (nI wr227)) 64 (nI at222)) 65 (nI ne)) 66 (nI lk226)) (updA (stR X229 14 nd (nI r228)) 2 K)) _ := hP
                  have hD : va_D A (mW G h0 a (upd (upd (upd (upd (upd (upd (upd F 15 0) 16 pl224) 27 (nI nd225)) 31 (nI wr227)) 64 (nI at222)) 65 (nI ne)) 66 (nI lk226)) (updA (stR X229 14 nd (nI r228)) 2 K)) := mW_D hD
                  exact cut_c at222 nd225 wr227 lk226 pl224 (stR X229 14 nd (nI r228)) xa3 xb3 (nI r228) _ _ _ (by omega) (by omega) (by omega) (by omega) (by omega) (by omega) (by omega) (by omega) (by omega) hkp253 hlo254 (Frs.up hf258 (by omega)) hn256 hP hD hS (lv_sub hl [0, 1] rfl)
                · have e245 := e245
                  refine r_sti (f := (X229 14)) (j := nd) hx hb hE hP hD hS 14 (ma_14 G a _) rfl (mas_14 G a _) (by omega) (by decide) dX12_loop_210 (fun H locs hP hD hS => ?_)
                  have hP : va_P G.1 pCl (mW G h0 a (upd (upd (upd (upd (upd (upd (upd F 15 (nI fa223)) 16 pl224) 27 (nI nd225)) 31 (nI wr227)) 64 (nI at222)) 65 (nI ne)) 66 (nI lk226)) (updA (stR X229 14 nd (nI r228)) 2 K)) _ := mW_to (F := F) (l1 := [(15, (nI fa223)), (16, pl224), (27, (nI nd225)), (31, (nI wr227)), (64, (nI at222)), (65, (nI ne)), (66, (nI lk226))]) (l2 := [(15, (nI fa223)), (16, pl224), (27, (nI nd225)), (31, (nI wr227)), (64, (nI at222)), (65, (nI ne)), (66, (nI lk226))]) (V := [(nI fa223), pl224, (nI nd225), (nI wr227), (nI at222), (nI ne), (nI lk226), (nI fa223), pl224, (nI nd225), (nI wr227), (nI at222), (nI ne), (nI lk226)]) rfl rfl (show (updA (updA X229 2 K) 14 (upd (X229 14) nd (nI r228))) = (updA (stR X229 14 nd (nI r228)) 2 K) from updsA_eq2 (F := X229) (l1 := [(2, K), (14, (upd (X229 14) nd (nI r228)))]) (l2 := [(14, (upd (X229 14) nd (nI r228))), (2, K)]) (V := [K, (upd (X229 14) nd (nI r228)), (upd (X229 14) nd (nI r228)), K]) rfl rfl) hP
                  have hD : va_D A (mW G h0 a (upd (upd (upd (upd (upd (upd (upd F 15 (nI fa223)) 16 pl224) 27 (nI nd225)) 31 (nI wr227)) 64 (nI at222)) 65 (nI ne)) 66 (nI lk226)) (updA (stR X229 14 nd (nI r228)) 2 K)) := mW_D hD
                  have hkp259 : Kp B (stR X229 14 nd (nI r228)) wr227 T := (Kp.row hkp244 (by omega))
                  refine lv_goto (tgt := 219) hx hb dX12_loop_211 (by decide) ?_
                  refine lv_aload_n hx hb dX12_loop_219 rfl (lv_at hl 1 rfl) ?_
                  refine lv_bipush (v := 41) hx hb dX12_loop_220 (by decide) ?_
                  have hP : va_P G.1 pCl (mW G h0 a (upd (upd (upd (upd (upd (upd (upd (upd (upd F 15 (nI fa223)) 16 pl224) 27 (nI nd225)) 31 (nI wr227)) 64 (nI at222)) 65 (nI ne)) 66 (nI lk226)) 15 (nI fa223)) 64 (nI at222)) (updA (updA (stR X229 14 nd (nI r228)) 2 K) 2 K)) _ := mW_to (F := F) (l1 := [(15, (nI fa223)), (16, pl224), (27, (nI nd225)), (31, (nI wr227)), (64, (nI at222)), (65, (nI ne)), (66, (nI lk226))]) (l2 := [(15, (nI fa223)), (16, pl224), (27, (nI nd225)), (31, (nI wr227)), (64, (nI at222)), (65, (nI ne)), (66, (nI lk226)), (15, (nI fa223)), (64, (nI at222))]) (V := [(nI fa223), pl224, (nI nd225), (nI wr227), (nI at222), (nI ne), (nI lk226), (nI fa223), pl224, (nI nd225), (nI wr227), (nI at222), (nI ne), (nI lk226), (nI fa223), (nI at222)]) rfl rfl (show (updA (stR X229 14 nd (nI r228)) 2 K) = (updA (updA (stR X229 14 nd (nI r228)) 2 K) 2 K) from updsA_eq2 (F := X229) (l1 := [(14, (upd (X229 14) nd (nI r228))), (2, K)]) (l2 := [(14, (upd (X229 14) nd (nI r228))), (2, K), (2, K)]) (V := [(upd (X229 14) nd (nI r228)), K, (upd (X229 14) nd (nI r228)), K, K]) rfl rfl) hP
                  have hD : va_D A (mW G h0 a (upd (upd (upd (upd (upd (upd (upd (upd (upd F 15 (nI fa223)) 16 pl224) 27 (nI nd225)) 31 (nI wr227)) 64 (nI at222)) 65 (nI ne)) 66 (nI lk226)) 15 (nI fa223)) 64 (nI at222)) (updA (updA (stR X229 14 nd (nI r228)) 2 K) 2 K)) := mW_D hD
                  refine pc_V0 (G := G) (As := [.int 41]) (rest := []) hx hb hml hown hq hE hX pX0_al hP hD hS hA hl.1 (R_take l G h0 a (upd (upd (upd (upd (upd (upd (upd F 15 (nI fa223)) 16 pl224) 27 (nI nd225)) 31 (nI wr227)) 64 (nI at222)) 65 (nI ne)) 66 (nI lk226)) (updA (stR X229 14 nd (nI r228)) 2 K) at222 T fa223 K 41 (by omega) (by omega) hK (by omega) (by decide) (by decide)) (gV pw_1614 pw_1615 pw_1616 pw_1523 pw_1601) hV_X12_take 0 9 rfl rfl rfl rfl (Nat.le_of_ble_eq_true rfl) dX12_loop_222 ⟨Nat.le_of_ble_eq_true rfl, Nat.le_of_ble_eq_true rfl⟩ ⟨(by show 4 + 1 ≤ (26 * n + 43); omega), (by show 8 + (2 + 11) + 103 ≤ (2000 * n + 4300); omega)⟩ (fun v262 u260 H locs hw261 hP hD hS => ?_)
                  obtain ⟨at263, fa264, pl265⟩ := u260
                  obtain ⟨hw261, h266, h267, h268, h269, h270, h271, h272, h273⟩ := hw261
                  have h266 : at222 ≤ at263 := h266
                  have h267 : at263 ≤ T := h267
                  have h268 : fa223 ≤ fa264 := h268
                  have h269 : fa264 ≤ 100 := h269
                  have h270 : If (0 < fa223) (at263 = at222 ∧ fa264 = fa223) := h270
                  have h271 : at263 ≤ at222 + 1 := h271
                  have h272 : at222 + 1 ≤ at263 + fa264 := h272
                  have h273 : If (fa264 = 0) (K at222 = 41) := h273
                  obtain rfl : v262 = none := hw261
                  have hP : va_P G.1 pCl (mW G h0 a (upd (upd (upd (upd (upd (upd (upd F 15 (nI fa264)) 16 pl265) 27 (nI nd225)) 31 (nI wr227)) 64 (nI at263)) 65 (nI ne)) 66 (nI lk226)) (updA (stR X229 14 nd (nI r228)) 2 K)) _ := mW_to (F := F) (l1 := [(15, (nI fa223)), (16, pl224), (27, (nI nd225)), (31, (nI wr227)), (64, (nI at222)), (65, (nI ne)), (66, (nI lk226)), (15, (nI fa264)), (16, pl265), (64, (nI at263))]) (l2 := [(15, (nI fa264)), (16, pl265), (27, (nI nd225)), (31, (nI wr227)), (64, (nI at263)), (65, (nI ne)), (66, (nI lk226))]) (V := [(nI fa264), pl265, (nI nd225), (nI wr227), (nI at263), (nI ne), (nI lk226), (nI fa264), pl265, (nI at263), (nI fa264), pl265, (nI nd225), (nI wr227), (nI at263), (nI ne), (nI lk226)]) rfl rfl (show (updA (updA (stR X229 14 nd (nI r228)) 2 K) 2 K) = (updA (stR X229 14 nd (nI r228)) 2 K) from updsA_eq2 (F := X229) (l1 := [(14, (upd (X229 14) nd (nI r228))), (2, K), (2, K)]) (l2 := [(14, (upd (X229 14) nd (nI r228))), (2, K)]) (V := [(upd (X229 14) nd (nI r228)), K, K, (upd (X229 14) nd (nI r228)), K]) rfl rfl) hP
                  have hD : va_D A (mW G h0 a (upd (upd (upd (upd (upd (upd (upd F 15 (nI fa264)) 16 pl265) 27 (nI nd225)) 31 (nI wr227)) 64 (nI at263)) 65 (nI ne)) 66 (nI lk226)) (updA (stR X229 14 nd (nI r228)) 2 K)) := mW_D hD
                  refine W.widen (k := 0) (n := 0) (Nat.le_of_ble_eq_true rfl) (Nat.le_of_ble_eq_true rfl) ?_
                  refine W.eq (g2 := F0 m 225 ls []) rfl ?_
                  obtain ⟨n275, n274⟩ := h270 e245
                  replace n275 := n275.symm
                  subst n275
                  replace n274 := n274.symm
                  subst n274
                  refine lv_aload_n hx hb dX12_loop_225 rfl (lv_at hl 1 rfl) ?_
                  refine r_get (v := .ref (a 15)) hx hb hown hq hE hP 23 56 tFX12_23 (by decide) pw_1445 rfl dX12_loop_226 ?_
                  refine lv_iload_n hx hb dX12_loop_229 rfl (lv_at hl 0 rfl) ?_
                  refine lv_aload_n hx hb dX12_loop_230 rfl (lv_at hl 1 rfl) ?_
                  have hP : va_P G.1 pCl (mW G h0 a (upd (upd (upd (upd (upd (upd (upd (upd (upd F 15 (nI fa223)) 16 pl265) 27 (nI nd225)) 31 (nI wr227)) 64 (nI at222)) 65 (nI ne)) 66 (nI lk226)) 15 (nI fa223)) 64 (nI at222)) (updA (updA (stR X229 14 nd (nI r228)) 2 K) 2 K)) _ := hP
                  have hD : va_D A (mW G h0 a (upd (upd (upd (upd (upd (upd (upd (upd (upd F 15 (nI fa223)) 16 pl265) 27 (nI nd225)) 31 (nI wr227)) 64 (nI at222)) 65 (nI ne)) 66 (nI lk226)) 15 (nI fa223)) 64 (nI at222)) (updA (updA (stR X229 14 nd (nI r228)) 2 K) 2 K)) := mW_D hD
                  refine pc_V0 (G := G) (As := []) (rest := [.int (nI nd), .ref (a 15)]) hx hb hml hown hq hE hX pX0_al hP hD hS hA hl.1 (RF_statement l G h0 a (upd (upd (upd (upd (upd (upd (upd F 15 (nI fa223)) 16 pl265) 27 (nI nd225)) 31 (nI wr227)) 64 (nI at222)) 65 (nI ne)) 66 (nI lk226)) (updA (stR X229 14 nd (nI r228)) 2 K) at222 T fa223 K (by omega) (by omega) hK (by omega) e245) (gV pw_1699 pw_1700 pw_1701 pw_1523 pw_1706) hV_X12_statement 0 9 rfl rfl rfl rfl (Nat.le_of_ble_eq_true rfl) dX12_loop_231 ⟨Nat.le_of_ble_eq_true rfl, Nat.le_of_ble_eq_true rfl⟩ ⟨(by show 2 + 1 ≤ (26 * n + 43); omega), (by show 8 + (3 + 11) + 60 ≤ (2000 * n + 4300); omega)⟩ (fun v278 u276 H locs hw277 hP hD hS => ?_)
                  obtain rfl : v278 = some (.int 0) := hw277
                  have hP : va_P G.1 pCl (mW G h0 a (upd (upd (upd (upd (upd (upd (upd F 15 (nI fa223)) 16 pl265) 27 (nI nd225)) 31 (nI wr227)) 64 (nI at222)) 65 (nI ne)) 66 (nI lk226)) (updA (stR X229 14 nd (nI r228)) 2 K)) _ := mW_to (F := F) (l1 := [(15, (nI fa223)), (16, pl265), (27, (nI nd225)), (31, (nI wr227)), (64, (nI at222)), (65, (nI ne)), (66, (nI lk226)), (15, (nI fa223)), (64, (nI at222))]) (l2 := [(15, (nI fa223)), (16, pl265), (27, (nI nd225)), (31, (nI wr227)), (64, (nI at222)), (65, (nI ne)), (66, (nI lk226))]) (V := [(nI fa223), pl265, (nI nd225), (nI wr227), (nI at222), (nI ne), (nI lk226), (nI fa223), (nI at222), (nI fa223), pl265, (nI nd225), (nI wr227), (nI at222), (nI ne), (nI lk226)]) rfl rfl (show (updA (updA (stR X229 14 nd (nI r228)) 2 K) 2 K) = (updA (stR X229 14 nd (nI r228)) 2 K) from updsA_eq2 (F := X229) (l1 := [(14, (upd (X229 14) nd (nI r228))), (2, K), (2, K)]) (l2 := [(14, (upd (X229 14) nd (nI r228))), (2, K)]) (V := [(upd (X229 14) nd (nI r228)), K, K, (upd (X229 14) nd (nI r228)), K]) rfl rfl) hP
                  have hD : va_D A (mW G h0 a (upd (upd (upd (upd (upd (upd (upd F 15 (nI fa223)) 16 pl265) 27 (nI nd225)) 31 (nI wr227)) 64 (nI at222)) 65 (nI ne)) 66 (nI lk226)) (updA (stR X229 14 nd (nI r228)) 2 K)) := mW_D hD
                  refine W.widen (k := 0) (n := 0) (Nat.le_of_ble_eq_true rfl) (Nat.le_of_ble_eq_true rfl) ?_
                  refine W.eq (g2 := F0 m 234 ls [.int 0, .int (nI nd), .ref (a 15)]) rfl ?_
                  refine r_sti (f := ((stR X229 14 nd (nI r228)) 15)) (j := nd) hx hb hE hP hD hS 15 (ma_15 G a _) rfl (mas_15 G a _) (by omega) (by decide) dX12_loop_234 (fun H locs hP hD hS => ?_)
                  have hP : va_P G.1 pCl (mW G h0 a (upd (upd (upd (upd (upd (upd (upd F 15 (nI fa223)) 16 pl265) 27 (nI nd225)) 31 (nI wr227)) 64 (nI at222)) 65 (nI ne)) 66 (nI lk226)) (updA (stR (stR X229 14 nd (nI r228)) 15 nd 0) 2 K)) _ := mW_to (F := F) (l1 := [(15, (nI fa223)), (16, pl265), (27, (nI nd225)), (31, (nI wr227)), (64, (nI at222)), (65, (nI ne)), (66, (nI lk226))]) (l2 := [(15, (nI fa223)), (16, pl265), (27, (nI nd225)), (31, (nI wr227)), (64, (nI at222)), (65, (nI ne)), (66, (nI lk226))]) (V := [(nI fa223), pl265, (nI nd225), (nI wr227), (nI at222), (nI ne), (nI lk226), (nI fa223), pl265, (nI nd225), (nI wr227), (nI at222), (nI ne), (nI lk226)]) rfl rfl (show (updA (updA (stR X229 14 nd (nI r228)) 2 K) 15 (upd ((stR X229 14 nd (nI r228)) 15) nd 0)) = (updA (stR (stR X229 14 nd (nI r228)) 15 nd 0) 2 K) from updsA_eq2 (F := X229) (l1 := [(14, (upd (X229 14) nd (nI r228))), (2, K), (15, (upd ((stR X229 14 nd (nI r228)) 15) nd 0))]) (l2 := [(14, (upd (X229 14) nd (nI r228))), (15, (upd ((stR X229 14 nd (nI r228)) 15) nd 0)), (2, K)]) (V := [(upd (X229 14) nd (nI r228)), K, (upd ((stR X229 14 nd (nI r228)) 15) nd 0), (upd (X229 14) nd (nI r228)), (upd ((stR X229 14 nd (nI r228)) 15) nd 0), K]) rfl rfl) hP
                  have hD : va_D A (mW G h0 a (upd (upd (upd (upd (upd (upd (upd F 15 (nI fa223)) 16 pl265) 27 (nI nd225)) 31 (nI wr227)) 64 (nI at222)) 65 (nI ne)) 66 (nI lk226)) (updA (stR (stR X229 14 nd (nI r228)) 15 nd 0) 2 K)) := mW_D hD
                  have hkp279 : Kp B (stR (stR X229 14 nd (nI r228)) 15 nd 0) wr227 T := (Kp.row hkp259 (by omega))
                  refine lv_iload_n hx hb dX12_loop_235 rfl (lv_at hl 0 rfl) ?_
                  have hz280 : at0 ≤ at222 := (by omega)
                  have hz281 : at222 ≤ T := (by omega)
                  have hz282 : fa223 ≤ 100 := (by omega)
                  have hz283 : nd ≤ nd225 := (by omega)
                  have hz284 : nd225 + 2 * at0 ≤ nd + 2 * at222 + 100000 * fa223 := (by omega)
                  have hz285 : nd225 + 2 * at0 ≤ nd + 2 * at222 + (60 * (21 - ne) + 40) := (by omega)
                  have hz286 : wr ≤ wr227 := (by omega)
                  have hz287 : wr227 + at0 ≤ wr + at222 := (by omega)
                  have hz288 : lk ≤ lk226 := (by omega)
                  have hz289 : lk226 ≤ 60 + 100 * fa223 := (by omega)
                  have hz290 : at0 + 1 ≤ at222 + fa223 := (by omega)
                  have hz291 : nd ≤ nd225 := (by omega)
                  have hz292 : Kp B (stR (stR X229 14 nd (nI r228)) 15 nd 0) wr227 T := hkp279
                  have hz293 : If (fa223 = 0) (Low B (stR (stR X229 14 nd (nI r228)) 15 nd 0) nd wr ∧ Frs K T wr227 (stR (stR X229 14 nd (nI r228)) 15 nd 0) nd nd225 20000 [(nd, (280 + 4 * (21 - ne)))] ∧ kcl 3 ((stR (stR X229 14 nd (nI r228)) 15 nd 0) 9 nd) = true) := (fun e => absurd e (by omega))
                  have hP : va_P G.1 pCl (mW G h0 a (upd (upd (upd (upd (upd (upd (upd F 15 (nI fa223)) 16 pl265) 27 (nI nd225)) 31 (nI wr227)) 64 (nI at222)) 65 (nI ne)) 66 (nI lk226)) (updA (stR (stR X229 14 nd (nI r228)) 15 nd 0) 2 K)) _ := hP
                  have hD : va_D A (mW G h0 a (upd (upd (upd (upd (upd (upd (upd F 15 (nI fa223)) 16 pl265) 27 (nI nd225)) 31 (nI wr227)) 64 (nI at222)) 65 (nI ne)) 66 (nI lk226)) (updA (stR (stR X229 14 nd (nI r228)) 15 nd 0) 2 K)) := mW_D hD
                  exact W.iret (v := (nI nd)) hx hb hr (fun t9 ht9 hW9 => ⟨⟨_, (at222, fa223, pl265, nd225, lk226, wr227, nd, (stR (stR X229 14 nd (nI r228)) 15 nd 0)), rfl, ⟨rfl, hz280, hz281, hz282, hz283, hz284, hz285, hz286, hz287, hz288, hz289, hz290, hz291, hz292, hz293⟩, by rw [ht9]; exact hP, hD⟩, hS.F ht9⟩) hS.2.2 dX12_loop_236
          · have e58 := e58
            refine lv_aload_n hx hb dX12_loop_177 rfl (lv_at hl 1 rfl) ?_
            refine r_get (v := .int (nI fa48)) hx hb hown hq hE hP 15 350 tFX12_15 (by decide) pw_1594 rfl dX12_loop_178 ?_
            refine lv_if_ne (tgt := 219) hx hb dX12_loop_181 (by decide) (fun c294 => ?_) (fun c294 => (by have n295 : fa48 = 0 := (nI_eq (a := fa48) (b := 0) (by omega) (by omega)).mp c294; omega))
            refine lv_aload_n hx hb dX12_loop_219 rfl (lv_at hl 1 rfl) ?_
            refine lv_bipush (v := 41) hx hb dX12_loop_220 (by decide) ?_
            have hP : va_P G.1 pCl (mW G h0 a (upd (upd (upd (upd (upd (upd (upd (upd (upd F 15 (nI fa48)) 16 pl49) 27 (nI nd2)) 31 (nI wr2)) 64 (nI at47)) 65 (nI ne)) 66 (nI lk2)) 15 (nI fa48)) 64 (nI at47)) (updA (updA X2 2 K) 2 K)) _ := mW_to (F := F) (l1 := [(15, (nI fa48)), (16, pl49), (27, (nI nd2)), (31, (nI wr2)), (64, (nI at47)), (65, (nI ne)), (66, (nI lk2))]) (l2 := [(15, (nI fa48)), (16, pl49), (27, (nI nd2)), (31, (nI wr2)), (64, (nI at47)), (65, (nI ne)), (66, (nI lk2)), (15, (nI fa48)), (64, (nI at47))]) (V := [(nI fa48), pl49, (nI nd2), (nI wr2), (nI at47), (nI ne), (nI lk2), (nI fa48), pl49, (nI nd2), (nI wr2), (nI at47), (nI ne), (nI lk2), (nI fa48), (nI at47)]) rfl rfl (show (updA X2 2 K) = (updA (updA X2 2 K) 2 K) from updsA_eq2 (F := X2) (l1 := [(2, K)]) (l2 := [(2, K), (2, K)]) (V := [K, K, K]) rfl rfl) hP
            have hD : va_D A (mW G h0 a (upd (upd (upd (upd (upd (upd (upd (upd (upd F 15 (nI fa48)) 16 pl49) 27 (nI nd2)) 31 (nI wr2)) 64 (nI at47)) 65 (nI ne)) 66 (nI lk2)) 15 (nI fa48)) 64 (nI at47)) (updA (updA X2 2 K) 2 K)) := mW_D hD
            refine pc_V0 (G := G) (As := [.int 41]) (rest := []) hx hb hml hown hq hE hX pX0_al hP hD hS hA hl.1 (R_take l G h0 a (upd (upd (upd (upd (upd (upd (upd F 15 (nI fa48)) 16 pl49) 27 (nI nd2)) 31 (nI wr2)) 64 (nI at47)) 65 (nI ne)) 66 (nI lk2)) (updA X2 2 K) at47 T fa48 K 41 (by omega) (by omega) hK (by omega) (by decide) (by decide)) (gV pw_1614 pw_1615 pw_1616 pw_1523 pw_1601) hV_X12_take 0 9 rfl rfl rfl rfl (Nat.le_of_ble_eq_true rfl) dX12_loop_222 ⟨Nat.le_of_ble_eq_true rfl, Nat.le_of_ble_eq_true rfl⟩ ⟨(by show 4 + 1 ≤ (26 * n + 43); omega), (by show 8 + (2 + 11) + 103 ≤ (2000 * n + 4300); omega)⟩ (fun v298 u296 H locs hw297 hP hD hS => ?_)
            obtain ⟨at299, fa300, pl301⟩ := u296
            obtain ⟨hw297, h302, h303, h304, h305, h306, h307, h308, h309⟩ := hw297
            have h302 : at47 ≤ at299 := h302
            have h303 : at299 ≤ T := h303
            have h304 : fa48 ≤ fa300 := h304
            have h305 : fa300 ≤ 100 := h305
            have h306 : If (0 < fa48) (at299 = at47 ∧ fa300 = fa48) := h306
            have h307 : at299 ≤ at47 + 1 := h307
            have h308 : at47 + 1 ≤ at299 + fa300 := h308
            have h309 : If (fa300 = 0) (K at47 = 41) := h309
            obtain rfl : v298 = none := hw297
            have hP : va_P G.1 pCl (mW G h0 a (upd (upd (upd (upd (upd (upd (upd F 15 (nI fa300)) 16 pl301) 27 (nI nd2)) 31 (nI wr2)) 64 (nI at299)) 65 (nI ne)) 66 (nI lk2)) (updA X2 2 K)) _ := mW_to (F := F) (l1 := [(15, (nI fa48)), (16, pl49), (27, (nI nd2)), (31, (nI wr2)), (64, (nI at47)), (65, (nI ne)), (66, (nI lk2)), (15, (nI fa300)), (16, pl301), (64, (nI at299))]) (l2 := [(15, (nI fa300)), (16, pl301), (27, (nI nd2)), (31, (nI wr2)), (64, (nI at299)), (65, (nI ne)), (66, (nI lk2))]) (V := [(nI fa300), pl301, (nI nd2), (nI wr2), (nI at299), (nI ne), (nI lk2), (nI fa300), pl301, (nI at299), (nI fa300), pl301, (nI nd2), (nI wr2), (nI at299), (nI ne), (nI lk2)]) rfl rfl (show (updA (updA X2 2 K) 2 K) = (updA X2 2 K) from updsA_eq2 (F := X2) (l1 := [(2, K), (2, K)]) (l2 := [(2, K)]) (V := [K, K, K]) rfl rfl) hP
            have hD : va_D A (mW G h0 a (upd (upd (upd (upd (upd (upd (upd F 15 (nI fa300)) 16 pl301) 27 (nI nd2)) 31 (nI wr2)) 64 (nI at299)) 65 (nI ne)) 66 (nI lk2)) (updA X2 2 K)) := mW_D hD
            refine W.widen (k := 0) (n := 0) (Nat.le_of_ble_eq_true rfl) (Nat.le_of_ble_eq_true rfl) ?_
            refine W.eq (g2 := F0 m 225 ls []) rfl ?_
            obtain ⟨n311, n310⟩ := h306 e58
            replace n311 := n311.symm
            subst n311
            replace n310 := n310.symm
            subst n310
            refine lv_aload_n hx hb dX12_loop_225 rfl (lv_at hl 1 rfl) ?_
            refine r_get (v := .ref (a 15)) hx hb hown hq hE hP 23 56 tFX12_23 (by decide) pw_1445 rfl dX12_loop_226 ?_
            refine lv_iload_n hx hb dX12_loop_229 rfl (lv_at hl 0 rfl) ?_
            refine lv_aload_n hx hb dX12_loop_230 rfl (lv_at hl 1 rfl) ?_
            have hP : va_P G.1 pCl (mW G h0 a (upd (upd (upd (upd (upd (upd (upd (upd (upd F 15 (nI fa48)) 16 pl301) 27 (nI nd2)) 31 (nI wr2)) 64 (nI at47)) 65 (nI ne)) 66 (nI lk2)) 15 (nI fa48)) 64 (nI at47)) (updA (updA X2 2 K) 2 K)) _ := hP
            have hD : va_D A (mW G h0 a (upd (upd (upd (upd (upd (upd (upd (upd (upd F 15 (nI fa48)) 16 pl301) 27 (nI nd2)) 31 (nI wr2)) 64 (nI at47)) 65 (nI ne)) 66 (nI lk2)) 15 (nI fa48)) 64 (nI at47)) (updA (updA X2 2 K) 2 K)) := mW_D hD
            refine pc_V0 (G := G) (As := []) (rest := [.int (nI nd), .ref (a 15)]) hx hb hml hown hq hE hX pX0_al hP hD hS hA hl.1 (RF_statement l G h0 a (upd (upd (upd (upd (upd (upd (upd F 15 (nI fa48)) 16 pl301) 27 (nI nd2)) 31 (nI wr2)) 64 (nI at47)) 65 (nI ne)) 66 (nI lk2)) (updA X2 2 K) at47 T fa48 K (by omega) (by omega) hK (by omega) e58) (gV pw_1699 pw_1700 pw_1701 pw_1523 pw_1706) hV_X12_statement 0 9 rfl rfl rfl rfl (Nat.le_of_ble_eq_true rfl) dX12_loop_231 ⟨Nat.le_of_ble_eq_true rfl, Nat.le_of_ble_eq_true rfl⟩ ⟨(by show 2 + 1 ≤ (26 * n + 43); omega), (by show 8 + (3 + 11) + 60 ≤ (2000 * n + 4300); omega)⟩ (fun v314 u312 H locs hw313 hP hD hS => ?_)
            obtain rfl : v314 = some (.int 0) := hw313
            have hP : va_P G.1 pCl (mW G h0 a (upd (upd (upd (upd (upd (upd (upd F 15 (nI fa48)) 16 pl301) 27 (nI nd2)) 31 (nI wr2)) 64 (nI at47)) 65 (nI ne)) 66 (nI lk2)) (updA X2 2 K)) _ := mW_to (F := F) (l1 := [(15, (nI fa48)), (16, pl301), (27, (nI nd2)), (31, (nI wr2)), (64, (nI at47)), (65, (nI ne)), (66, (nI lk2)), (15, (nI fa48)), (64, (nI at47))]) (l2 := [(15, (nI fa48)), (16, pl301), (27, (nI nd2)), (31, (nI wr2)), (64, (nI at47)), (65, (nI ne)), (66, (nI lk2))]) (V := [(nI fa48), pl301, (nI nd2), (nI wr2), (nI at47), (nI ne), (nI lk2), (nI fa48), (nI at47), (nI fa48), pl301, (nI nd2), (nI wr2), (nI at47), (nI ne), (nI lk2)]) rfl rfl (show (updA (updA X2 2 K) 2 K) = (updA X2 2 K) from updsA_eq2 (F := X2) (l1 := [(2, K), (2, K)]) (l2 := [(2, K)]) (V := [K, K, K]) rfl rfl) hP
            have hD : va_D A (mW G h0 a (upd (upd (upd (upd (upd (upd (upd F 15 (nI fa48)) 16 pl301) 27 (nI nd2)) 31 (nI wr2)) 64 (nI at47)) 65 (nI ne)) 66 (nI lk2)) (updA X2 2 K)) := mW_D hD
            refine W.widen (k := 0) (n := 0) (Nat.le_of_ble_eq_true rfl) (Nat.le_of_ble_eq_true rfl) ?_
            refine W.eq (g2 := F0 m 234 ls [.int 0, .int (nI nd), .ref (a 15)]) rfl ?_
            refine r_sti (f := (X2 15)) (j := nd) hx hb hE hP hD hS 15 (ma_15 G a _) rfl (mas_15 G a _) (by omega) (by decide) dX12_loop_234 (fun H locs hP hD hS => ?_)
            have hP : va_P G.1 pCl (mW G h0 a (upd (upd (upd (upd (upd (upd (upd F 15 (nI fa48)) 16 pl301) 27 (nI nd2)) 31 (nI wr2)) 64 (nI at47)) 65 (nI ne)) 66 (nI lk2)) (updA (stR X2 15 nd 0) 2 K)) _ := mW_to (F := F) (l1 := [(15, (nI fa48)), (16, pl301), (27, (nI nd2)), (31, (nI wr2)), (64, (nI at47)), (65, (nI ne)), (66, (nI lk2))]) (l2 := [(15, (nI fa48)), (16, pl301), (27, (nI nd2)), (31, (nI wr2)), (64, (nI at47)), (65, (nI ne)), (66, (nI lk2))]) (V := [(nI fa48), pl301, (nI nd2), (nI wr2), (nI at47), (nI ne), (nI lk2), (nI fa48), pl301, (nI nd2), (nI wr2), (nI at47), (nI ne), (nI lk2)]) rfl rfl (show (updA (updA X2 2 K) 15 (upd (X2 15) nd 0)) = (updA (stR X2 15 nd 0) 2 K) from updsA_eq2 (F := X2) (l1 := [(2, K), (15, (upd (X2 15) nd 0))]) (l2 := [(15, (upd (X2 15) nd 0)), (2, K)]) (V := [K, (upd (X2 15) nd 0), (upd (X2 15) nd 0), K]) rfl rfl) hP
            have hD : va_D A (mW G h0 a (upd (upd (upd (upd (upd (upd (upd F 15 (nI fa48)) 16 pl301) 27 (nI nd2)) 31 (nI wr2)) 64 (nI at47)) 65 (nI ne)) 66 (nI lk2)) (updA (stR X2 15 nd 0) 2 K)) := mW_D hD
            have hkp315 : Kp B (stR X2 15 nd 0) wr2 T := (Kp.row hkp2 (by omega))
            refine lv_iload_n hx hb dX12_loop_235 rfl (lv_at hl 0 rfl) ?_
            have hz316 : at0 ≤ at47 := (by omega)
            have hz317 : at47 ≤ T := (by omega)
            have hz318 : fa48 ≤ 100 := (by omega)
            have hz319 : nd ≤ nd2 := (by omega)
            have hz320 : nd2 + 2 * at0 ≤ nd + 2 * at47 + 100000 * fa48 := (by omega)
            have hz321 : nd2 + 2 * at0 ≤ nd + 2 * at47 + (60 * (21 - ne) + 40) := (by omega)
            have hz322 : wr ≤ wr2 := (by omega)
            have hz323 : wr2 + at0 ≤ wr + at47 := (by omega)
            have hz324 : lk ≤ lk2 := (by omega)
            have hz325 : lk2 ≤ 60 + 100 * fa48 := (by omega)
            have hz326 : at0 + 1 ≤ at47 + fa48 := (by omega)
            have hz327 : nd ≤ nd2 := (by omega)
            have hz328 : Kp B (stR X2 15 nd 0) wr2 T := hkp315
            have hz329 : If (fa48 = 0) (Low B (stR X2 15 nd 0) nd wr ∧ Frs K T wr2 (stR X2 15 nd 0) nd nd2 20000 [(nd, (280 + 4 * (21 - ne)))] ∧ kcl 3 ((stR X2 15 nd 0) 9 nd) = true) := (fun e => absurd e (by omega))
            have hP : va_P G.1 pCl (mW G h0 a (upd (upd (upd (upd (upd (upd (upd F 15 (nI fa48)) 16 pl301) 27 (nI nd2)) 31 (nI wr2)) 64 (nI at47)) 65 (nI ne)) 66 (nI lk2)) (updA (stR X2 15 nd 0) 2 K)) _ := hP
            have hD : va_D A (mW G h0 a (upd (upd (upd (upd (upd (upd (upd F 15 (nI fa48)) 16 pl301) 27 (nI nd2)) 31 (nI wr2)) 64 (nI at47)) 65 (nI ne)) 66 (nI lk2)) (updA (stR X2 15 nd 0) 2 K)) := mW_D hD
            exact W.iret (v := (nI nd)) hx hb hr (fun t9 ht9 hW9 => ⟨⟨_, (at47, fa48, pl301, nd2, lk2, wr2, nd, (stR X2 15 nd 0)), rfl, ⟨rfl, hz316, hz317, hz318, hz319, hz320, hz321, hz322, hz323, hz324, hz325, hz326, hz327, hz328, hz329⟩, by rw [ht9]; exact hP, hD⟩, hS.F ht9⟩) hS.2.2 dX12_loop_236
        refine lv_aload_n hx hb dX12_loop_145 rfl (lv_at hl 1 rfl) ?_
        refine r_get (v := .int 0) hx hb hown hq hE hP 15 350 tFX12_15 (by decide) pw_1594 rfl dX12_loop_146 ?_
        refine lv_if_ne (tgt := 171) hx hb dX12_loop_149 (by decide) (fun c330 => absurd c330 (by decide)) (fun c330 => ?_)
        refine lv_aload_n hx hb dX12_loop_152 rfl (lv_at hl 1 rfl) ?_
        have hP : va_P G.1 pCl (mW G h0 a (upd (upd (upd (upd (upd (upd (upd (upd (upd F 15 0) 16 pl34) 27 (nI nd2)) 31 (nI wr2)) 64 (nI at32)) 65 (nI ne)) 66 (nI lk2)) 15 (nI 0)) 64 (nI at32)) (updA (updA X2 2 K) 2 K)) _ := mW_to (F := F) (l1 := [(15, 0), (16, pl34), (27, (nI nd2)), (31, (nI wr2)), (64, (nI at32)), (65, (nI ne)), (66, (nI lk2))]) (l2 := [(15, 0), (16, pl34), (27, (nI nd2)), (31, (nI wr2)), (64, (nI at32)), (65, (nI ne)), (66, (nI lk2)), (15, (nI 0)), (64, (nI at32))]) (V := [(nI 0), pl34, (nI nd2), (nI wr2), (nI at32), (nI ne), (nI lk2), (nI 0), pl34, (nI nd2), (nI wr2), (nI at32), (nI ne), (nI lk2), (nI 0), (nI at32)]) rfl rfl (show (updA X2 2 K) = (updA (updA X2 2 K) 2 K) from updsA_eq2 (F := X2) (l1 := [(2, K)]) (l2 := [(2, K), (2, K)]) (V := [K, K, K]) rfl rfl) hP
        have hD : va_D A (mW G h0 a (upd (upd (upd (upd (upd (upd (upd (upd (upd F 15 0) 16 pl34) 27 (nI nd2)) 31 (nI wr2)) 64 (nI at32)) 65 (nI ne)) 66 (nI lk2)) 15 (nI 0)) 64 (nI at32)) (updA (updA X2 2 K) 2 K)) := mW_D hD
        refine pc_V0 (G := G) (As := []) (rest := []) hx hb hml hown hq hE hX pX0_al hP hD hS hA hl.1 (R_kind l G h0 a (upd (upd (upd (upd (upd (upd (upd F 15 0) 16 pl34) 27 (nI nd2)) 31 (nI wr2)) 64 (nI at32)) 65 (nI ne)) 66 (nI lk2)) (updA X2 2 K) at32 T 0 K (by omega) (by omega) hK (by omega)) (gV pw_1626 pw_1627 pw_1628 pw_1523 pw_1591) hV_X12_kind 0 9 rfl rfl rfl rfl (Nat.le_of_ble_eq_true rfl) dX12_loop_153 ⟨Nat.le_of_ble_eq_true rfl, Nat.le_of_ble_eq_true rfl⟩ ⟨(by show 2 + 1 ≤ (26 * n + 43); omega), (by show 8 + (1 + 11) + 60 ≤ (2000 * n + 4300); omega)⟩ (fun v333 u331 H locs hw332 hP hD hS => ?_)
        obtain rfl : v333 = some (.int (K at32)) := hw332
        have hP : va_P G.1 pCl (mW G h0 a (upd (upd (upd (upd (upd (upd (upd F 15 0) 16 pl34) 27 (nI nd2)) 31 (nI wr2)) 64 (nI at32)) 65 (nI ne)) 66 (nI lk2)) (updA X2 2 K)) _ := mW_to (F := F) (l1 := [(15, 0), (16, pl34), (27, (nI nd2)), (31, (nI wr2)), (64, (nI at32)), (65, (nI ne)), (66, (nI lk2)), (15, (nI 0)), (64, (nI at32))]) (l2 := [(15, 0), (16, pl34), (27, (nI nd2)), (31, (nI wr2)), (64, (nI at32)), (65, (nI ne)), (66, (nI lk2))]) (V := [0, pl34, (nI nd2), (nI wr2), (nI at32), (nI ne), (nI lk2), 0, (nI at32), 0, pl34, (nI nd2), (nI wr2), (nI at32), (nI ne), (nI lk2)]) rfl rfl (show (updA (updA X2 2 K) 2 K) = (updA X2 2 K) from updsA_eq2 (F := X2) (l1 := [(2, K), (2, K)]) (l2 := [(2, K)]) (V := [K, K, K]) rfl rfl) hP
        have hD : va_D A (mW G h0 a (upd (upd (upd (upd (upd (upd (upd F 15 0) 16 pl34) 27 (nI nd2)) 31 (nI wr2)) 64 (nI at32)) 65 (nI ne)) 66 (nI lk2)) (updA X2 2 K)) := mW_D hD
        refine W.widen (k := 0) (n := 0) (Nat.le_of_ble_eq_true rfl) (Nat.le_of_ble_eq_true rfl) ?_
        refine W.eq (g2 := F0 m 156 ls [.int (K at32)]) rfl ?_
        refine lv_bipush (v := 59) hx hb dX12_loop_156 (by decide) ?_
        refine lv_icmp_eq (tgt := 171) hx hb dX12_loop_158 (by decide) (fun c334 => ?_) (fun c334 => ?_)
        · have hP : va_P G.1 pCl (mW G h0 a (upd (upd (upd (upd (upd (upd (upd F 15 0) 16 pl34) 27 (nI nd2)) 31 (nI wr2)) 64 (nI at32)) 65 (nI ne)) 66 (nI lk2)) (updA X2 2 K)) _ := hP
          have hD : va_D A (mW G h0 a (upd (upd (upd (upd (upd (upd (upd F 15 0) 16 pl34) 27 (nI nd2)) 31 (nI wr2)) 64 (nI at32)) 65 (nI ne)) 66 (nI lk2)) (updA X2 2 K)) := mW_D hD
          exact cut_b at32 nd2 wr2 lk2 pl34 X2 xa3 (-1) _ _ _ (by omega) (by omega) (by omega) (by omega) (by omega) (by omega) (by omega) (by omega) (by omega) hkp2 hlo2 (Frs.up hf2 (by omega)) hn2 hP hD hS (lv_sub hl [0, 1] rfl)
        · refine lv_aload_n hx hb dX12_loop_161 rfl (lv_at hl 1 rfl) ?_
          refine r_get (v := .ref (a 13)) hx hb hown hq hE hP 21 50 tFX12_21 (by decide) pw_1443 rfl dX12_loop_162 ?_
          refine lv_iload_n hx hb dX12_loop_165 rfl (lv_at hl 0 rfl) ?_
          refine lv_aload_n hx hb dX12_loop_166 rfl (lv_at hl 1 rfl) ?_
          have hP : va_P G.1 pCl (mW G h0 a (upd (upd (upd (upd (upd (upd (upd (upd (upd (upd (upd (upd (upd F 15 0) 16 pl34) 27 (nI nd2)) 31 (nI wr2)) 64 (nI at32)) 65 (nI ne)) 66 (nI lk2)) 15 0) 27 (nI nd2)) 31 (nI wr2)) 64 (nI at32)) 65 (nI ne)) 66 (nI lk2)) (updA X2 2 K)) _ := mW_to (F := F) (l1 := [(15, 0), (16, pl34), (27, (nI nd2)), (31, (nI wr2)), (64, (nI at32)), (65, (nI ne)), (66, (nI lk2))]) (l2 := [(15, 0), (16, pl34), (27, (nI nd2)), (31, (nI wr2)), (64, (nI at32)), (65, (nI ne)), (66, (nI lk2)), (15, 0), (27, (nI nd2)), (31, (nI wr2)), (64, (nI at32)), (65, (nI ne)), (66, (nI lk2))]) (V := [0, pl34, (nI nd2), (nI wr2), (nI at32), (nI ne), (nI lk2), 0, pl34, (nI nd2), (nI wr2), (nI at32), (nI ne), (nI lk2), 0, (nI nd2), (nI wr2), (nI at32), (nI ne), (nI lk2)]) rfl rfl rfl hP
          have hD : va_D A (mW G h0 a (upd (upd (upd (upd (upd (upd (upd (upd (upd (upd (upd (upd (upd F 15 0) 16 pl34) 27 (nI nd2)) 31 (nI wr2)) 64 (nI at32)) 65 (nI ne)) 66 (nI lk2)) 15 0) 27 (nI nd2)) 31 (nI wr2)) 64 (nI at32)) 65 (nI ne)) 66 (nI lk2)) (updA X2 2 K)) := mW_D hD
          refine pc_V0 (G := G) (As := []) (rest := [.int (nI nd), .ref (a 13)]) hx hb hml hown hq hE hX pX0_al hP hD hS hA hl.1 (hEc h0 a (upd (upd (upd (upd (upd (upd (upd F 15 0) 16 pl34) 27 (nI nd2)) 31 (nI wr2)) 64 (nI at32)) 65 (nI ne)) 66 (nI lk2)) X2 at32 T ne nd2 wr2 lk2 K (by omega) (by omega) hK (by omega) (by omega) (by omega) (by omega) (hkp2).2 (by omega)) (gV pw_1640 pw_1641 pw_1642 pw_1523 pw_1656) hV_X12_choice 0 9 rfl rfl rfl rfl (Nat.le_of_ble_eq_true rfl) dX12_loop_167 ⟨Nat.le_of_ble_eq_true rfl, Nat.le_of_ble_eq_true rfl⟩ ⟨(by show (20 * n + 27) + 1 ≤ (26 * n + 43); omega), (by show 8 + (4 + 11) + (1000 * n + 40 * 27) ≤ (2000 * n + 4300); omega)⟩ (fun v337 u335 H locs hw336 hP hD hS => ?_)
          obtain ⟨at338, fa339, pl340, nd341, lk342, wr343, r344, X345⟩ := u335
          obtain ⟨hw336, h346, h347, h348, h349, h350, h351, h352, h353, h354, h355, h356, h357, h358, h359⟩ := hw336
          have h346 : at32 ≤ at338 := h346
          have h347 : at338 ≤ T := h347
          have h348 : fa339 ≤ 100 := h348
          have h349 : nd2 ≤ nd341 := h349
          have h350 : nd341 + 2 * at32 ≤ nd2 + 2 * at338 + 100000 * fa339 := h350
          have h351 : nd341 + 2 * at32 ≤ nd2 + 2 * at338 + 40 * (21 - ne) := h351
          have h352 : wr2 ≤ wr343 := h352
          have h353 : wr343 + at32 ≤ wr2 + at338 := h353
          have h354 : lk2 ≤ lk342 := h354
          have h355 : lk342 ≤ 60 + 100 * fa339 := h355
          have h356 : at32 + 1 ≤ at338 + fa339 := h356
          have h357 : r344 ≤ nd341 := h357
          have h358 : Kp X2 X345 wr343 T := h358
          have h359 : If (fa339 = 0) (Low X2 X345 nd2 wr2 ∧ Frs K T wr343 X345 nd2 nd341 20000 [(r344, (211 + lk342 - (10 * ne + lk2)))] ∧ kcl 1 (X345 9 r344) = true) := h359
          obtain rfl : v337 = some (.int (nI r344)) := hw336
          have hP : va_P G.1 pCl (mW G h0 a (upd (upd (upd (upd (upd (upd (upd F 15 (nI fa339)) 16 pl340) 27 (nI nd341)) 31 (nI wr343)) 64 (nI at338)) 65 (nI ne)) 66 (nI lk342)) (updA X345 2 K)) _ := mW_to (F := F) (l1 := [(15, 0), (16, pl34), (27, (nI nd2)), (31, (nI wr2)), (64, (nI at32)), (65, (nI ne)), (66, (nI lk2)), (15, (nI fa339)), (16, pl340), (27, (nI nd341)), (31, (nI wr343)), (64, (nI at338)), (65, (nI ne)), (66, (nI lk342))]) (l2 := [(15, (nI fa339)), (16, pl340), (27, (nI nd341)), (31, (nI wr343)), (64, (nI at338)), (65, (nI ne)), (66, (nI lk342))]) (V := [(nI fa339), pl340, (nI nd341), (nI wr343), (nI at338), (nI ne), (nI lk342), (nI fa339), pl340, (nI nd341), (nI wr343), (nI at338), (nI ne), (nI lk342), (nI fa339), pl340, (nI nd341), (nI wr343), (nI at338), (nI ne), (nI lk342)]) rfl rfl rfl hP
          have hD : va_D A (mW G h0 a (upd (upd (upd (upd (upd (upd (upd F 15 (nI fa339)) 16 pl340) 27 (nI nd341)) 31 (nI wr343)) 64 (nI at338)) 65 (nI ne)) 66 (nI lk342)) (updA X345 2 K)) := mW_D hD
          refine W.widen (k := 0) (n := 0) (Nat.le_of_ble_eq_true rfl) (Nat.le_of_ble_eq_true rfl) ?_
          refine W.eq (g2 := F0 m 170 ls [.int (nI r344), .int (nI nd), .ref (a 13)]) rfl ?_
          have hkp360 : Kp B X345 wr343 T := (Kp.trans hkp2 h358)
          rcases Nat.eq_zero_or_pos fa339 with e361 | e361
          · subst e361
            have hP : va_P G.1 pCl (mW G h0 a (upd (upd (upd (upd (upd (upd (upd F 15 0) 16 pl340) 27 (nI nd341)) 31 (nI wr343)) 64 (nI at338)) 65 (nI ne)) 66 (nI lk342)) (updA X345 2 K)) _ := hP
            have hD : va_D A (mW G h0 a (upd (upd (upd (upd (upd (upd (upd F 15 0) 16 pl340) 27 (nI nd341)) 31 (nI wr343)) 64 (nI at338)) 65 (nI ne)) 66 (nI lk342)) (updA X345 2 K)) := mW_D hD
            obtain ⟨hlw362, hf363, hc364⟩ := h359 rfl
            have hlo365 : Low B X345 nd wr := (Low.trans hlo2 hlw362 (by omega) (by omega))
            have hf366 : Frs K T wr343 X345 nd nd2 nd [(nd, (280 + 4 * (21 - ne)))] := (Frs.same hf2 (by omega) (fun j i q1 q2 q3 q4 => (hlw362.1 j i q1 (by omega) (by omega))))
            have hn367 : Nd X345 nd 36 xa3 (-1) (-1) (-1) := (Nd.low hn2 hlw362 (by omega))
            have hm368 := Frs.mem hf363
            refine r_sti (f := (X345 13)) (j := nd) hx hb hE hP hD hS 13 (ma_13 G a _) rfl (mas_13 G a _) (by omega) (by decide) dX12_loop_170 (fun H locs hP hD hS => ?_)
            have hP : va_P G.1 pCl (mW G h0 a (upd (upd (upd (upd (upd (upd (upd F 15 0) 16 pl340) 27 (nI nd341)) 31 (nI wr343)) 64 (nI at338)) 65 (nI ne)) 66 (nI lk342)) (updA (stR X345 13 nd (nI r344)) 2 K)) _ := mW_to (F := F) (l1 := [(15, 0), (16, pl340), (27, (nI nd341)), (31, (nI wr343)), (64, (nI at338)), (65, (nI ne)), (66, (nI lk342))]) (l2 := [(15, 0), (16, pl340), (27, (nI nd341)), (31, (nI wr343)), (64, (nI at338)), (65, (nI ne)), (66, (nI lk342))]) (V := [0, pl340, (nI nd341), (nI wr343), (nI at338), (nI ne), (nI lk342), 0, pl340, (nI nd341), (nI wr343), (nI at338), (nI ne), (nI lk342)]) rfl rfl (show (updA (updA X345 2 K) 13 (upd (X345 13) nd (nI r344))) = (updA (stR X345 13 nd (nI r344)) 2 K) from updsA_eq2 (F := X345) (l1 := [(2, K), (13, (upd (X345 13) nd (nI r344)))]) (l2 := [(13, (upd (X345 13) nd (nI r344))), (2, K)]) (V := [K, (upd (X345 13) nd (nI r344)), (upd (X345 13) nd (nI r344)), K]) rfl rfl) hP
            have hD : va_D A (mW G h0 a (upd (upd (upd (upd (upd (upd (upd F 15 0) 16 pl340) 27 (nI nd341)) 31 (nI wr343)) 64 (nI at338)) 65 (nI ne)) 66 (nI lk342)) (updA (stR X345 13 nd (nI r344)) 2 K)) := mW_D hD
            have hkp369 : Kp B (stR X345 13 nd (nI r344)) wr343 T := (Kp.row hkp360 (by omega))
            have hlo370 : Low B (stR X345 13 nd (nI r344)) nd wr := (Low.st hlo365 (by omega) (by omega))
            have hf371 : Frs K T wr343 X345 nd nd341 nd [(nd, (280 + 4 * (21 - ne))), (r344, (211 + lk342 - (10 * ne + lk2)))] := (Frs.join hf366 hf363 (by omega) (by omega) (by omega))
            have hn372 : Nd (stR X345 13 nd (nI r344)) nd 36 xa3 (nI r344) (-1) (-1) := (Nd.st hn367 (by omega))
            have hc373 : kcl 1 ((stR X345 13 nd (nI r344)) 9 r344) = true := by rw [st_ne (by omega)]; exact hc364
            have hf374 : Frs K T wr343 (stR X345 13 nd (nI r344)) nd nd341 nd [(nd, (280 + 4 * (21 - ne)))] := (Frs.set (s := 2) (k := 36) hf371 (by omega) (by omega) (by simp) (by omega) (by omega) hn367.2.2.1 hn367.1 (by decide) ⟨by decide, by decide, by decide, hc364, fun h => absurd h (by decide)⟩ (by omega) (by omega) (by decide) (fun h1 h2 => by omega))
            have hP : va_P G.1 pCl (mW G h0 a (upd (upd (upd (upd (upd (upd (upd F 15 0) 16 pl340) 27 (nI nd341)) 31 (nI wr343)) 64 (nI at338)) 65 (nI ne)) 66 (nI lk342)) (updA (stR X345 13 nd (nI r344)) 2 K)) _ := hP
            have hD : va_D A (mW G h0 a (upd (upd (upd (upd (upd (upd (upd F 15 0) 16 pl340) 27 (nI nd341)) 31 (nI wr343)) 64 (nI at338)) 65 (nI ne)) 66 (nI lk342)) (updA (stR X345 13 nd (nI r344)) 2 K)) := mW_D hD
            exact cut_b at338 nd341 wr343 lk342 pl340 (stR X345 13 nd (nI r344)) xa3 (nI r344) _ _ _ (by omega) (by omega) (by omega) (by omega) (by omega) (by omega) (by omega) (by omega) (by omega) hkp369 hlo370 (Frs.up hf374 (by omega)) hn372 hP hD hS (lv_sub hl [0, 1] rfl)
          · have e361 := e361
            refine r_sti (f := (X345 13)) (j := nd) hx hb hE hP hD hS 13 (ma_13 G a _) rfl (mas_13 G a _) (by omega) (by decide) dX12_loop_170 (fun H locs hP hD hS => ?_)
            have hP : va_P G.1 pCl (mW G h0 a (upd (upd (upd (upd (upd (upd (upd F 15 (nI fa339)) 16 pl340) 27 (nI nd341)) 31 (nI wr343)) 64 (nI at338)) 65 (nI ne)) 66 (nI lk342)) (updA (stR X345 13 nd (nI r344)) 2 K)) _ := mW_to (F := F) (l1 := [(15, (nI fa339)), (16, pl340), (27, (nI nd341)), (31, (nI wr343)), (64, (nI at338)), (65, (nI ne)), (66, (nI lk342))]) (l2 := [(15, (nI fa339)), (16, pl340), (27, (nI nd341)), (31, (nI wr343)), (64, (nI at338)), (65, (nI ne)), (66, (nI lk342))]) (V := [(nI fa339), pl340, (nI nd341), (nI wr343), (nI at338), (nI ne), (nI lk342), (nI fa339), pl340, (nI nd341), (nI wr343), (nI at338), (nI ne), (nI lk342)]) rfl rfl (show (updA (updA X345 2 K) 13 (upd (X345 13) nd (nI r344))) = (updA (stR X345 13 nd (nI r344)) 2 K) from updsA_eq2 (F := X345) (l1 := [(2, K), (13, (upd (X345 13) nd (nI r344)))]) (l2 := [(13, (upd (X345 13) nd (nI r344))), (2, K)]) (V := [K, (upd (X345 13) nd (nI r344)), (upd (X345 13) nd (nI r344)), K]) rfl rfl) hP
            have hD : va_D A (mW G h0 a (upd (upd (upd (upd (upd (upd (upd F 15 (nI fa339)) 16 pl340) 27 (nI nd341)) 31 (nI wr343)) 64 (nI at338)) 65 (nI ne)) 66 (nI lk342)) (updA (stR X345 13 nd (nI r344)) 2 K)) := mW_D hD
            have hkp375 : Kp B (stR X345 13 nd (nI r344)) wr343 T := (Kp.row hkp360 (by omega))
            refine lv_aload_n hx hb dX12_loop_171 rfl (lv_at hl 1 rfl) ?_
            refine lv_bipush (v := 59) hx hb dX12_loop_172 (by decide) ?_
            have hP : va_P G.1 pCl (mW G h0 a (upd (upd (upd (upd (upd (upd (upd (upd (upd F 15 (nI fa339)) 16 pl340) 27 (nI nd341)) 31 (nI wr343)) 64 (nI at338)) 65 (nI ne)) 66 (nI lk342)) 15 (nI fa339)) 64 (nI at338)) (updA (updA (stR X345 13 nd (nI r344)) 2 K) 2 K)) _ := mW_to (F := F) (l1 := [(15, (nI fa339)), (16, pl340), (27, (nI nd341)), (31, (nI wr343)), (64, (nI at338)), (65, (nI ne)), (66, (nI lk342))]) (l2 := [(15, (nI fa339)), (16, pl340), (27, (nI nd341)), (31, (nI wr343)), (64, (nI at338)), (65, (nI ne)), (66, (nI lk342)), (15, (nI fa339)), (64, (nI at338))]) (V := [(nI fa339), pl340, (nI nd341), (nI wr343), (nI at338), (nI ne), (nI lk342), (nI fa339), pl340, (nI nd341), (nI wr343), (nI at338), (nI ne), (nI lk342), (nI fa339), (nI at338)]) rfl rfl (show (updA (stR X345 13 nd (nI r344)) 2 K) = (updA (updA (stR X345 13 nd (nI r344)) 2 K) 2 K) from updsA_eq2 (F := X345) (l1 := [(13, (upd (X345 13) nd (nI r344))), (2, K)]) (l2 := [(13, (upd (X345 13) nd (nI r344))), (2, K), (2, K)]) (V := [(upd (X345 13) nd (nI r344)), K, (upd (X345 13) nd (nI r344)), K, K]) rfl rfl) hP
            have hD : va_D A (mW G h0 a (upd (upd (upd (upd (upd (upd (upd (upd (upd F 15 (nI fa339)) 16 pl340) 27 (nI nd341)) 31 (nI wr343)) 64 (nI at338)) 65 (nI ne)) 66 (nI lk342)) 15 (nI fa339)) 64 (nI at338)) (updA (updA (stR X345 13 nd (nI r344)) 2 K) 2 K)) := mW_D hD
            refine pc_V0 (G := G) (As := [.int 59]) (rest := []) hx hb hml hown hq hE hX pX0_al hP hD hS hA hl.1 (R_take l G h0 a (upd (upd (upd (upd (upd (upd (upd F 15 (nI fa339)) 16 pl340) 27 (nI nd341)) 31 (nI wr343)) 64 (nI at338)) 65 (nI ne)) 66 (nI lk342)) (updA (stR X345 13 nd (nI r344)) 2 K) at338 T fa339 K 59 (by omega) (by omega) hK (by omega) (by decide) (by decide)) (gV pw_1614 pw_1615 pw_1616 pw_1523 pw_1601) hV_X12_take 0 9 rfl rfl rfl rfl (Nat.le_of_ble_eq_true rfl) dX12_loop_174 ⟨Nat.le_of_ble_eq_true rfl, Nat.le_of_ble_eq_true rfl⟩ ⟨(by show 4 + 1 ≤ (26 * n + 43); omega), (by show 8 + (2 + 11) + 103 ≤ (2000 * n + 4300); omega)⟩ (fun v378 u376 H locs hw377 hP hD hS => ?_)
            obtain ⟨at379, fa380, pl381⟩ := u376
            obtain ⟨hw377, h382, h383, h384, h385, h386, h387, h388, h389⟩ := hw377
            have h382 : at338 ≤ at379 := h382
            have h383 : at379 ≤ T := h383
            have h384 : fa339 ≤ fa380 := h384
            have h385 : fa380 ≤ 100 := h385
            have h386 : If (0 < fa339) (at379 = at338 ∧ fa380 = fa339) := h386
            have h387 : at379 ≤ at338 + 1 := h387
            have h388 : at338 + 1 ≤ at379 + fa380 := h388
            have h389 : If (fa380 = 0) (K at338 = 59) := h389
            obtain rfl : v378 = none := hw377
            have hP : va_P G.1 pCl (mW G h0 a (upd (upd (upd (upd (upd (upd (upd F 15 (nI fa380)) 16 pl381) 27 (nI nd341)) 31 (nI wr343)) 64 (nI at379)) 65 (nI ne)) 66 (nI lk342)) (updA (stR X345 13 nd (nI r344)) 2 K)) _ := mW_to (F := F) (l1 := [(15, (nI fa339)), (16, pl340), (27, (nI nd341)), (31, (nI wr343)), (64, (nI at338)), (65, (nI ne)), (66, (nI lk342)), (15, (nI fa380)), (16, pl381), (64, (nI at379))]) (l2 := [(15, (nI fa380)), (16, pl381), (27, (nI nd341)), (31, (nI wr343)), (64, (nI at379)), (65, (nI ne)), (66, (nI lk342))]) (V := [(nI fa380), pl381, (nI nd341), (nI wr343), (nI at379), (nI ne), (nI lk342), (nI fa380), pl381, (nI at379), (nI fa380), pl381, (nI nd341), (nI wr343), (nI at379), (nI ne), (nI lk342)]) rfl rfl (show (updA (updA (stR X345 13 nd (nI r344)) 2 K) 2 K) = (updA (stR X345 13 nd (nI r344)) 2 K) from updsA_eq2 (F := X345) (l1 := [(13, (upd (X345 13) nd (nI r344))), (2, K), (2, K)]) (l2 := [(13, (upd (X345 13) nd (nI r344))), (2, K)]) (V := [(upd (X345 13) nd (nI r344)), K, K, (upd (X345 13) nd (nI r344)), K]) rfl rfl) hP
            have hD : va_D A (mW G h0 a (upd (upd (upd (upd (upd (upd (upd F 15 (nI fa380)) 16 pl381) 27 (nI nd341)) 31 (nI wr343)) 64 (nI at379)) 65 (nI ne)) 66 (nI lk342)) (updA (stR X345 13 nd (nI r344)) 2 K)) := mW_D hD
            refine W.widen (k := 0) (n := 0) (Nat.le_of_ble_eq_true rfl) (Nat.le_of_ble_eq_true rfl) ?_
            refine W.eq (g2 := F0 m 177 ls []) rfl ?_
            obtain ⟨n391, n390⟩ := h386 e361
            replace n391 := n391.symm
            subst n391
            replace n390 := n390.symm
            subst n390
            refine lv_aload_n hx hb dX12_loop_177 rfl (lv_at hl 1 rfl) ?_
            refine r_get (v := .int (nI fa339)) hx hb hown hq hE hP 15 350 tFX12_15 (by decide) pw_1594 rfl dX12_loop_178 ?_
            refine lv_if_ne (tgt := 219) hx hb dX12_loop_181 (by decide) (fun c392 => ?_) (fun c392 => (by have n393 : fa339 = 0 := (nI_eq (a := fa339) (b := 0) (by omega) (by omega)).mp c392; omega))
            refine lv_aload_n hx hb dX12_loop_219 rfl (lv_at hl 1 rfl) ?_
            refine lv_bipush (v := 41) hx hb dX12_loop_220 (by decide) ?_
            have hP : va_P G.1 pCl (mW G h0 a (upd (upd (upd (upd (upd (upd (upd (upd (upd F 15 (nI fa339)) 16 pl381) 27 (nI nd341)) 31 (nI wr343)) 64 (nI at338)) 65 (nI ne)) 66 (nI lk342)) 15 (nI fa339)) 64 (nI at338)) (updA (updA (stR X345 13 nd (nI r344)) 2 K) 2 K)) _ := hP
            have hD : va_D A (mW G h0 a (upd (upd (upd (upd (upd (upd (upd (upd (upd F 15 (nI fa339)) 16 pl381) 27 (nI nd341)) 31 (nI wr343)) 64 (nI at338)) 65 (nI ne)) 66 (nI lk342)) 15 (nI fa339)) 64 (nI at338)) (updA (updA (stR X345 13 nd (nI r344)) 2 K) 2 K)) := mW_D hD
            refine pc_V0 (G := G) (As := [.int 41]) (rest := []) hx hb hml hown hq hE hX pX0_al hP hD hS hA hl.1 (R_take l G h0 a (upd (upd (upd (upd (upd (upd (upd F 15 (nI fa339)) 16 pl381) 27 (nI nd341)) 31 (nI wr343)) 64 (nI at338)) 65 (nI ne)) 66 (nI lk342)) (updA (stR X345 13 nd (nI r344)) 2 K) at338 T fa339 K 41 (by omega) (by omega) hK (by omega) (by decide) (by decide)) (gV pw_1614 pw_1615 pw_1616 pw_1523 pw_1601) hV_X12_take 0 9 rfl rfl rfl rfl (Nat.le_of_ble_eq_true rfl) dX12_loop_222 ⟨Nat.le_of_ble_eq_true rfl, Nat.le_of_ble_eq_true rfl⟩ ⟨(by show 4 + 1 ≤ (26 * n + 43); omega), (by show 8 + (2 + 11) + 103 ≤ (2000 * n + 4300); omega)⟩ (fun v396 u394 H locs hw395 hP hD hS => ?_)
            obtain ⟨at397, fa398, pl399⟩ := u394
            obtain ⟨hw395, h400, h401, h402, h403, h404, h405, h406, h407⟩ := hw395
            have h400 : at338 ≤ at397 := h400
            have h401 : at397 ≤ T := h401
            have h402 : fa339 ≤ fa398 := h402
            have h403 : fa398 ≤ 100 := h403
            have h404 : If (0 < fa339) (at397 = at338 ∧ fa398 = fa339) := h404
            have h405 : at397 ≤ at338 + 1 := h405
            have h406 : at338 + 1 ≤ at397 + fa398 := h406
            have h407 : If (fa398 = 0) (K at338 = 41) := h407
            obtain rfl : v396 = none := hw395
            have hP : va_P G.1 pCl (mW G h0 a (upd (upd (upd (upd (upd (upd (upd F 15 (nI fa398)) 16 pl399) 27 (nI nd341)) 31 (nI wr343)) 64 (nI at397)) 65 (nI ne)) 66 (nI lk342)) (updA (stR X345 13 nd (nI r344)) 2 K)) _ := mW_to (F := F) (l1 := [(15, (nI fa339)), (16, pl381), (27, (nI nd341)), (31, (nI wr343)), (64, (nI at338)), (65, (nI ne)), (66, (nI lk342)), (15, (nI fa398)), (16, pl399), (64, (nI at397))]) (l2 := [(15, (nI fa398)), (16, pl399), (27, (nI nd341)), (31, (nI wr343)), (64, (nI at397)), (65, (nI ne)), (66, (nI lk342))]) (V := [(nI fa398), pl399, (nI nd341), (nI wr343), (nI at397), (nI ne), (nI lk342), (nI fa398), pl399, (nI at397), (nI fa398), pl399, (nI nd341), (nI wr343), (nI at397), (nI ne), (nI lk342)]) rfl rfl (show (updA (updA (stR X345 13 nd (nI r344)) 2 K) 2 K) = (updA (stR X345 13 nd (nI r344)) 2 K) from updsA_eq2 (F := X345) (l1 := [(13, (upd (X345 13) nd (nI r344))), (2, K), (2, K)]) (l2 := [(13, (upd (X345 13) nd (nI r344))), (2, K)]) (V := [(upd (X345 13) nd (nI r344)), K, K, (upd (X345 13) nd (nI r344)), K]) rfl rfl) hP
            have hD : va_D A (mW G h0 a (upd (upd (upd (upd (upd (upd (upd F 15 (nI fa398)) 16 pl399) 27 (nI nd341)) 31 (nI wr343)) 64 (nI at397)) 65 (nI ne)) 66 (nI lk342)) (updA (stR X345 13 nd (nI r344)) 2 K)) := mW_D hD
            refine W.widen (k := 0) (n := 0) (Nat.le_of_ble_eq_true rfl) (Nat.le_of_ble_eq_true rfl) ?_
            refine W.eq (g2 := F0 m 225 ls []) rfl ?_
            obtain ⟨n409, n408⟩ := h404 e361
            replace n409 := n409.symm
            subst n409
            replace n408 := n408.symm
            subst n408
            refine lv_aload_n hx hb dX12_loop_225 rfl (lv_at hl 1 rfl) ?_
            refine r_get (v := .ref (a 15)) hx hb hown hq hE hP 23 56 tFX12_23 (by decide) pw_1445 rfl dX12_loop_226 ?_
            refine lv_iload_n hx hb dX12_loop_229 rfl (lv_at hl 0 rfl) ?_
            refine lv_aload_n hx hb dX12_loop_230 rfl (lv_at hl 1 rfl) ?_
            have hP : va_P G.1 pCl (mW G h0 a (upd (upd (upd (upd (upd (upd (upd (upd (upd F 15 (nI fa339)) 16 pl399) 27 (nI nd341)) 31 (nI wr343)) 64 (nI at338)) 65 (nI ne)) 66 (nI lk342)) 15 (nI fa339)) 64 (nI at338)) (updA (updA (stR X345 13 nd (nI r344)) 2 K) 2 K)) _ := hP
            have hD : va_D A (mW G h0 a (upd (upd (upd (upd (upd (upd (upd (upd (upd F 15 (nI fa339)) 16 pl399) 27 (nI nd341)) 31 (nI wr343)) 64 (nI at338)) 65 (nI ne)) 66 (nI lk342)) 15 (nI fa339)) 64 (nI at338)) (updA (updA (stR X345 13 nd (nI r344)) 2 K) 2 K)) := mW_D hD
            refine pc_V0 (G := G) (As := []) (rest := [.int (nI nd), .ref (a 15)]) hx hb hml hown hq hE hX pX0_al hP hD hS hA hl.1 (RF_statement l G h0 a (upd (upd (upd (upd (upd (upd (upd F 15 (nI fa339)) 16 pl399) 27 (nI nd341)) 31 (nI wr343)) 64 (nI at338)) 65 (nI ne)) 66 (nI lk342)) (updA (stR X345 13 nd (nI r344)) 2 K) at338 T fa339 K (by omega) (by omega) hK (by omega) e361) (gV pw_1699 pw_1700 pw_1701 pw_1523 pw_1706) hV_X12_statement 0 9 rfl rfl rfl rfl (Nat.le_of_ble_eq_true rfl) dX12_loop_231 ⟨Nat.le_of_ble_eq_true rfl, Nat.le_of_ble_eq_true rfl⟩ ⟨(by show 2 + 1 ≤ (26 * n + 43); omega), (by show 8 + (3 + 11) + 60 ≤ (2000 * n + 4300); omega)⟩ (fun v412 u410 H locs hw411 hP hD hS => ?_)
            obtain rfl : v412 = some (.int 0) := hw411
            have hP : va_P G.1 pCl (mW G h0 a (upd (upd (upd (upd (upd (upd (upd F 15 (nI fa339)) 16 pl399) 27 (nI nd341)) 31 (nI wr343)) 64 (nI at338)) 65 (nI ne)) 66 (nI lk342)) (updA (stR X345 13 nd (nI r344)) 2 K)) _ := mW_to (F := F) (l1 := [(15, (nI fa339)), (16, pl399), (27, (nI nd341)), (31, (nI wr343)), (64, (nI at338)), (65, (nI ne)), (66, (nI lk342)), (15, (nI fa339)), (64, (nI at338))]) (l2 := [(15, (nI fa339)), (16, pl399), (27, (nI nd341)), (31, (nI wr343)), (64, (nI at338)), (65, (nI ne)), (66, (nI lk342))]) (V := [(nI fa339), pl399, (nI nd341), (nI wr343), (nI at338), (nI ne), (nI lk342), (nI fa339), (nI at338), (nI fa339), pl399, (nI nd341), (nI wr343), (nI at338), (nI ne), (nI lk342)]) rfl rfl (show (updA (updA (stR X345 13 nd (nI r344)) 2 K) 2 K) = (updA (stR X345 13 nd (nI r344)) 2 K) from updsA_eq2 (F := X345) (l1 := [(13, (upd (X345 13) nd (nI r344))), (2, K), (2, K)]) (l2 := [(13, (upd (X345 13) nd (nI r344))), (2, K)]) (V := [(upd (X345 13) nd (nI r344)), K, K, (upd (X345 13) nd (nI r344)), K]) rfl rfl) hP
            have hD : va_D A (mW G h0 a (upd (upd (upd (upd (upd (upd (upd F 15 (nI fa339)) 16 pl399) 27 (nI nd341)) 31 (nI wr343)) 64 (nI at338)) 65 (nI ne)) 66 (nI lk342)) (updA (stR X345 13 nd (nI r344)) 2 K)) := mW_D hD
            refine W.widen (k := 0) (n := 0) (Nat.le_of_ble_eq_true rfl) (Nat.le_of_ble_eq_true rfl) ?_
            refine W.eq (g2 := F0 m 234 ls [.int 0, .int (nI nd), .ref (a 15)]) rfl ?_
            refine r_sti (f := ((stR X345 13 nd (nI r344)) 15)) (j := nd) hx hb hE hP hD hS 15 (ma_15 G a _) rfl (mas_15 G a _) (by omega) (by decide) dX12_loop_234 (fun H locs hP hD hS => ?_)
            have hP : va_P G.1 pCl (mW G h0 a (upd (upd (upd (upd (upd (upd (upd F 15 (nI fa339)) 16 pl399) 27 (nI nd341)) 31 (nI wr343)) 64 (nI at338)) 65 (nI ne)) 66 (nI lk342)) (updA (stR (stR X345 13 nd (nI r344)) 15 nd 0) 2 K)) _ := mW_to (F := F) (l1 := [(15, (nI fa339)), (16, pl399), (27, (nI nd341)), (31, (nI wr343)), (64, (nI at338)), (65, (nI ne)), (66, (nI lk342))]) (l2 := [(15, (nI fa339)), (16, pl399), (27, (nI nd341)), (31, (nI wr343)), (64, (nI at338)), (65, (nI ne)), (66, (nI lk342))]) (V := [(nI fa339), pl399, (nI nd341), (nI wr343), (nI at338), (nI ne), (nI lk342), (nI fa339), pl399, (nI nd341), (nI wr343), (nI at338), (nI ne), (nI lk342)]) rfl rfl (show (updA (updA (stR X345 13 nd (nI r344)) 2 K) 15 (upd ((stR X345 13 nd (nI r344)) 15) nd 0)) = (updA (stR (stR X345 13 nd (nI r344)) 15 nd 0) 2 K) from updsA_eq2 (F := X345) (l1 := [(13, (upd (X345 13) nd (nI r344))), (2, K), (15, (upd ((stR X345 13 nd (nI r344)) 15) nd 0))]) (l2 := [(13, (upd (X345 13) nd (nI r344))), (15, (upd ((stR X345 13 nd (nI r344)) 15) nd 0)), (2, K)]) (V := [(upd (X345 13) nd (nI r344)), K, (upd ((stR X345 13 nd (nI r344)) 15) nd 0), (upd (X345 13) nd (nI r344)), (upd ((stR X345 13 nd (nI r344)) 15) nd 0), K]) rfl rfl) hP
            have hD : va_D A (mW G h0 a (upd (upd (upd (upd (upd (upd (upd F 15 (nI fa339)) 16 pl399) 27 (nI nd341)) 31 (nI wr343)) 64 (nI at338)) 65 (nI ne)) 66 (nI lk342)) (updA (stR (stR X345 13 nd (nI r344)) 15 nd 0) 2 K)) := mW_D hD
            have hkp413 : Kp B (stR (stR X345 13 nd (nI r344)) 15 nd 0) wr343 T := (Kp.row hkp375 (by omega))
            refine lv_iload_n hx hb dX12_loop_235 rfl (lv_at hl 0 rfl) ?_
            have hz414 : at0 ≤ at338 := (by omega)
            have hz415 : at338 ≤ T := (by omega)
            have hz416 : fa339 ≤ 100 := (by omega)
            have hz417 : nd ≤ nd341 := (by omega)
            have hz418 : nd341 + 2 * at0 ≤ nd + 2 * at338 + 100000 * fa339 := (by omega)
            have hz419 : nd341 + 2 * at0 ≤ nd + 2 * at338 + (60 * (21 - ne) + 40) := (by omega)
            have hz420 : wr ≤ wr343 := (by omega)
            have hz421 : wr343 + at0 ≤ wr + at338 := (by omega)
            have hz422 : lk ≤ lk342 := (by omega)
            have hz423 : lk342 ≤ 60 + 100 * fa339 := (by omega)
            have hz424 : at0 + 1 ≤ at338 + fa339 := (by omega)
            have hz425 : nd ≤ nd341 := (by omega)
            have hz426 : Kp B (stR (stR X345 13 nd (nI r344)) 15 nd 0) wr343 T := hkp413
            have hz427 : If (fa339 = 0) (Low B (stR (stR X345 13 nd (nI r344)) 15 nd 0) nd wr ∧ Frs K T wr343 (stR (stR X345 13 nd (nI r344)) 15 nd 0) nd nd341 20000 [(nd, (280 + 4 * (21 - ne)))] ∧ kcl 3 ((stR (stR X345 13 nd (nI r344)) 15 nd 0) 9 nd) = true) := (fun e => absurd e (by omega))
            have hP : va_P G.1 pCl (mW G h0 a (upd (upd (upd (upd (upd (upd (upd F 15 (nI fa339)) 16 pl399) 27 (nI nd341)) 31 (nI wr343)) 64 (nI at338)) 65 (nI ne)) 66 (nI lk342)) (updA (stR (stR X345 13 nd (nI r344)) 15 nd 0) 2 K)) _ := hP
            have hD : va_D A (mW G h0 a (upd (upd (upd (upd (upd (upd (upd F 15 (nI fa339)) 16 pl399) 27 (nI nd341)) 31 (nI wr343)) 64 (nI at338)) 65 (nI ne)) 66 (nI lk342)) (updA (stR (stR X345 13 nd (nI r344)) 15 nd 0) 2 K)) := mW_D hD
            exact W.iret (v := (nI nd)) hx hb hr (fun t9 ht9 hW9 => ⟨⟨_, (at338, fa339, pl399, nd341, lk342, wr343, nd, (stR (stR X345 13 nd (nI r344)) 15 nd 0)), rfl, ⟨rfl, hz414, hz415, hz416, hz417, hz418, hz419, hz420, hz421, hz422, hz423, hz424, hz425, hz426, hz427⟩, by rw [ht9]; exact hP, hD⟩, hS.F ht9⟩) hS.2.2 dX12_loop_236
      · have e43 := e43
        refine lv_aload_n hx hb dX12_loop_145 rfl (lv_at hl 1 rfl) ?_
        refine r_get (v := .int (nI fa33)) hx hb hown hq hE hP 15 350 tFX12_15 (by decide) pw_1594 rfl dX12_loop_146 ?_
        refine lv_if_ne (tgt := 171) hx hb dX12_loop_149 (by decide) (fun c428 => ?_) (fun c428 => (by have n429 : fa33 = 0 := (nI_eq (a := fa33) (b := 0) (by omega) (by omega)).mp c428; omega))
        refine lv_aload_n hx hb dX12_loop_171 rfl (lv_at hl 1 rfl) ?_
        refine lv_bipush (v := 59) hx hb dX12_loop_172 (by decide) ?_
        have hP : va_P G.1 pCl (mW G h0 a (upd (upd (upd (upd (upd (upd (upd (upd (upd F 15 (nI fa33)) 16 pl34) 27 (nI nd2)) 31 (nI wr2)) 64 (nI at32)) 65 (nI ne)) 66 (nI lk2)) 15 (nI fa33)) 64 (nI at32)) (updA (updA X2 2 K) 2 K)) _ := mW_to (F := F) (l1 := [(15, (nI fa33)), (16, pl34), (27, (nI nd2)), (31, (nI wr2)), (64, (nI at32)), (65, (nI ne)), (66, (nI lk2))]) (l2 := [(15, (nI fa33)), (16, pl34), (27, (nI nd2)), (31, (nI wr2)), (64, (nI at32)), (65, (nI ne)), (66, (nI lk2)), (15, (nI fa33)), (64, (nI at32))]) (V := [(nI fa33), pl34, (nI nd2), (nI wr2), (nI at32), (nI ne), (nI lk2), (nI fa33), pl34, (nI nd2), (nI wr2), (nI at32), (nI ne), (nI lk2), (nI fa33), (nI at32)]) rfl rfl (show (updA X2 2 K) = (updA (updA X2 2 K) 2 K) from updsA_eq2 (F := X2) (l1 := [(2, K)]) (l2 := [(2, K), (2, K)]) (V := [K, K, K]) rfl rfl) hP
        have hD : va_D A (mW G h0 a (upd (upd (upd (upd (upd (upd (upd (upd (upd F 15 (nI fa33)) 16 pl34) 27 (nI nd2)) 31 (nI wr2)) 64 (nI at32)) 65 (nI ne)) 66 (nI lk2)) 15 (nI fa33)) 64 (nI at32)) (updA (updA X2 2 K) 2 K)) := mW_D hD
        refine pc_V0 (G := G) (As := [.int 59]) (rest := []) hx hb hml hown hq hE hX pX0_al hP hD hS hA hl.1 (R_take l G h0 a (upd (upd (upd (upd (upd (upd (upd F 15 (nI fa33)) 16 pl34) 27 (nI nd2)) 31 (nI wr2)) 64 (nI at32)) 65 (nI ne)) 66 (nI lk2)) (updA X2 2 K) at32 T fa33 K 59 (by omega) (by omega) hK (by omega) (by decide) (by decide)) (gV pw_1614 pw_1615 pw_1616 pw_1523 pw_1601) hV_X12_take 0 9 rfl rfl rfl rfl (Nat.le_of_ble_eq_true rfl) dX12_loop_174 ⟨Nat.le_of_ble_eq_true rfl, Nat.le_of_ble_eq_true rfl⟩ ⟨(by show 4 + 1 ≤ (26 * n + 43); omega), (by show 8 + (2 + 11) + 103 ≤ (2000 * n + 4300); omega)⟩ (fun v432 u430 H locs hw431 hP hD hS => ?_)
        obtain ⟨at433, fa434, pl435⟩ := u430
        obtain ⟨hw431, h436, h437, h438, h439, h440, h441, h442, h443⟩ := hw431
        have h436 : at32 ≤ at433 := h436
        have h437 : at433 ≤ T := h437
        have h438 : fa33 ≤ fa434 := h438
        have h439 : fa434 ≤ 100 := h439
        have h440 : If (0 < fa33) (at433 = at32 ∧ fa434 = fa33) := h440
        have h441 : at433 ≤ at32 + 1 := h441
        have h442 : at32 + 1 ≤ at433 + fa434 := h442
        have h443 : If (fa434 = 0) (K at32 = 59) := h443
        obtain rfl : v432 = none := hw431
        have hP : va_P G.1 pCl (mW G h0 a (upd (upd (upd (upd (upd (upd (upd F 15 (nI fa434)) 16 pl435) 27 (nI nd2)) 31 (nI wr2)) 64 (nI at433)) 65 (nI ne)) 66 (nI lk2)) (updA X2 2 K)) _ := mW_to (F := F) (l1 := [(15, (nI fa33)), (16, pl34), (27, (nI nd2)), (31, (nI wr2)), (64, (nI at32)), (65, (nI ne)), (66, (nI lk2)), (15, (nI fa434)), (16, pl435), (64, (nI at433))]) (l2 := [(15, (nI fa434)), (16, pl435), (27, (nI nd2)), (31, (nI wr2)), (64, (nI at433)), (65, (nI ne)), (66, (nI lk2))]) (V := [(nI fa434), pl435, (nI nd2), (nI wr2), (nI at433), (nI ne), (nI lk2), (nI fa434), pl435, (nI at433), (nI fa434), pl435, (nI nd2), (nI wr2), (nI at433), (nI ne), (nI lk2)]) rfl rfl (show (updA (updA X2 2 K) 2 K) = (updA X2 2 K) from updsA_eq2 (F := X2) (l1 := [(2, K), (2, K)]) (l2 := [(2, K)]) (V := [K, K, K]) rfl rfl) hP
        have hD : va_D A (mW G h0 a (upd (upd (upd (upd (upd (upd (upd F 15 (nI fa434)) 16 pl435) 27 (nI nd2)) 31 (nI wr2)) 64 (nI at433)) 65 (nI ne)) 66 (nI lk2)) (updA X2 2 K)) := mW_D hD
        refine W.widen (k := 0) (n := 0) (Nat.le_of_ble_eq_true rfl) (Nat.le_of_ble_eq_true rfl) ?_
        refine W.eq (g2 := F0 m 177 ls []) rfl ?_
        obtain ⟨n445, n444⟩ := h440 e43
        replace n445 := n445.symm
        subst n445
        replace n444 := n444.symm
        subst n444
        refine lv_aload_n hx hb dX12_loop_177 rfl (lv_at hl 1 rfl) ?_
        refine r_get (v := .int (nI fa33)) hx hb hown hq hE hP 15 350 tFX12_15 (by decide) pw_1594 rfl dX12_loop_178 ?_
        refine lv_if_ne (tgt := 219) hx hb dX12_loop_181 (by decide) (fun c446 => ?_) (fun c446 => (by have n447 : fa33 = 0 := (nI_eq (a := fa33) (b := 0) (by omega) (by omega)).mp c446; omega))
        refine lv_aload_n hx hb dX12_loop_219 rfl (lv_at hl 1 rfl) ?_
        refine lv_bipush (v := 41) hx hb dX12_loop_220 (by decide) ?_
        have hP : va_P G.1 pCl (mW G h0 a (upd (upd (upd (upd (upd (upd (upd (upd (upd F 15 (nI fa33)) 16 pl435) 27 (nI nd2)) 31 (nI wr2)) 64 (nI at32)) 65 (nI ne)) 66 (nI lk2)) 15 (nI fa33)) 64 (nI at32)) (updA (updA X2 2 K) 2 K)) _ := hP
        have hD : va_D A (mW G h0 a (upd (upd (upd (upd (upd (upd (upd (upd (upd F 15 (nI fa33)) 16 pl435) 27 (nI nd2)) 31 (nI wr2)) 64 (nI at32)) 65 (nI ne)) 66 (nI lk2)) 15 (nI fa33)) 64 (nI at32)) (updA (updA X2 2 K) 2 K)) := mW_D hD
        refine pc_V0 (G := G) (As := [.int 41]) (rest := []) hx hb hml hown hq hE hX pX0_al hP hD hS hA hl.1 (R_take l G h0 a (upd (upd (upd (upd (upd (upd (upd F 15 (nI fa33)) 16 pl435) 27 (nI nd2)) 31 (nI wr2)) 64 (nI at32)) 65 (nI ne)) 66 (nI lk2)) (updA X2 2 K) at32 T fa33 K 41 (by omega) (by omega) hK (by omega) (by decide) (by decide)) (gV pw_1614 pw_1615 pw_1616 pw_1523 pw_1601) hV_X12_take 0 9 rfl rfl rfl rfl (Nat.le_of_ble_eq_true rfl) dX12_loop_222 ⟨Nat.le_of_ble_eq_true rfl, Nat.le_of_ble_eq_true rfl⟩ ⟨(by show 4 + 1 ≤ (26 * n + 43); omega), (by show 8 + (2 + 11) + 103 ≤ (2000 * n + 4300); omega)⟩ (fun v450 u448 H locs hw449 hP hD hS => ?_)
        obtain ⟨at451, fa452, pl453⟩ := u448
        obtain ⟨hw449, h454, h455, h456, h457, h458, h459, h460, h461⟩ := hw449
        have h454 : at32 ≤ at451 := h454
        have h455 : at451 ≤ T := h455
        have h456 : fa33 ≤ fa452 := h456
        have h457 : fa452 ≤ 100 := h457
        have h458 : If (0 < fa33) (at451 = at32 ∧ fa452 = fa33) := h458
        have h459 : at451 ≤ at32 + 1 := h459
        have h460 : at32 + 1 ≤ at451 + fa452 := h460
        have h461 : If (fa452 = 0) (K at32 = 41) := h461
        obtain rfl : v450 = none := hw449
        have hP : va_P G.1 pCl (mW G h0 a (upd (upd (upd (upd (upd (upd (upd F 15 (nI fa452)) 16 pl453) 27 (nI nd2)) 31 (nI wr2)) 64 (nI at451)) 65 (nI ne)) 66 (nI lk2)) (updA X2 2 K)) _ := mW_to (F := F) (l1 := [(15, (nI fa33)), (16, pl435), (27, (nI nd2)), (31, (nI wr2)), (64, (nI at32)), (65, (nI ne)), (66, (nI lk2)), (15, (nI fa452)), (16, pl453), (64, (nI at451))]) (l2 := [(15, (nI fa452)), (16, pl453), (27, (nI nd2)), (31, (nI wr2)), (64, (nI at451)), (65, (nI ne)), (66, (nI lk2))]) (V := [(nI fa452), pl453, (nI nd2), (nI wr2), (nI at451), (nI ne), (nI lk2), (nI fa452), pl453, (nI at451), (nI fa452), pl453, (nI nd2), (nI wr2), (nI at451), (nI ne), (nI lk2)]) rfl rfl (show (updA (updA X2 2 K) 2 K) = (updA X2 2 K) from updsA_eq2 (F := X2) (l1 := [(2, K), (2, K)]) (l2 := [(2, K)]) (V := [K, K, K]) rfl rfl) hP
        have hD : va_D A (mW G h0 a (upd (upd (upd (upd (upd (upd (upd F 15 (nI fa452)) 16 pl453) 27 (nI nd2)) 31 (nI wr2)) 64 (nI at451)) 65 (nI ne)) 66 (nI lk2)) (updA X2 2 K)) := mW_D hD
        refine W.widen (k := 0) (n := 0) (Nat.le_of_ble_eq_true rfl) (Nat.le_of_ble_eq_true rfl) ?_
        refine W.eq (g2 := F0 m 225 ls []) rfl ?_
        obtain ⟨n463, n462⟩ := h458 e43
        replace n463 := n463.symm
        subst n463
        replace n462 := n462.symm
        subst n462
        refine lv_aload_n hx hb dX12_loop_225 rfl (lv_at hl 1 rfl) ?_
        refine r_get (v := .ref (a 15)) hx hb hown hq hE hP 23 56 tFX12_23 (by decide) pw_1445 rfl dX12_loop_226 ?_
        refine lv_iload_n hx hb dX12_loop_229 rfl (lv_at hl 0 rfl) ?_
        refine lv_aload_n hx hb dX12_loop_230 rfl (lv_at hl 1 rfl) ?_
        have hP : va_P G.1 pCl (mW G h0 a (upd (upd (upd (upd (upd (upd (upd (upd (upd F 15 (nI fa33)) 16 pl453) 27 (nI nd2)) 31 (nI wr2)) 64 (nI at32)) 65 (nI ne)) 66 (nI lk2)) 15 (nI fa33)) 64 (nI at32)) (updA (updA X2 2 K) 2 K)) _ := hP
        have hD : va_D A (mW G h0 a (upd (upd (upd (upd (upd (upd (upd (upd (upd F 15 (nI fa33)) 16 pl453) 27 (nI nd2)) 31 (nI wr2)) 64 (nI at32)) 65 (nI ne)) 66 (nI lk2)) 15 (nI fa33)) 64 (nI at32)) (updA (updA X2 2 K) 2 K)) := mW_D hD
        refine pc_V0 (G := G) (As := []) (rest := [.int (nI nd), .ref (a 15)]) hx hb hml hown hq hE hX pX0_al hP hD hS hA hl.1 (RF_statement l G h0 a (upd (upd (upd (upd (upd (upd (upd F 15 (nI fa33)) 16 pl453) 27 (nI nd2)) 31 (nI wr2)) 64 (nI at32)) 65 (nI ne)) 66 (nI lk2)) (updA X2 2 K) at32 T fa33 K (by omega) (by omega) hK (by omega) e43) (gV pw_1699 pw_1700 pw_1701 pw_1523 pw_1706) hV_X12_statement 0 9 rfl rfl rfl rfl (Nat.le_of_ble_eq_true rfl) dX12_loop_231 ⟨Nat.le_of_ble_eq_true rfl, Nat.le_of_ble_eq_true rfl⟩ ⟨(by show 2 + 1 ≤ (26 * n + 43); omega), (by show 8 + (3 + 11) + 60 ≤ (2000 * n + 4300); omega)⟩ (fun v466 u464 H locs hw465 hP hD hS => ?_)
        obtain rfl : v466 = some (.int 0) := hw465
        have hP : va_P G.1 pCl (mW G h0 a (upd (upd (upd (upd (upd (upd (upd F 15 (nI fa33)) 16 pl453) 27 (nI nd2)) 31 (nI wr2)) 64 (nI at32)) 65 (nI ne)) 66 (nI lk2)) (updA X2 2 K)) _ := mW_to (F := F) (l1 := [(15, (nI fa33)), (16, pl453), (27, (nI nd2)), (31, (nI wr2)), (64, (nI at32)), (65, (nI ne)), (66, (nI lk2)), (15, (nI fa33)), (64, (nI at32))]) (l2 := [(15, (nI fa33)), (16, pl453), (27, (nI nd2)), (31, (nI wr2)), (64, (nI at32)), (65, (nI ne)), (66, (nI lk2))]) (V := [(nI fa33), pl453, (nI nd2), (nI wr2), (nI at32), (nI ne), (nI lk2), (nI fa33), (nI at32), (nI fa33), pl453, (nI nd2), (nI wr2), (nI at32), (nI ne), (nI lk2)]) rfl rfl (show (updA (updA X2 2 K) 2 K) = (updA X2 2 K) from updsA_eq2 (F := X2) (l1 := [(2, K), (2, K)]) (l2 := [(2, K)]) (V := [K, K, K]) rfl rfl) hP
        have hD : va_D A (mW G h0 a (upd (upd (upd (upd (upd (upd (upd F 15 (nI fa33)) 16 pl453) 27 (nI nd2)) 31 (nI wr2)) 64 (nI at32)) 65 (nI ne)) 66 (nI lk2)) (updA X2 2 K)) := mW_D hD
        refine W.widen (k := 0) (n := 0) (Nat.le_of_ble_eq_true rfl) (Nat.le_of_ble_eq_true rfl) ?_
        refine W.eq (g2 := F0 m 234 ls [.int 0, .int (nI nd), .ref (a 15)]) rfl ?_
        refine r_sti (f := (X2 15)) (j := nd) hx hb hE hP hD hS 15 (ma_15 G a _) rfl (mas_15 G a _) (by omega) (by decide) dX12_loop_234 (fun H locs hP hD hS => ?_)
        have hP : va_P G.1 pCl (mW G h0 a (upd (upd (upd (upd (upd (upd (upd F 15 (nI fa33)) 16 pl453) 27 (nI nd2)) 31 (nI wr2)) 64 (nI at32)) 65 (nI ne)) 66 (nI lk2)) (updA (stR X2 15 nd 0) 2 K)) _ := mW_to (F := F) (l1 := [(15, (nI fa33)), (16, pl453), (27, (nI nd2)), (31, (nI wr2)), (64, (nI at32)), (65, (nI ne)), (66, (nI lk2))]) (l2 := [(15, (nI fa33)), (16, pl453), (27, (nI nd2)), (31, (nI wr2)), (64, (nI at32)), (65, (nI ne)), (66, (nI lk2))]) (V := [(nI fa33), pl453, (nI nd2), (nI wr2), (nI at32), (nI ne), (nI lk2), (nI fa33), pl453, (nI nd2), (nI wr2), (nI at32), (nI ne), (nI lk2)]) rfl rfl (show (updA (updA X2 2 K) 15 (upd (X2 15) nd 0)) = (updA (stR X2 15 nd 0) 2 K) from updsA_eq2 (F := X2) (l1 := [(2, K), (15, (upd (X2 15) nd 0))]) (l2 := [(15, (upd (X2 15) nd 0)), (2, K)]) (V := [K, (upd (X2 15) nd 0), (upd (X2 15) nd 0), K]) rfl rfl) hP
        have hD : va_D A (mW G h0 a (upd (upd (upd (upd (upd (upd (upd F 15 (nI fa33)) 16 pl453) 27 (nI nd2)) 31 (nI wr2)) 64 (nI at32)) 65 (nI ne)) 66 (nI lk2)) (updA (stR X2 15 nd 0) 2 K)) := mW_D hD
        have hkp467 : Kp B (stR X2 15 nd 0) wr2 T := (Kp.row hkp2 (by omega))
        refine lv_iload_n hx hb dX12_loop_235 rfl (lv_at hl 0 rfl) ?_
        have hz468 : at0 ≤ at32 := (by omega)
        have hz469 : at32 ≤ T := (by omega)
        have hz470 : fa33 ≤ 100 := (by omega)
        have hz471 : nd ≤ nd2 := (by omega)
        have hz472 : nd2 + 2 * at0 ≤ nd + 2 * at32 + 100000 * fa33 := (by omega)
        have hz473 : nd2 + 2 * at0 ≤ nd + 2 * at32 + (60 * (21 - ne) + 40) := (by omega)
        have hz474 : wr ≤ wr2 := (by omega)
        have hz475 : wr2 + at0 ≤ wr + at32 := (by omega)
        have hz476 : lk ≤ lk2 := (by omega)
        have hz477 : lk2 ≤ 60 + 100 * fa33 := (by omega)
        have hz478 : at0 + 1 ≤ at32 + fa33 := (by omega)
        have hz479 : nd ≤ nd2 := (by omega)
        have hz480 : Kp B (stR X2 15 nd 0) wr2 T := hkp467
        have hz481 : If (fa33 = 0) (Low B (stR X2 15 nd 0) nd wr ∧ Frs K T wr2 (stR X2 15 nd 0) nd nd2 20000 [(nd, (280 + 4 * (21 - ne)))] ∧ kcl 3 ((stR X2 15 nd 0) 9 nd) = true) := (fun e => absurd e (by omega))
        have hP : va_P G.1 pCl (mW G h0 a (upd (upd (upd (upd (upd (upd (upd F 15 (nI fa33)) 16 pl453) 27 (nI nd2)) 31 (nI wr2)) 64 (nI at32)) 65 (nI ne)) 66 (nI lk2)) (updA (stR X2 15 nd 0) 2 K)) _ := hP
        have hD : va_D A (mW G h0 a (upd (upd (upd (upd (upd (upd (upd F 15 (nI fa33)) 16 pl453) 27 (nI nd2)) 31 (nI wr2)) 64 (nI at32)) 65 (nI ne)) 66 (nI lk2)) (updA (stR X2 15 nd 0) 2 K)) := mW_D hD
        exact W.iret (v := (nI nd)) hx hb hr (fun t9 ht9 hW9 => ⟨⟨_, (at32, fa33, pl453, nd2, lk2, wr2, nd, (stR X2 15 nd 0)), rfl, ⟨rfl, hz468, hz469, hz470, hz471, hz472, hz473, hz474, hz475, hz476, hz477, hz478, hz479, hz480, hz481⟩, by rw [ht9]; exact hP, hD⟩, hS.F ht9⟩) hS.2.2 dX12_loop_236
    refine lv_aload_n hx hb dX12_loop_33 rfl (lv_at hl 1 rfl) ?_
    refine r_get (v := .int 0) hx hb hown hq hE hP 15 350 tFX12_15 (by decide) pw_1594 rfl dX12_loop_34 ?_
    refine lv_if_ne (tgt := 139) hx hb dX12_loop_37 (by decide) (fun c482 => absurd c482 (by decide)) (fun c482 => ?_)
    refine lv_aload_n hx hb dX12_loop_40 rfl (lv_at hl 1 rfl) ?_
    have hP : va_P G.1 pCl (mW G h0 a (upd (upd (upd (upd (upd (upd (upd (upd (upd F 15 0) 16 pl19) 27 (nI (nd + 1))) 31 (nI wr)) 64 (nI at17)) 65 (nI ne)) 66 (nI lk)) 15 (nI 0)) 64 (nI at17)) (updA (updA X6 2 K) 2 K)) _ := mW_to (F := F) (l1 := [(15, 0), (16, pl19), (27, (nI (nd + 1))), (31, (nI wr)), (64, (nI at17)), (65, (nI ne)), (66, (nI lk))]) (l2 := [(15, 0), (16, pl19), (27, (nI (nd + 1))), (31, (nI wr)), (64, (nI at17)), (65, (nI ne)), (66, (nI lk)), (15, (nI 0)), (64, (nI at17))]) (V := [(nI 0), pl19, (nI (nd + 1)), (nI wr), (nI at17), (nI ne), (nI lk), (nI 0), pl19, (nI (nd + 1)), (nI wr), (nI at17), (nI ne), (nI lk), (nI 0), (nI at17)]) rfl rfl (show (updA X6 2 K) = (updA (updA X6 2 K) 2 K) from updsA_eq2 (F := X6) (l1 := [(2, K)]) (l2 := [(2, K), (2, K)]) (V := [K, K, K]) rfl rfl) hP
    have hD : va_D A (mW G h0 a (upd (upd (upd (upd (upd (upd (upd (upd (upd F 15 0) 16 pl19) 27 (nI (nd + 1))) 31 (nI wr)) 64 (nI at17)) 65 (nI ne)) 66 (nI lk)) 15 (nI 0)) 64 (nI at17)) (updA (updA X6 2 K) 2 K)) := mW_D hD
    refine pc_V0 (G := G) (As := []) (rest := []) hx hb hml hown hq hE hX pX0_al hP hD hS hA hl.1 (R_kind l G h0 a (upd (upd (upd (upd (upd (upd (upd F 15 0) 16 pl19) 27 (nI (nd + 1))) 31 (nI wr)) 64 (nI at17)) 65 (nI ne)) 66 (nI lk)) (updA X6 2 K) at17 T 0 K (by omega) (by omega) hK (by omega)) (gV pw_1626 pw_1627 pw_1628 pw_1523 pw_1591) hV_X12_kind 0 9 rfl rfl rfl rfl (Nat.le_of_ble_eq_true rfl) dX12_loop_41 ⟨Nat.le_of_ble_eq_true rfl, Nat.le_of_ble_eq_true rfl⟩ ⟨(by show 2 + 1 ≤ (26 * n + 43); omega), (by show 8 + (1 + 11) + 60 ≤ (2000 * n + 4300); omega)⟩ (fun v485 u483 H locs hw484 hP hD hS => ?_)
    obtain rfl : v485 = some (.int (K at17)) := hw484
    have hP : va_P G.1 pCl (mW G h0 a (upd (upd (upd (upd (upd (upd (upd F 15 0) 16 pl19) 27 (nI (nd + 1))) 31 (nI wr)) 64 (nI at17)) 65 (nI ne)) 66 (nI lk)) (updA X6 2 K)) _ := mW_to (F := F) (l1 := [(15, 0), (16, pl19), (27, (nI (nd + 1))), (31, (nI wr)), (64, (nI at17)), (65, (nI ne)), (66, (nI lk)), (15, (nI 0)), (64, (nI at17))]) (l2 := [(15, 0), (16, pl19), (27, (nI (nd + 1))), (31, (nI wr)), (64, (nI at17)), (65, (nI ne)), (66, (nI lk))]) (V := [0, pl19, (nI (nd + 1)), (nI wr), (nI at17), (nI ne), (nI lk), 0, (nI at17), 0, pl19, (nI (nd + 1)), (nI wr), (nI at17), (nI ne), (nI lk)]) rfl rfl (show (updA (updA X6 2 K) 2 K) = (updA X6 2 K) from updsA_eq2 (F := X6) (l1 := [(2, K), (2, K)]) (l2 := [(2, K)]) (V := [K, K, K]) rfl rfl) hP
    have hD : va_D A (mW G h0 a (upd (upd (upd (upd (upd (upd (upd F 15 0) 16 pl19) 27 (nI (nd + 1))) 31 (nI wr)) 64 (nI at17)) 65 (nI ne)) 66 (nI lk)) (updA X6 2 K)) := mW_D hD
    refine W.widen (k := 0) (n := 0) (Nat.le_of_ble_eq_true rfl) (Nat.le_of_ble_eq_true rfl) ?_
    refine W.eq (g2 := F0 m 44 ls [.int (K at17)]) rfl ?_
    refine lv_bipush (v := 59) hx hb dX12_loop_44 (by decide) ?_
    refine lv_icmp_eq (tgt := 139) hx hb dX12_loop_46 (by decide) (fun c486 => ?_) (fun c486 => ?_)
    · have hP : va_P G.1 pCl (mW G h0 a (upd (upd (upd (upd (upd (upd (upd F 15 0) 16 pl19) 27 (nI (nd + 1))) 31 (nI wr)) 64 (nI at17)) 65 (nI ne)) 66 (nI lk)) (updA X6 2 K)) _ := hP
      have hD : va_D A (mW G h0 a (upd (upd (upd (upd (upd (upd (upd F 15 0) 16 pl19) 27 (nI (nd + 1))) 31 (nI wr)) 64 (nI at17)) 65 (nI ne)) 66 (nI lk)) (updA X6 2 K)) := mW_D hD
      exact cut_a at17 (nd + 1) wr lk pl19 X6 (-1) _ _ _ (by omega) (by omega) (by omega) (by omega) (by omega) (by omega) (by omega) (by omega) (by omega) hkp8 hlo9 (Frs.up hf10 (by omega)) hn11 hP hD hS (lv_sub hl [0, 1] rfl)
    · refine lv_aload_n hx hb dX12_loop_49 rfl (lv_at hl 1 rfl) ?_
      have hP : va_P G.1 pCl (mW G h0 a (upd (upd (upd (upd (upd (upd (upd (upd (upd F 15 0) 16 pl19) 27 (nI (nd + 1))) 31 (nI wr)) 64 (nI at17)) 65 (nI ne)) 66 (nI lk)) 15 (nI 0)) 64 (nI at17)) (updA (updA X6 2 K) 2 K)) _ := mW_to (F := F) (l1 := [(15, 0), (16, pl19), (27, (nI (nd + 1))), (31, (nI wr)), (64, (nI at17)), (65, (nI ne)), (66, (nI lk))]) (l2 := [(15, 0), (16, pl19), (27, (nI (nd + 1))), (31, (nI wr)), (64, (nI at17)), (65, (nI ne)), (66, (nI lk)), (15, (nI 0)), (64, (nI at17))]) (V := [(nI 0), pl19, (nI (nd + 1)), (nI wr), (nI at17), (nI ne), (nI lk), (nI 0), pl19, (nI (nd + 1)), (nI wr), (nI at17), (nI ne), (nI lk), (nI 0), (nI at17)]) rfl rfl (show (updA X6 2 K) = (updA (updA X6 2 K) 2 K) from updsA_eq2 (F := X6) (l1 := [(2, K)]) (l2 := [(2, K), (2, K)]) (V := [K, K, K]) rfl rfl) hP
      have hD : va_D A (mW G h0 a (upd (upd (upd (upd (upd (upd (upd (upd (upd F 15 0) 16 pl19) 27 (nI (nd + 1))) 31 (nI wr)) 64 (nI at17)) 65 (nI ne)) 66 (nI lk)) 15 (nI 0)) 64 (nI at17)) (updA (updA X6 2 K) 2 K)) := mW_D hD
      refine pc_V0 (G := G) (As := []) (rest := []) hx hb hml hown hq hE hX pX0_al hP hD hS hA hl.1 (R_isTyped l G h0 a (upd (upd (upd (upd (upd (upd (upd F 15 0) 16 pl19) 27 (nI (nd + 1))) 31 (nI wr)) 64 (nI at17)) 65 (nI ne)) 66 (nI lk)) (updA X6 2 K) at17 T 0 K (by omega) (by omega) hK (by omega)) (gV pw_1693 pw_1694 pw_1695 pw_1523 pw_1634) hV_X12_isTyped 0 9 rfl rfl rfl rfl (Nat.le_of_ble_eq_true rfl) dX12_loop_50 ⟨Nat.le_of_ble_eq_true rfl, Nat.le_of_ble_eq_true rfl⟩ ⟨(by show 3 + 1 ≤ (26 * n + 43); omega), (by show 8 + (1 + 11) + 80 ≤ (2000 * n + 4300); omega)⟩ (fun v489 u487 H locs hw488 hP hD hS => ?_)
      obtain ⟨r490, rfl⟩ : ∃ z, z = u487 := ⟨_, rfl⟩
      obtain ⟨hw488, h491, h492⟩ := hw488
      have h491 : r490 ≤ 1 := h491
      have h492 : at17 + r490 ≤ T := h492
      obtain rfl : v489 = some (.int (nI r490)) := hw488
      have hP : va_P G.1 pCl (mW G h0 a (upd (upd (upd (upd (upd (upd (upd F 15 0) 16 pl19) 27 (nI (nd + 1))) 31 (nI wr)) 64 (nI at17)) 65 (nI ne)) 66 (nI lk)) (updA X6 2 K)) _ := mW_to (F := F) (l1 := [(15, 0), (16, pl19), (27, (nI (nd + 1))), (31, (nI wr)), (64, (nI at17)), (65, (nI ne)), (66, (nI lk)), (15, (nI 0)), (64, (nI at17))]) (l2 := [(15, 0), (16, pl19), (27, (nI (nd + 1))), (31, (nI wr)), (64, (nI at17)), (65, (nI ne)), (66, (nI lk))]) (V := [0, pl19, (nI (nd + 1)), (nI wr), (nI at17), (nI ne), (nI lk), 0, (nI at17), 0, pl19, (nI (nd + 1)), (nI wr), (nI at17), (nI ne), (nI lk)]) rfl rfl (show (updA (updA X6 2 K) 2 K) = (updA X6 2 K) from updsA_eq2 (F := X6) (l1 := [(2, K), (2, K)]) (l2 := [(2, K)]) (V := [K, K, K]) rfl rfl) hP
      have hD : va_D A (mW G h0 a (upd (upd (upd (upd (upd (upd (upd F 15 0) 16 pl19) 27 (nI (nd + 1))) 31 (nI wr)) 64 (nI at17)) 65 (nI ne)) 66 (nI lk)) (updA X6 2 K)) := mW_D hD
      refine W.widen (k := 0) (n := 0) (Nat.le_of_ble_eq_true rfl) (Nat.le_of_ble_eq_true rfl) ?_
      refine W.eq (g2 := F0 m 53 ls [.int (nI r490)]) rfl ?_
      refine lv_if_eq (tgt := 113) hx hb dX12_loop_53 (by decide) (fun c493 => ?_) (fun c493 => ?_)
      · have n494 : r490 = 0 := (nI_eq (a := r490) (b := 0) (by omega) (by omega)).mp c493
        refine lv_aload_n hx hb dX12_loop_113 rfl (lv_at hl 1 rfl) ?_
        have hP : va_P G.1 pCl (mW G h0 a (upd (upd (upd (upd (upd (upd (upd (upd (upd F 15 0) 16 pl19) 27 (nI (nd + 1))) 31 (nI wr)) 64 (nI at17)) 65 (nI ne)) 66 (nI lk)) 15 (nI 0)) 64 (nI at17)) (updA (updA X6 2 K) 2 K)) _ := mW_to (F := F) (l1 := [(15, 0), (16, pl19), (27, (nI (nd + 1))), (31, (nI wr)), (64, (nI at17)), (65, (nI ne)), (66, (nI lk))]) (l2 := [(15, 0), (16, pl19), (27, (nI (nd + 1))), (31, (nI wr)), (64, (nI at17)), (65, (nI ne)), (66, (nI lk)), (15, (nI 0)), (64, (nI at17))]) (V := [(nI 0), pl19, (nI (nd + 1)), (nI wr), (nI at17), (nI ne), (nI lk), (nI 0), pl19, (nI (nd + 1)), (nI wr), (nI at17), (nI ne), (nI lk), (nI 0), (nI at17)]) rfl rfl (show (updA X6 2 K) = (updA (updA X6 2 K) 2 K) from updsA_eq2 (F := X6) (l1 := [(2, K)]) (l2 := [(2, K), (2, K)]) (V := [K, K, K]) rfl rfl) hP
        have hD : va_D A (mW G h0 a (upd (upd (upd (upd (upd (upd (upd (upd (upd F 15 0) 16 pl19) 27 (nI (nd + 1))) 31 (nI wr)) 64 (nI at17)) 65 (nI ne)) 66 (nI lk)) 15 (nI 0)) 64 (nI at17)) (updA (updA X6 2 K) 2 K)) := mW_D hD
        refine pc_V0 (G := G) (As := []) (rest := []) hx hb hml hown hq hE hX pX0_al hP hD hS hA hl.1 (R_isOperand l G h0 a (upd (upd (upd (upd (upd (upd (upd F 15 0) 16 pl19) 27 (nI (nd + 1))) 31 (nI wr)) 64 (nI at17)) 65 (nI ne)) 66 (nI lk)) (updA X6 2 K) at17 T 0 K (by omega) (by omega) hK (by omega)) (gV pw_1675 pw_1676 pw_1677 pw_1523 pw_1636) hV_X12_isOperand 0 9 rfl rfl rfl rfl (Nat.le_of_ble_eq_true rfl) dX12_loop_114 ⟨Nat.le_of_ble_eq_true rfl, Nat.le_of_ble_eq_true rfl⟩ ⟨(by show 3 + 1 ≤ (26 * n + 43); omega), (by show 8 + (2 + 11) + 80 ≤ (2000 * n + 4300); omega)⟩ (fun v497 u495 H locs hw496 hP hD hS => ?_)
        obtain ⟨r498, rfl⟩ : ∃ z, z = u495 := ⟨_, rfl⟩
        obtain ⟨hw496, h499, h500⟩ := hw496
        have h499 : r498 ≤ 1 := h499
        have h500 : at17 + r498 ≤ T := h500
        obtain rfl : v497 = some (.int (nI r498)) := hw496
        have hP : va_P G.1 pCl (mW G h0 a (upd (upd (upd (upd (upd (upd (upd F 15 0) 16 pl19) 27 (nI (nd + 1))) 31 (nI wr)) 64 (nI at17)) 65 (nI ne)) 66 (nI lk)) (updA X6 2 K)) _ := mW_to (F := F) (l1 := [(15, 0), (16, pl19), (27, (nI (nd + 1))), (31, (nI wr)), (64, (nI at17)), (65, (nI ne)), (66, (nI lk)), (15, (nI 0)), (64, (nI at17))]) (l2 := [(15, 0), (16, pl19), (27, (nI (nd + 1))), (31, (nI wr)), (64, (nI at17)), (65, (nI ne)), (66, (nI lk))]) (V := [0, pl19, (nI (nd + 1)), (nI wr), (nI at17), (nI ne), (nI lk), 0, (nI at17), 0, pl19, (nI (nd + 1)), (nI wr), (nI at17), (nI ne), (nI lk)]) rfl rfl (show (updA (updA X6 2 K) 2 K) = (updA X6 2 K) from updsA_eq2 (F := X6) (l1 := [(2, K), (2, K)]) (l2 := [(2, K)]) (V := [K, K, K]) rfl rfl) hP
        have hD : va_D A (mW G h0 a (upd (upd (upd (upd (upd (upd (upd F 15 0) 16 pl19) 27 (nI (nd + 1))) 31 (nI wr)) 64 (nI at17)) 65 (nI ne)) 66 (nI lk)) (updA X6 2 K)) := mW_D hD
        refine W.widen (k := 0) (n := 0) (Nat.le_of_ble_eq_true rfl) (Nat.le_of_ble_eq_true rfl) ?_
        refine W.eq (g2 := F0 m 117 ls [.int (nI r498)]) rfl ?_
        refine lv_if_eq (tgt := 134) hx hb dX12_loop_117 (by decide) (fun c501 => ?_) (fun c501 => ?_)
        · have n502 : r498 = 0 := (nI_eq (a := r498) (b := 0) (by omega) (by omega)).mp c501
          refine lv_aload_n hx hb dX12_loop_134 rfl (lv_at hl 1 rfl) ?_
          refine lv_iconst (v := 1) hx hb dX12_loop_135 (by decide) ?_
          have hP : va_P G.1 pCl (mW G h0 a (upd (upd (upd (upd (upd (upd (upd (upd (upd F 15 0) 16 pl19) 27 (nI (nd + 1))) 31 (nI wr)) 64 (nI at17)) 65 (nI ne)) 66 (nI lk)) 15 (nI 0)) 64 (nI at17)) (updA (updA X6 2 K) 2 K)) _ := mW_to (F := F) (l1 := [(15, 0), (16, pl19), (27, (nI (nd + 1))), (31, (nI wr)), (64, (nI at17)), (65, (nI ne)), (66, (nI lk))]) (l2 := [(15, 0), (16, pl19), (27, (nI (nd + 1))), (31, (nI wr)), (64, (nI at17)), (65, (nI ne)), (66, (nI lk)), (15, (nI 0)), (64, (nI at17))]) (V := [(nI 0), pl19, (nI (nd + 1)), (nI wr), (nI at17), (nI ne), (nI lk), (nI 0), pl19, (nI (nd + 1)), (nI wr), (nI at17), (nI ne), (nI lk), (nI 0), (nI at17)]) rfl rfl (show (updA X6 2 K) = (updA (updA X6 2 K) 2 K) from updsA_eq2 (F := X6) (l1 := [(2, K)]) (l2 := [(2, K), (2, K)]) (V := [K, K, K]) rfl rfl) hP
          have hD : va_D A (mW G h0 a (upd (upd (upd (upd (upd (upd (upd (upd (upd F 15 0) 16 pl19) 27 (nI (nd + 1))) 31 (nI wr)) 64 (nI at17)) 65 (nI ne)) 66 (nI lk)) 15 (nI 0)) 64 (nI at17)) (updA (updA X6 2 K) 2 K)) := mW_D hD
          refine pc_V0 (G := G) (As := [.int (nI 1)]) (rest := []) hx hb hml hown hq hE hX pX0_al hP hD hS hA hl.1 (R_bad l G h0 a (upd (upd (upd (upd (upd (upd (upd F 15 0) 16 pl19) 27 (nI (nd + 1))) 31 (nI wr)) 64 (nI at17)) 65 (nI ne)) 66 (nI lk)) (updA X6 2 K) at17 T 0 K 1 (by omega) (by omega) hK (by omega) (by omega) (by omega)) (gV pw_1602 pw_1603 pw_1604 pw_1523 pw_1596) hV_X12_bad 0 9 rfl rfl rfl rfl (Nat.le_of_ble_eq_true rfl) dX12_loop_136 ⟨Nat.le_of_ble_eq_true rfl, Nat.le_of_ble_eq_true rfl⟩ ⟨(by show 3 + 1 ≤ (26 * n + 43); omega), (by show 8 + (2 + 11) + 82 ≤ (2000 * n + 4300); omega)⟩ (fun v505 u503 H locs hw504 hP hD hS => ?_)
          obtain ⟨fa506, pl507⟩ := u503
          obtain ⟨hw504, h508, h509, h510, h511⟩ := hw504
          have h508 : 0 ≤ fa506 := h508
          have h509 : fa506 ≤ 0 + 1 := h509
          have h510 : 0 < fa506 := h510
          have h511 : If (0 < 0) (fa506 = 0) := h511
          obtain rfl : v505 = none := hw504
          have hP : va_P G.1 pCl (mW G h0 a (upd (upd (upd (upd (upd (upd (upd F 15 (nI fa506)) 16 pl507) 27 (nI (nd + 1))) 31 (nI wr)) 64 (nI at17)) 65 (nI ne)) 66 (nI lk)) (updA X6 2 K)) _ := mW_to (F := F) (l1 := [(15, 0), (16, pl19), (27, (nI (nd + 1))), (31, (nI wr)), (64, (nI at17)), (65, (nI ne)), (66, (nI lk)), (15, (nI fa506)), (16, pl507), (64, (nI at17))]) (l2 := [(15, (nI fa506)), (16, pl507), (27, (nI (nd + 1))), (31, (nI wr)), (64, (nI at17)), (65, (nI ne)), (66, (nI lk))]) (V := [(nI fa506), pl507, (nI (nd + 1)), (nI wr), (nI at17), (nI ne), (nI lk), (nI fa506), pl507, (nI at17), (nI fa506), pl507, (nI (nd + 1)), (nI wr), (nI at17), (nI ne), (nI lk)]) rfl rfl (show (updA (updA X6 2 K) 2 K) = (updA X6 2 K) from updsA_eq2 (F := X6) (l1 := [(2, K), (2, K)]) (l2 := [(2, K)]) (V := [K, K, K]) rfl rfl) hP
          have hD : va_D A (mW G h0 a (upd (upd (upd (upd (upd (upd (upd F 15 (nI fa506)) 16 pl507) 27 (nI (nd + 1))) 31 (nI wr)) 64 (nI at17)) 65 (nI ne)) 66 (nI lk)) (updA X6 2 K)) := mW_D hD
          refine W.widen (k := 0) (n := 0) (Nat.le_of_ble_eq_true rfl) (Nat.le_of_ble_eq_true rfl) ?_
          refine W.eq (g2 := F0 m 139 ls []) rfl ?_
          refine lv_aload_n hx hb dX12_loop_139 rfl (lv_at hl 1 rfl) ?_
          refine lv_bipush (v := 59) hx hb dX12_loop_140 (by decide) ?_
          have hP : va_P G.1 pCl (mW G h0 a (upd (upd (upd (upd (upd (upd (upd (upd (upd F 15 (nI fa506)) 16 pl507) 27 (nI (nd + 1))) 31 (nI wr)) 64 (nI at17)) 65 (nI ne)) 66 (nI lk)) 15 (nI fa506)) 64 (nI at17)) (updA (updA X6 2 K) 2 K)) _ := mW_to (F := F) (l1 := [(15, (nI fa506)), (16, pl507), (27, (nI (nd + 1))), (31, (nI wr)), (64, (nI at17)), (65, (nI ne)), (66, (nI lk))]) (l2 := [(15, (nI fa506)), (16, pl507), (27, (nI (nd + 1))), (31, (nI wr)), (64, (nI at17)), (65, (nI ne)), (66, (nI lk)), (15, (nI fa506)), (64, (nI at17))]) (V := [(nI fa506), pl507, (nI (nd + 1)), (nI wr), (nI at17), (nI ne), (nI lk), (nI fa506), pl507, (nI (nd + 1)), (nI wr), (nI at17), (nI ne), (nI lk), (nI fa506), (nI at17)]) rfl rfl (show (updA X6 2 K) = (updA (updA X6 2 K) 2 K) from updsA_eq2 (F := X6) (l1 := [(2, K)]) (l2 := [(2, K), (2, K)]) (V := [K, K, K]) rfl rfl) hP
          have hD : va_D A (mW G h0 a (upd (upd (upd (upd (upd (upd (upd (upd (upd F 15 (nI fa506)) 16 pl507) 27 (nI (nd + 1))) 31 (nI wr)) 64 (nI at17)) 65 (nI ne)) 66 (nI lk)) 15 (nI fa506)) 64 (nI at17)) (updA (updA X6 2 K) 2 K)) := mW_D hD
          refine pc_V0 (G := G) (As := [.int 59]) (rest := []) hx hb hml hown hq hE hX pX0_al hP hD hS hA hl.1 (R_take l G h0 a (upd (upd (upd (upd (upd (upd (upd F 15 (nI fa506)) 16 pl507) 27 (nI (nd + 1))) 31 (nI wr)) 64 (nI at17)) 65 (nI ne)) 66 (nI lk)) (updA X6 2 K) at17 T fa506 K 59 (by omega) (by omega) hK (by omega) (by decide) (by decide)) (gV pw_1614 pw_1615 pw_1616 pw_1523 pw_1601) hV_X12_take 0 9 rfl rfl rfl rfl (Nat.le_of_ble_eq_true rfl) dX12_loop_142 ⟨Nat.le_of_ble_eq_true rfl, Nat.le_of_ble_eq_true rfl⟩ ⟨(by show 4 + 1 ≤ (26 * n + 43); omega), (by show 8 + (2 + 11) + 103 ≤ (2000 * n + 4300); omega)⟩ (fun v514 u512 H locs hw513 hP hD hS => ?_)
          obtain ⟨at515, fa516, pl517⟩ := u512
          obtain ⟨hw513, h518, h519, h520, h521, h522, h523, h524, h525⟩ := hw513
          have h518 : at17 ≤ at515 := h518
          have h519 : at515 ≤ T := h519
          have h520 : fa506 ≤ fa516 := h520
          have h521 : fa516 ≤ 100 := h521
          have h522 : If (0 < fa506) (at515 = at17 ∧ fa516 = fa506) := h522
          have h523 : at515 ≤ at17 + 1 := h523
          have h524 : at17 + 1 ≤ at515 + fa516 := h524
          have h525 : If (fa516 = 0) (K at17 = 59) := h525
          obtain rfl : v514 = none := hw513
          have hP : va_P G.1 pCl (mW G h0 a (upd (upd (upd (upd (upd (upd (upd F 15 (nI fa516)) 16 pl517) 27 (nI (nd + 1))) 31 (nI wr)) 64 (nI at515)) 65 (nI ne)) 66 (nI lk)) (updA X6 2 K)) _ := mW_to (F := F) (l1 := [(15, (nI fa506)), (16, pl507), (27, (nI (nd + 1))), (31, (nI wr)), (64, (nI at17)), (65, (nI ne)), (66, (nI lk)), (15, (nI fa516)), (16, pl517), (64, (nI at515))]) (l2 := [(15, (nI fa516)), (16, pl517), (27, (nI (nd + 1))), (31, (nI wr)), (64, (nI at515)), (65, (nI ne)), (66, (nI lk))]) (V := [(nI fa516), pl517, (nI (nd + 1)), (nI wr), (nI at515), (nI ne), (nI lk), (nI fa516), pl517, (nI at515), (nI fa516), pl517, (nI (nd + 1)), (nI wr), (nI at515), (nI ne), (nI lk)]) rfl rfl (show (updA (updA X6 2 K) 2 K) = (updA X6 2 K) from updsA_eq2 (F := X6) (l1 := [(2, K), (2, K)]) (l2 := [(2, K)]) (V := [K, K, K]) rfl rfl) hP
          have hD : va_D A (mW G h0 a (upd (upd (upd (upd (upd (upd (upd F 15 (nI fa516)) 16 pl517) 27 (nI (nd + 1))) 31 (nI wr)) 64 (nI at515)) 65 (nI ne)) 66 (nI lk)) (updA X6 2 K)) := mW_D hD
          refine W.widen (k := 0) (n := 0) (Nat.le_of_ble_eq_true rfl) (Nat.le_of_ble_eq_true rfl) ?_
          refine W.eq (g2 := F0 m 145 ls []) rfl ?_
          obtain ⟨n527, n526⟩ := h522 h510
          replace n527 := n527.symm
          subst n527
          replace n526 := n526.symm
          subst n526
          refine lv_aload_n hx hb dX12_loop_145 rfl (lv_at hl 1 rfl) ?_
          refine r_get (v := .int (nI fa506)) hx hb hown hq hE hP 15 350 tFX12_15 (by decide) pw_1594 rfl dX12_loop_146 ?_
          refine lv_if_ne (tgt := 171) hx hb dX12_loop_149 (by decide) (fun c528 => ?_) (fun c528 => (by have n529 : fa506 = 0 := (nI_eq (a := fa506) (b := 0) (by omega) (by omega)).mp c528; omega))
          refine lv_aload_n hx hb dX12_loop_171 rfl (lv_at hl 1 rfl) ?_
          refine lv_bipush (v := 59) hx hb dX12_loop_172 (by decide) ?_
          have hP : va_P G.1 pCl (mW G h0 a (upd (upd (upd (upd (upd (upd (upd (upd (upd F 15 (nI fa506)) 16 pl517) 27 (nI (nd + 1))) 31 (nI wr)) 64 (nI at17)) 65 (nI ne)) 66 (nI lk)) 15 (nI fa506)) 64 (nI at17)) (updA (updA X6 2 K) 2 K)) _ := hP
          have hD : va_D A (mW G h0 a (upd (upd (upd (upd (upd (upd (upd (upd (upd F 15 (nI fa506)) 16 pl517) 27 (nI (nd + 1))) 31 (nI wr)) 64 (nI at17)) 65 (nI ne)) 66 (nI lk)) 15 (nI fa506)) 64 (nI at17)) (updA (updA X6 2 K) 2 K)) := mW_D hD
          refine pc_V0 (G := G) (As := [.int 59]) (rest := []) hx hb hml hown hq hE hX pX0_al hP hD hS hA hl.1 (R_take l G h0 a (upd (upd (upd (upd (upd (upd (upd F 15 (nI fa506)) 16 pl517) 27 (nI (nd + 1))) 31 (nI wr)) 64 (nI at17)) 65 (nI ne)) 66 (nI lk)) (updA X6 2 K) at17 T fa506 K 59 (by omega) (by omega) hK (by omega) (by decide) (by decide)) (gV pw_1614 pw_1615 pw_1616 pw_1523 pw_1601) hV_X12_take 0 9 rfl rfl rfl rfl (Nat.le_of_ble_eq_true rfl) dX12_loop_174 ⟨Nat.le_of_ble_eq_true rfl, Nat.le_of_ble_eq_true rfl⟩ ⟨(by show 4 + 1 ≤ (26 * n + 43); omega), (by show 8 + (2 + 11) + 103 ≤ (2000 * n + 4300); omega)⟩ (fun v532 u530 H locs hw531 hP hD hS => ?_)
          obtain ⟨at533, fa534, pl535⟩ := u530
          obtain ⟨hw531, h536, h537, h538, h539, h540, h541, h542, h543⟩ := hw531
          have h536 : at17 ≤ at533 := h536
          have h537 : at533 ≤ T := h537
          have h538 : fa506 ≤ fa534 := h538
          have h539 : fa534 ≤ 100 := h539
          have h540 : If (0 < fa506) (at533 = at17 ∧ fa534 = fa506) := h540
          have h541 : at533 ≤ at17 + 1 := h541
          have h542 : at17 + 1 ≤ at533 + fa534 := h542
          have h543 : If (fa534 = 0) (K at17 = 59) := h543
          obtain rfl : v532 = none := hw531
          have hP : va_P G.1 pCl (mW G h0 a (upd (upd (upd (upd (upd (upd (upd F 15 (nI fa534)) 16 pl535) 27 (nI (nd + 1))) 31 (nI wr)) 64 (nI at533)) 65 (nI ne)) 66 (nI lk)) (updA X6 2 K)) _ := mW_to (F := F) (l1 := [(15, (nI fa506)), (16, pl517), (27, (nI (nd + 1))), (31, (nI wr)), (64, (nI at17)), (65, (nI ne)), (66, (nI lk)), (15, (nI fa534)), (16, pl535), (64, (nI at533))]) (l2 := [(15, (nI fa534)), (16, pl535), (27, (nI (nd + 1))), (31, (nI wr)), (64, (nI at533)), (65, (nI ne)), (66, (nI lk))]) (V := [(nI fa534), pl535, (nI (nd + 1)), (nI wr), (nI at533), (nI ne), (nI lk), (nI fa534), pl535, (nI at533), (nI fa534), pl535, (nI (nd + 1)), (nI wr), (nI at533), (nI ne), (nI lk)]) rfl rfl (show (updA (updA X6 2 K) 2 K) = (updA X6 2 K) from updsA_eq2 (F := X6) (l1 := [(2, K), (2, K)]) (l2 := [(2, K)]) (V := [K, K, K]) rfl rfl) hP
          have hD : va_D A (mW G h0 a (upd (upd (upd (upd (upd (upd (upd F 15 (nI fa534)) 16 pl535) 27 (nI (nd + 1))) 31 (nI wr)) 64 (nI at533)) 65 (nI ne)) 66 (nI lk)) (updA X6 2 K)) := mW_D hD
          refine W.widen (k := 0) (n := 0) (Nat.le_of_ble_eq_true rfl) (Nat.le_of_ble_eq_true rfl) ?_
          refine W.eq (g2 := F0 m 177 ls []) rfl ?_
          obtain ⟨n545, n544⟩ := h540 h510
          replace n545 := n545.symm
          subst n545
          replace n544 := n544.symm
          subst n544
          refine lv_aload_n hx hb dX12_loop_177 rfl (lv_at hl 1 rfl) ?_
          refine r_get (v := .int (nI fa506)) hx hb hown hq hE hP 15 350 tFX12_15 (by decide) pw_1594 rfl dX12_loop_178 ?_
          refine lv_if_ne (tgt := 219) hx hb dX12_loop_181 (by decide) (fun c546 => ?_) (fun c546 => (by have n547 : fa506 = 0 := (nI_eq (a := fa506) (b := 0) (by omega) (by omega)).mp c546; omega))
          refine lv_aload_n hx hb dX12_loop_219 rfl (lv_at hl 1 rfl) ?_
          refine lv_bipush (v := 41) hx hb dX12_loop_220 (by decide) ?_
          have hP : va_P G.1 pCl (mW G h0 a (upd (upd (upd (upd (upd (upd (upd (upd (upd F 15 (nI fa506)) 16 pl535) 27 (nI (nd + 1))) 31 (nI wr)) 64 (nI at17)) 65 (nI ne)) 66 (nI lk)) 15 (nI fa506)) 64 (nI at17)) (updA (updA X6 2 K) 2 K)) _ := hP
          have hD : va_D A (mW G h0 a (upd (upd (upd (upd (upd (upd (upd (upd (upd F 15 (nI fa506)) 16 pl535) 27 (nI (nd + 1))) 31 (nI wr)) 64 (nI at17)) 65 (nI ne)) 66 (nI lk)) 15 (nI fa506)) 64 (nI at17)) (updA (updA X6 2 K) 2 K)) := mW_D hD
          refine pc_V0 (G := G) (As := [.int 41]) (rest := []) hx hb hml hown hq hE hX pX0_al hP hD hS hA hl.1 (R_take l G h0 a (upd (upd (upd (upd (upd (upd (upd F 15 (nI fa506)) 16 pl535) 27 (nI (nd + 1))) 31 (nI wr)) 64 (nI at17)) 65 (nI ne)) 66 (nI lk)) (updA X6 2 K) at17 T fa506 K 41 (by omega) (by omega) hK (by omega) (by decide) (by decide)) (gV pw_1614 pw_1615 pw_1616 pw_1523 pw_1601) hV_X12_take 0 9 rfl rfl rfl rfl (Nat.le_of_ble_eq_true rfl) dX12_loop_222 ⟨Nat.le_of_ble_eq_true rfl, Nat.le_of_ble_eq_true rfl⟩ ⟨(by show 4 + 1 ≤ (26 * n + 43); omega), (by show 8 + (2 + 11) + 103 ≤ (2000 * n + 4300); omega)⟩ (fun v550 u548 H locs hw549 hP hD hS => ?_)
          obtain ⟨at551, fa552, pl553⟩ := u548
          obtain ⟨hw549, h554, h555, h556, h557, h558, h559, h560, h561⟩ := hw549
          have h554 : at17 ≤ at551 := h554
          have h555 : at551 ≤ T := h555
          have h556 : fa506 ≤ fa552 := h556
          have h557 : fa552 ≤ 100 := h557
          have h558 : If (0 < fa506) (at551 = at17 ∧ fa552 = fa506) := h558
          have h559 : at551 ≤ at17 + 1 := h559
          have h560 : at17 + 1 ≤ at551 + fa552 := h560
          have h561 : If (fa552 = 0) (K at17 = 41) := h561
          obtain rfl : v550 = none := hw549
          have hP : va_P G.1 pCl (mW G h0 a (upd (upd (upd (upd (upd (upd (upd F 15 (nI fa552)) 16 pl553) 27 (nI (nd + 1))) 31 (nI wr)) 64 (nI at551)) 65 (nI ne)) 66 (nI lk)) (updA X6 2 K)) _ := mW_to (F := F) (l1 := [(15, (nI fa506)), (16, pl535), (27, (nI (nd + 1))), (31, (nI wr)), (64, (nI at17)), (65, (nI ne)), (66, (nI lk)), (15, (nI fa552)), (16, pl553), (64, (nI at551))]) (l2 := [(15, (nI fa552)), (16, pl553), (27, (nI (nd + 1))), (31, (nI wr)), (64, (nI at551)), (65, (nI ne)), (66, (nI lk))]) (V := [(nI fa552), pl553, (nI (nd + 1)), (nI wr), (nI at551), (nI ne), (nI lk), (nI fa552), pl553, (nI at551), (nI fa552), pl553, (nI (nd + 1)), (nI wr), (nI at551), (nI ne), (nI lk)]) rfl rfl (show (updA (updA X6 2 K) 2 K) = (updA X6 2 K) from updsA_eq2 (F := X6) (l1 := [(2, K), (2, K)]) (l2 := [(2, K)]) (V := [K, K, K]) rfl rfl) hP
          have hD : va_D A (mW G h0 a (upd (upd (upd (upd (upd (upd (upd F 15 (nI fa552)) 16 pl553) 27 (nI (nd + 1))) 31 (nI wr)) 64 (nI at551)) 65 (nI ne)) 66 (nI lk)) (updA X6 2 K)) := mW_D hD
          refine W.widen (k := 0) (n := 0) (Nat.le_of_ble_eq_true rfl) (Nat.le_of_ble_eq_true rfl) ?_
          refine W.eq (g2 := F0 m 225 ls []) rfl ?_
          obtain ⟨n563, n562⟩ := h558 h510
          replace n563 := n563.symm
          subst n563
          replace n562 := n562.symm
          subst n562
          refine lv_aload_n hx hb dX12_loop_225 rfl (lv_at hl 1 rfl) ?_
          refine r_get (v := .ref (a 15)) hx hb hown hq hE hP 23 56 tFX12_23 (by decide) pw_1445 rfl dX12_loop_226 ?_
          refine lv_iload_n hx hb dX12_loop_229 rfl (lv_at hl 0 rfl) ?_
          refine lv_aload_n hx hb dX12_loop_230 rfl (lv_at hl 1 rfl) ?_
          have hP : va_P G.1 pCl (mW G h0 a (upd (upd (upd (upd (upd (upd (upd (upd (upd F 15 (nI fa506)) 16 pl553) 27 (nI (nd + 1))) 31 (nI wr)) 64 (nI at17)) 65 (nI ne)) 66 (nI lk)) 15 (nI fa506)) 64 (nI at17)) (updA (updA X6 2 K) 2 K)) _ := hP
          have hD : va_D A (mW G h0 a (upd (upd (upd (upd (upd (upd (upd (upd (upd F 15 (nI fa506)) 16 pl553) 27 (nI (nd + 1))) 31 (nI wr)) 64 (nI at17)) 65 (nI ne)) 66 (nI lk)) 15 (nI fa506)) 64 (nI at17)) (updA (updA X6 2 K) 2 K)) := mW_D hD
          refine pc_V0 (G := G) (As := []) (rest := [.int (nI nd), .ref (a 15)]) hx hb hml hown hq hE hX pX0_al hP hD hS hA hl.1 (RF_statement l G h0 a (upd (upd (upd (upd (upd (upd (upd F 15 (nI fa506)) 16 pl553) 27 (nI (nd + 1))) 31 (nI wr)) 64 (nI at17)) 65 (nI ne)) 66 (nI lk)) (updA X6 2 K) at17 T fa506 K (by omega) (by omega) hK (by omega) h510) (gV pw_1699 pw_1700 pw_1701 pw_1523 pw_1706) hV_X12_statement 0 9 rfl rfl rfl rfl (Nat.le_of_ble_eq_true rfl) dX12_loop_231 ⟨Nat.le_of_ble_eq_true rfl, Nat.le_of_ble_eq_true rfl⟩ ⟨(by show 2 + 1 ≤ (26 * n + 43); omega), (by show 8 + (3 + 11) + 60 ≤ (2000 * n + 4300); omega)⟩ (fun v566 u564 H locs hw565 hP hD hS => ?_)
          obtain rfl : v566 = some (.int 0) := hw565
          have hP : va_P G.1 pCl (mW G h0 a (upd (upd (upd (upd (upd (upd (upd F 15 (nI fa506)) 16 pl553) 27 (nI (nd + 1))) 31 (nI wr)) 64 (nI at17)) 65 (nI ne)) 66 (nI lk)) (updA X6 2 K)) _ := mW_to (F := F) (l1 := [(15, (nI fa506)), (16, pl553), (27, (nI (nd + 1))), (31, (nI wr)), (64, (nI at17)), (65, (nI ne)), (66, (nI lk)), (15, (nI fa506)), (64, (nI at17))]) (l2 := [(15, (nI fa506)), (16, pl553), (27, (nI (nd + 1))), (31, (nI wr)), (64, (nI at17)), (65, (nI ne)), (66, (nI lk))]) (V := [(nI fa506), pl553, (nI (nd + 1)), (nI wr), (nI at17), (nI ne), (nI lk), (nI fa506), (nI at17), (nI fa506), pl553, (nI (nd + 1)), (nI wr), (nI at17), (nI ne), (nI lk)]) rfl rfl (show (updA (updA X6 2 K) 2 K) = (updA X6 2 K) from updsA_eq2 (F := X6) (l1 := [(2, K), (2, K)]) (l2 := [(2, K)]) (V := [K, K, K]) rfl rfl) hP
          have hD : va_D A (mW G h0 a (upd (upd (upd (upd (upd (upd (upd F 15 (nI fa506)) 16 pl553) 27 (nI (nd + 1))) 31 (nI wr)) 64 (nI at17)) 65 (nI ne)) 66 (nI lk)) (updA X6 2 K)) := mW_D hD
          refine W.widen (k := 0) (n := 0) (Nat.le_of_ble_eq_true rfl) (Nat.le_of_ble_eq_true rfl) ?_
          refine W.eq (g2 := F0 m 234 ls [.int 0, .int (nI nd), .ref (a 15)]) rfl ?_
          refine r_sti (f := (X6 15)) (j := nd) hx hb hE hP hD hS 15 (ma_15 G a _) rfl (mas_15 G a _) (by omega) (by decide) dX12_loop_234 (fun H locs hP hD hS => ?_)
          have hP : va_P G.1 pCl (mW G h0 a (upd (upd (upd (upd (upd (upd (upd F 15 (nI fa506)) 16 pl553) 27 (nI (nd + 1))) 31 (nI wr)) 64 (nI at17)) 65 (nI ne)) 66 (nI lk)) (updA (stR X6 15 nd 0) 2 K)) _ := mW_to (F := F) (l1 := [(15, (nI fa506)), (16, pl553), (27, (nI (nd + 1))), (31, (nI wr)), (64, (nI at17)), (65, (nI ne)), (66, (nI lk))]) (l2 := [(15, (nI fa506)), (16, pl553), (27, (nI (nd + 1))), (31, (nI wr)), (64, (nI at17)), (65, (nI ne)), (66, (nI lk))]) (V := [(nI fa506), pl553, (nI (nd + 1)), (nI wr), (nI at17), (nI ne), (nI lk), (nI fa506), pl553, (nI (nd + 1)), (nI wr), (nI at17), (nI ne), (nI lk)]) rfl rfl (show (updA (updA X6 2 K) 15 (upd (X6 15) nd 0)) = (updA (stR X6 15 nd 0) 2 K) from updsA_eq2 (F := X6) (l1 := [(2, K), (15, (upd (X6 15) nd 0))]) (l2 := [(15, (upd (X6 15) nd 0)), (2, K)]) (V := [K, (upd (X6 15) nd 0), (upd (X6 15) nd 0), K]) rfl rfl) hP
          have hD : va_D A (mW G h0 a (upd (upd (upd (upd (upd (upd (upd F 15 (nI fa506)) 16 pl553) 27 (nI (nd + 1))) 31 (nI wr)) 64 (nI at17)) 65 (nI ne)) 66 (nI lk)) (updA (stR X6 15 nd 0) 2 K)) := mW_D hD
          have hkp567 : Kp B (stR X6 15 nd 0) wr T := (Kp.row hkp8 (by omega))
          refine lv_iload_n hx hb dX12_loop_235 rfl (lv_at hl 0 rfl) ?_
          have hz568 : at0 ≤ at17 := (by omega)
          have hz569 : at17 ≤ T := (by omega)
          have hz570 : fa506 ≤ 100 := (by omega)
          have hz571 : nd ≤ (nd + 1) := (by omega)
          have hz572 : (nd + 1) + 2 * at0 ≤ nd + 2 * at17 + 100000 * fa506 := (by omega)
          have hz573 : (nd + 1) + 2 * at0 ≤ nd + 2 * at17 + (60 * (21 - ne) + 40) := (by omega)
          have hz574 : wr ≤ wr := (by omega)
          have hz575 : wr + at0 ≤ wr + at17 := (by omega)
          have hz576 : lk ≤ lk := (by omega)
          have hz577 : lk ≤ 60 + 100 * fa506 := (by omega)
          have hz578 : at0 + 1 ≤ at17 + fa506 := (by omega)
          have hz579 : nd ≤ (nd + 1) := (by omega)
          have hz580 : Kp B (stR X6 15 nd 0) wr T := hkp567
          have hz581 : If (fa506 = 0) (Low B (stR X6 15 nd 0) nd wr ∧ Frs K T wr (stR X6 15 nd 0) nd (nd + 1) 20000 [(nd, (280 + 4 * (21 - ne)))] ∧ kcl 3 ((stR X6 15 nd 0) 9 nd) = true) := (fun e => absurd e (by omega))
          have hP : va_P G.1 pCl (mW G h0 a (upd (upd (upd (upd (upd (upd (upd F 15 (nI fa506)) 16 pl553) 27 (nI (nd + 1))) 31 (nI wr)) 64 (nI at17)) 65 (nI ne)) 66 (nI lk)) (updA (stR X6 15 nd 0) 2 K)) _ := hP
          have hD : va_D A (mW G h0 a (upd (upd (upd (upd (upd (upd (upd F 15 (nI fa506)) 16 pl553) 27 (nI (nd + 1))) 31 (nI wr)) 64 (nI at17)) 65 (nI ne)) 66 (nI lk)) (updA (stR X6 15 nd 0) 2 K)) := mW_D hD
          exact W.iret (v := (nI nd)) hx hb hr (fun t9 ht9 hW9 => ⟨⟨_, (at17, fa506, pl553, (nd + 1), lk, wr, nd, (stR X6 15 nd 0)), rfl, ⟨rfl, hz568, hz569, hz570, hz571, hz572, hz573, hz574, hz575, hz576, hz577, hz578, hz579, hz580, hz581⟩, by rw [ht9]; exact hP, hD⟩, hS.F ht9⟩) hS.2.2 dX12_loop_236
        · have n582 : ¬ (r498 = 0) := fun h9 => c501 ((nI_eq (a := r498) (b := 0) (by omega) (by omega)).mpr h9)
          refine lv_aload_n hx hb dX12_loop_120 rfl (lv_at hl 1 rfl) ?_
          refine r_get (v := .ref (a 12)) hx hb hown hq hE hP 20 47 tFX12_20 (by decide) pw_1442 rfl dX12_loop_121 ?_
          refine lv_iload_n hx hb dX12_loop_124 rfl (lv_at hl 0 rfl) ?_
          refine lv_aload_n hx hb dX12_loop_125 rfl (lv_at hl 1 rfl) ?_
          refine lv_iconst (v := 0) hx hb dX12_loop_126 (by decide) ?_
          have hP : va_P G.1 pCl (mW G h0 a (upd (upd (upd (upd (upd (upd (upd (upd (upd (upd (upd (upd (upd F 15 0) 16 pl19) 27 (nI (nd + 1))) 31 (nI wr)) 64 (nI at17)) 65 (nI ne)) 66 (nI lk)) 15 0) 27 (nI (nd + 1))) 31 (nI wr)) 64 (nI at17)) 65 (nI ne)) 66 (nI lk)) (updA X6 2 K)) _ := mW_to (F := F) (l1 := [(15, 0), (16, pl19), (27, (nI (nd + 1))), (31, (nI wr)), (64, (nI at17)), (65, (nI ne)), (66, (nI lk))]) (l2 := [(15, 0), (16, pl19), (27, (nI (nd + 1))), (31, (nI wr)), (64, (nI at17)), (65, (nI ne)), (66, (nI lk)), (15, 0), (27, (nI (nd + 1))), (31, (nI wr)), (64, (nI at17)), (65, (nI ne)), (66, (nI lk))]) (V := [0, pl19, (nI (nd + 1)), (nI wr), (nI at17), (nI ne), (nI lk), 0, pl19, (nI (nd + 1)), (nI wr), (nI at17), (nI ne), (nI lk), 0, (nI (nd + 1)), (nI wr), (nI at17), (nI ne), (nI lk)]) rfl rfl rfl hP
          have hD : va_D A (mW G h0 a (upd (upd (upd (upd (upd (upd (upd (upd (upd (upd (upd (upd (upd F 15 0) 16 pl19) 27 (nI (nd + 1))) 31 (nI wr)) 64 (nI at17)) 65 (nI ne)) 66 (nI lk)) 15 0) 27 (nI (nd + 1))) 31 (nI wr)) 64 (nI at17)) 65 (nI ne)) 66 (nI lk)) (updA X6 2 K)) := mW_D hD
          refine pc_V0 (G := G) (As := [.int 0]) (rest := [.int (nI nd), .ref (a 12)]) hx hb hml hown hq hE hX pX0_al hP hD hS hA hl.1 (hS0 h0 a (upd (upd (upd (upd (upd (upd (upd F 15 0) 16 pl19) 27 (nI (nd + 1))) 31 (nI wr)) 64 (nI at17)) 65 (nI ne)) 66 (nI lk)) X6 at17 T ne (nd + 1) wr lk K (by omega) (by omega) hK (by omega) (by omega) (by omega) (by omega) (hkp8).2 (by omega)) (gV pw_1696 pw_1697 pw_1698 pw_1523 pw_1682) hV_X12_simple 0 9 rfl rfl rfl rfl (Nat.le_of_ble_eq_true rfl) dX12_loop_127 ⟨Nat.le_of_ble_eq_true rfl, Nat.le_of_ble_eq_true rfl⟩ ⟨(by show (26 * n + 30) + 1 ≤ (26 * n + 43); omega), (by show 8 + (6 + 11) + (2000 * n + 3000) ≤ (2000 * n + 4300); omega)⟩ (fun v585 u583 H locs hw584 hP hD hS => ?_)
          obtain ⟨at586, fa587, pl588, nd589, lk590, wr591, r592, X593⟩ := u583
          obtain ⟨hw584, h594, h595, h596, h597, h598, h599, h600, h601, h602, h603, h604, h605, h606, h607⟩ := hw584
          have h594 : at17 ≤ at586 := h594
          have h595 : at586 ≤ T := h595
          have h596 : fa587 ≤ 100 := h596
          have h597 : (nd + 1) ≤ nd589 := h597
          have h598 : nd589 + 2 * at17 ≤ (nd + 1) + 2 * at586 + 100000 * fa587 := h598
          have h599 : nd589 + 2 * at17 ≤ (nd + 1) + 2 * at586 + (40 * (21 - ne) + 5) := h599
          have h600 : wr ≤ wr591 := h600
          have h601 : wr591 + at17 ≤ wr + at586 := h601
          have h602 : lk ≤ lk590 := h602
          have h603 : lk590 ≤ 60 + 100 * fa587 := h603
          have h604 : at17 + 1 ≤ at586 + fa587 := h604
          have h605 : r592 ≤ nd589 := h605
          have h606 : Kp X6 X593 wr591 T := h606
          have h607 : If (fa587 = 0) (Low X6 X593 (nd + 1) wr ∧ Frs K T wr591 X593 (nd + 1) nd589 20000 [(r592, 280)] ∧ X593 9 r592 = 32) := h607
          obtain rfl : v585 = some (.int (nI r592)) := hw584
          have hP : va_P G.1 pCl (mW G h0 a (upd (upd (upd (upd (upd (upd (upd F 15 (nI fa587)) 16 pl588) 27 (nI nd589)) 31 (nI wr591)) 64 (nI at586)) 65 (nI ne)) 66 (nI lk590)) (updA X593 2 K)) _ := mW_to (F := F) (l1 := [(15, 0), (16, pl19), (27, (nI (nd + 1))), (31, (nI wr)), (64, (nI at17)), (65, (nI ne)), (66, (nI lk)), (15, (nI fa587)), (16, pl588), (27, (nI nd589)), (31, (nI wr591)), (64, (nI at586)), (65, (nI ne)), (66, (nI lk590))]) (l2 := [(15, (nI fa587)), (16, pl588), (27, (nI nd589)), (31, (nI wr591)), (64, (nI at586)), (65, (nI ne)), (66, (nI lk590))]) (V := [(nI fa587), pl588, (nI nd589), (nI wr591), (nI at586), (nI ne), (nI lk590), (nI fa587), pl588, (nI nd589), (nI wr591), (nI at586), (nI ne), (nI lk590), (nI fa587), pl588, (nI nd589), (nI wr591), (nI at586), (nI ne), (nI lk590)]) rfl rfl rfl hP
          have hD : va_D A (mW G h0 a (upd (upd (upd (upd (upd (upd (upd F 15 (nI fa587)) 16 pl588) 27 (nI nd589)) 31 (nI wr591)) 64 (nI at586)) 65 (nI ne)) 66 (nI lk590)) (updA X593 2 K)) := mW_D hD
          refine W.widen (k := 0) (n := 0) (Nat.le_of_ble_eq_true rfl) (Nat.le_of_ble_eq_true rfl) ?_
          refine W.eq (g2 := F0 m 130 ls [.int (nI r592), .int (nI nd), .ref (a 12)]) rfl ?_
          have hkp608 : Kp B X593 wr591 T := (Kp.trans hkp8 h606)
          rcases Nat.eq_zero_or_pos fa587 with e609 | e609
          · subst e609
            have hP : va_P G.1 pCl (mW G h0 a (upd (upd (upd (upd (upd (upd (upd F 15 0) 16 pl588) 27 (nI nd589)) 31 (nI wr591)) 64 (nI at586)) 65 (nI ne)) 66 (nI lk590)) (updA X593 2 K)) _ := hP
            have hD : va_D A (mW G h0 a (upd (upd (upd (upd (upd (upd (upd F 15 0) 16 pl588) 27 (nI nd589)) 31 (nI wr591)) 64 (nI at586)) 65 (nI ne)) 66 (nI lk590)) (updA X593 2 K)) := mW_D hD
            obtain ⟨hlw610, hf611, hc612⟩ := h607 rfl
            have hlo613 : Low B X593 nd wr := (Low.trans hlo9 hlw610 (by omega) (by omega))
            have hf614 : Frs K T wr591 X593 nd (nd + 1) nd [(nd, 0)] := (Frs.same hf10 (by omega) (fun j i q1 q2 q3 q4 => (hlw610.1 j i q1 (by omega) (by omega))))
            have hn615 : Nd X593 nd 36 (-1) (-1) (-1) (-1) := (Nd.low hn11 hlw610 (by omega))
            have hm616 := Frs.mem hf611
            refine r_sti (f := (X593 12)) (j := nd) hx hb hE hP hD hS 12 (ma_12 G a _) rfl (mas_12 G a _) (by omega) (by decide) dX12_loop_130 (fun H locs hP hD hS => ?_)
            have hP : va_P G.1 pCl (mW G h0 a (upd (upd (upd (upd (upd (upd (upd F 15 0) 16 pl588) 27 (nI nd589)) 31 (nI wr591)) 64 (nI at586)) 65 (nI ne)) 66 (nI lk590)) (updA (stR X593 12 nd (nI r592)) 2 K)) _ := mW_to (F := F) (l1 := [(15, 0), (16, pl588), (27, (nI nd589)), (31, (nI wr591)), (64, (nI at586)), (65, (nI ne)), (66, (nI lk590))]) (l2 := [(15, 0), (16, pl588), (27, (nI nd589)), (31, (nI wr591)), (64, (nI at586)), (65, (nI ne)), (66, (nI lk590))]) (V := [0, pl588, (nI nd589), (nI wr591), (nI at586), (nI ne), (nI lk590), 0, pl588, (nI nd589), (nI wr591), (nI at586), (nI ne), (nI lk590)]) rfl rfl (show (updA (updA X593 2 K) 12 (upd (X593 12) nd (nI r592))) = (updA (stR X593 12 nd (nI r592)) 2 K) from updsA_eq2 (F := X593) (l1 := [(2, K), (12, (upd (X593 12) nd (nI r592)))]) (l2 := [(12, (upd (X593 12) nd (nI r592))), (2, K)]) (V := [K, (upd (X593 12) nd (nI r592)), (upd (X593 12) nd (nI r592)), K]) rfl rfl) hP
            have hD : va_D A (mW G h0 a (upd (upd (upd (upd (upd (upd (upd F 15 0) 16 pl588) 27 (nI nd589)) 31 (nI wr591)) 64 (nI at586)) 65 (nI ne)) 66 (nI lk590)) (updA (stR X593 12 nd (nI r592)) 2 K)) := mW_D hD
            have hkp617 : Kp B (stR X593 12 nd (nI r592)) wr591 T := (Kp.row hkp608 (by omega))
            have hlo618 : Low B (stR X593 12 nd (nI r592)) nd wr := (Low.st hlo613 (by omega) (by omega))
            have hf619 : Frs K T wr591 X593 nd nd589 nd [(nd, 0), (r592, 280)] := (Frs.join hf614 hf611 (by omega) (by omega) (by omega))
            have hn620 : Nd (stR X593 12 nd (nI r592)) nd 36 (nI r592) (-1) (-1) (-1) := (Nd.st hn615 (by omega))
            have hc621 : (stR X593 12 nd (nI r592)) 9 r592 = 32 := by rw [st_ne (by omega)]; exact hc612
            have hf622 : Frs K T wr591 (stR X593 12 nd (nI r592)) nd nd589 nd [(nd, (280 + 4 * (21 - ne)))] := (Frs.set (s := 1) (k := 36) hf619 (by omega) (by omega) (by simp) (by omega) (by omega) hn615.2.1 hn615.1 (by decide) ⟨by decide, by decide, by decide, (kcl_32_14 hc612), fun h => absurd h (by decide)⟩ (by omega) (by omega) (by decide) (fun h1 h2 => by omega))
            refine lv_goto (tgt := 139) hx hb dX12_loop_131 (by decide) ?_
            have hP : va_P G.1 pCl (mW G h0 a (upd (upd (upd (upd (upd (upd (upd F 15 0) 16 pl588) 27 (nI nd589)) 31 (nI wr591)) 64 (nI at586)) 65 (nI ne)) 66 (nI lk590)) (updA (stR X593 12 nd (nI r592)) 2 K)) _ := hP
            have hD : va_D A (mW G h0 a (upd (upd (upd (upd (upd (upd (upd F 15 0) 16 pl588) 27 (nI nd589)) 31 (nI wr591)) 64 (nI at586)) 65 (nI ne)) 66 (nI lk590)) (updA (stR X593 12 nd (nI r592)) 2 K)) := mW_D hD
            exact cut_a at586 nd589 wr591 lk590 pl588 (stR X593 12 nd (nI r592)) (nI r592) _ _ _ (by omega) (by omega) (by omega) (by omega) (by omega) (by omega) (by omega) (by omega) (by omega) hkp617 hlo618 (Frs.up hf622 (by omega)) hn620 hP hD hS (lv_sub hl [0, 1] rfl)
          · have e609 := e609
            refine r_sti (f := (X593 12)) (j := nd) hx hb hE hP hD hS 12 (ma_12 G a _) rfl (mas_12 G a _) (by omega) (by decide) dX12_loop_130 (fun H locs hP hD hS => ?_)
            have hP : va_P G.1 pCl (mW G h0 a (upd (upd (upd (upd (upd (upd (upd F 15 (nI fa587)) 16 pl588) 27 (nI nd589)) 31 (nI wr591)) 64 (nI at586)) 65 (nI ne)) 66 (nI lk590)) (updA (stR X593 12 nd (nI r592)) 2 K)) _ := mW_to (F := F) (l1 := [(15, (nI fa587)), (16, pl588), (27, (nI nd589)), (31, (nI wr591)), (64, (nI at586)), (65, (nI ne)), (66, (nI lk590))]) (l2 := [(15, (nI fa587)), (16, pl588), (27, (nI nd589)), (31, (nI wr591)), (64, (nI at586)), (65, (nI ne)), (66, (nI lk590))]) (V := [(nI fa587), pl588, (nI nd589), (nI wr591), (nI at586), (nI ne), (nI lk590), (nI fa587), pl588, (nI nd589), (nI wr591), (nI at586), (nI ne), (nI lk590)]) rfl rfl (show (updA (updA X593 2 K) 12 (upd (X593 12) nd (nI r592))) = (updA (stR X593 12 nd (nI r592)) 2 K) from updsA_eq2 (F := X593) (l1 := [(2, K), (12, (upd (X593 12) nd (nI r592)))]) (l2 := [(12, (upd (X593 12) nd (nI r592))), (2, K)]) (V := [K, (upd (X593 12) nd (nI r592)), (upd (X593 12) nd (nI r592)), K]) rfl rfl) hP
            have hD : va_D A (mW G h0 a (upd (upd (upd (upd (upd (upd (upd F 15 (nI fa587)) 16 pl588) 27 (nI nd589)) 31 (nI wr591)) 64 (nI at586)) 65 (nI ne)) 66 (nI lk590)) (updA (stR X593 12 nd (nI r592)) 2 K)) := mW_D hD
            have hkp623 : Kp B (stR X593 12 nd (nI r592)) wr591 T := (Kp.row hkp608 (by omega))
            refine lv_goto (tgt := 139) hx hb dX12_loop_131 (by decide) ?_
            refine lv_aload_n hx hb dX12_loop_139 rfl (lv_at hl 1 rfl) ?_
            refine lv_bipush (v := 59) hx hb dX12_loop_140 (by decide) ?_
            have hP : va_P G.1 pCl (mW G h0 a (upd (upd (upd (upd (upd (upd (upd (upd (upd F 15 (nI fa587)) 16 pl588) 27 (nI nd589)) 31 (nI wr591)) 64 (nI at586)) 65 (nI ne)) 66 (nI lk590)) 15 (nI fa587)) 64 (nI at586)) (updA (updA (stR X593 12 nd (nI r592)) 2 K) 2 K)) _ := mW_to (F := F) (l1 := [(15, (nI fa587)), (16, pl588), (27, (nI nd589)), (31, (nI wr591)), (64, (nI at586)), (65, (nI ne)), (66, (nI lk590))]) (l2 := [(15, (nI fa587)), (16, pl588), (27, (nI nd589)), (31, (nI wr591)), (64, (nI at586)), (65, (nI ne)), (66, (nI lk590)), (15, (nI fa587)), (64, (nI at586))]) (V := [(nI fa587), pl588, (nI nd589), (nI wr591), (nI at586), (nI ne), (nI lk590), (nI fa587), pl588, (nI nd589), (nI wr591), (nI at586), (nI ne), (nI lk590), (nI fa587), (nI at586)]) rfl rfl (show (updA (stR X593 12 nd (nI r592)) 2 K) = (updA (updA (stR X593 12 nd (nI r592)) 2 K) 2 K) from updsA_eq2 (F := X593) (l1 := [(12, (upd (X593 12) nd (nI r592))), (2, K)]) (l2 := [(12, (upd (X593 12) nd (nI r592))), (2, K), (2, K)]) (V := [(upd (X593 12) nd (nI r592)), K, (upd (X593 12) nd (nI r592)), K, K]) rfl rfl) hP
            have hD : va_D A (mW G h0 a (upd (upd (upd (upd (upd (upd (upd (upd (upd F 15 (nI fa587)) 16 pl588) 27 (nI nd589)) 31 (nI wr591)) 64 (nI at586)) 65 (nI ne)) 66 (nI lk590)) 15 (nI fa587)) 64 (nI at586)) (updA (updA (stR X593 12 nd (nI r592)) 2 K) 2 K)) := mW_D hD
            refine pc_V0 (G := G) (As := [.int 59]) (rest := []) hx hb hml hown hq hE hX pX0_al hP hD hS hA hl.1 (R_take l G h0 a (upd (upd (upd (upd (upd (upd (upd F 15 (nI fa587)) 16 pl588) 27 (nI nd589)) 31 (nI wr591)) 64 (nI at586)) 65 (nI ne)) 66 (nI lk590)) (updA (stR X593 12 nd (nI r592)) 2 K) at586 T fa587 K 59 (by omega) (by omega) hK (by omega) (by decide) (by decide)) (gV pw_1614 pw_1615 pw_1616 pw_1523 pw_1601) hV_X12_take 0 9 rfl rfl rfl rfl (Nat.le_of_ble_eq_true rfl) dX12_loop_142 ⟨Nat.le_of_ble_eq_true rfl, Nat.le_of_ble_eq_true rfl⟩ ⟨(by show 4 + 1 ≤ (26 * n + 43); omega), (by show 8 + (2 + 11) + 103 ≤ (2000 * n + 4300); omega)⟩ (fun v626 u624 H locs hw625 hP hD hS => ?_)
            obtain ⟨at627, fa628, pl629⟩ := u624
            obtain ⟨hw625, h630, h631, h632, h633, h634, h635, h636, h637⟩ := hw625
            have h630 : at586 ≤ at627 := h630
            have h631 : at627 ≤ T := h631
            have h632 : fa587 ≤ fa628 := h632
            have h633 : fa628 ≤ 100 := h633
            have h634 : If (0 < fa587) (at627 = at586 ∧ fa628 = fa587) := h634
            have h635 : at627 ≤ at586 + 1 := h635
            have h636 : at586 + 1 ≤ at627 + fa628 := h636
            have h637 : If (fa628 = 0) (K at586 = 59) := h637
            obtain rfl : v626 = none := hw625
            have hP : va_P G.1 pCl (mW G h0 a (upd (upd (upd (upd (upd (upd (upd F 15 (nI fa628)) 16 pl629) 27 (nI nd589)) 31 (nI wr591)) 64 (nI at627)) 65 (nI ne)) 66 (nI lk590)) (updA (stR X593 12 nd (nI r592)) 2 K)) _ := mW_to (F := F) (l1 := [(15, (nI fa587)), (16, pl588), (27, (nI nd589)), (31, (nI wr591)), (64, (nI at586)), (65, (nI ne)), (66, (nI lk590)), (15, (nI fa628)), (16, pl629), (64, (nI at627))]) (l2 := [(15, (nI fa628)), (16, pl629), (27, (nI nd589)), (31, (nI wr591)), (64, (nI at627)), (65, (nI ne)), (66, (nI lk590))]) (V := [(nI fa628), pl629, (nI nd589), (nI wr591), (nI at627), (nI ne), (nI lk590), (nI fa628), pl629, (nI at627), (nI fa628), pl629, (nI nd589), (nI wr591), (nI at627), (nI ne), (nI lk590)]) rfl rfl (show (updA (updA (stR X593 12 nd (nI r592)) 2 K) 2 K) = (updA (stR X593 12 nd (nI r592)) 2 K) from updsA_eq2 (F := X593) (l1 := [(12, (upd (X593 12) nd (nI r592))), (2, K), (2, K)]) (l2 := [(12, (upd (X593 12) nd (nI r592))), (2, K)]) (V := [(upd (X593 12) nd (nI r592)), K, K, (upd (X593 12) nd (nI r592)), K]) rfl rfl) hP
            have hD : va_D A (mW G h0 a (upd (upd (upd (upd (upd (upd (upd F 15 (nI fa628)) 16 pl629) 27 (nI nd589)) 31 (nI wr591)) 64 (nI at627)) 65 (nI ne)) 66 (nI lk590)) (updA (stR X593 12 nd (nI r592)) 2 K)) := mW_D hD
            refine W.widen (k := 0) (n := 0) (Nat.le_of_ble_eq_true rfl) (Nat.le_of_ble_eq_true rfl) ?_
            refine W.eq (g2 := F0 m 145 ls []) rfl ?_
            obtain ⟨n639, n638⟩ := h634 e609
            replace n639 := n639.symm
            subst n639
            replace n638 := n638.symm
            subst n638
            refine lv_aload_n hx hb dX12_loop_145 rfl (lv_at hl 1 rfl) ?_
            refine r_get (v := .int (nI fa587)) hx hb hown hq hE hP 15 350 tFX12_15 (by decide) pw_1594 rfl dX12_loop_146 ?_
            refine lv_if_ne (tgt := 171) hx hb dX12_loop_149 (by decide) (fun c640 => ?_) (fun c640 => (by have n641 : fa587 = 0 := (nI_eq (a := fa587) (b := 0) (by omega) (by omega)).mp c640; omega))
            refine lv_aload_n hx hb dX12_loop_171 rfl (lv_at hl 1 rfl) ?_
            refine lv_bipush (v := 59) hx hb dX12_loop_172 (by decide) ?_
            have hP : va_P G.1 pCl (mW G h0 a (upd (upd (upd (upd (upd (upd (upd (upd (upd F 15 (nI fa587)) 16 pl629) 27 (nI nd589)) 31 (nI wr591)) 64 (nI at586)) 65 (nI ne)) 66 (nI lk590)) 15 (nI fa587)) 64 (nI at586)) (updA (updA (stR X593 12 nd (nI r592)) 2 K) 2 K)) _ := hP
            have hD : va_D A (mW G h0 a (upd (upd (upd (upd (upd (upd (upd (upd (upd F 15 (nI fa587)) 16 pl629) 27 (nI nd589)) 31 (nI wr591)) 64 (nI at586)) 65 (nI ne)) 66 (nI lk590)) 15 (nI fa587)) 64 (nI at586)) (updA (updA (stR X593 12 nd (nI r592)) 2 K) 2 K)) := mW_D hD
            refine pc_V0 (G := G) (As := [.int 59]) (rest := []) hx hb hml hown hq hE hX pX0_al hP hD hS hA hl.1 (R_take l G h0 a (upd (upd (upd (upd (upd (upd (upd F 15 (nI fa587)) 16 pl629) 27 (nI nd589)) 31 (nI wr591)) 64 (nI at586)) 65 (nI ne)) 66 (nI lk590)) (updA (stR X593 12 nd (nI r592)) 2 K) at586 T fa587 K 59 (by omega) (by omega) hK (by omega) (by decide) (by decide)) (gV pw_1614 pw_1615 pw_1616 pw_1523 pw_1601) hV_X12_take 0 9 rfl rfl rfl rfl (Nat.le_of_ble_eq_true rfl) dX12_loop_174 ⟨Nat.le_of_ble_eq_true rfl, Nat.le_of_ble_eq_true rfl⟩ ⟨(by show 4 + 1 ≤ (26 * n + 43); omega), (by show 8 + (2 + 11) + 103 ≤ (2000 * n + 4300); omega)⟩ (fun v644 u642 H locs hw643 hP hD hS => ?_)
            obtain ⟨at645, fa646, pl647⟩ := u642
            obtain ⟨hw643, h648, h649, h650, h651, h652, h653, h654, h655⟩ := hw643
            have h648 : at586 ≤ at645 := h648
            have h649 : at645 ≤ T := h649
            have h650 : fa587 ≤ fa646 := h650
            have h651 : fa646 ≤ 100 := h651
            have h652 : If (0 < fa587) (at645 = at586 ∧ fa646 = fa587) := h652
            have h653 : at645 ≤ at586 + 1 := h653
            have h654 : at586 + 1 ≤ at645 + fa646 := h654
            have h655 : If (fa646 = 0) (K at586 = 59) := h655
            obtain rfl : v644 = none := hw643
            have hP : va_P G.1 pCl (mW G h0 a (upd (upd (upd (upd (upd (upd (upd F 15 (nI fa646)) 16 pl647) 27 (nI nd589)) 31 (nI wr591)) 64 (nI at645)) 65 (nI ne)) 66 (nI lk590)) (updA (stR X593 12 nd (nI r592)) 2 K)) _ := mW_to (F := F) (l1 := [(15, (nI fa587)), (16, pl629), (27, (nI nd589)), (31, (nI wr591)), (64, (nI at586)), (65, (nI ne)), (66, (nI lk590)), (15, (nI fa646)), (16, pl647), (64, (nI at645))]) (l2 := [(15, (nI fa646)), (16, pl647), (27, (nI nd589)), (31, (nI wr591)), (64, (nI at645)), (65, (nI ne)), (66, (nI lk590))]) (V := [(nI fa646), pl647, (nI nd589), (nI wr591), (nI at645), (nI ne), (nI lk590), (nI fa646), pl647, (nI at645), (nI fa646), pl647, (nI nd589), (nI wr591), (nI at645), (nI ne), (nI lk590)]) rfl rfl (show (updA (updA (stR X593 12 nd (nI r592)) 2 K) 2 K) = (updA (stR X593 12 nd (nI r592)) 2 K) from updsA_eq2 (F := X593) (l1 := [(12, (upd (X593 12) nd (nI r592))), (2, K), (2, K)]) (l2 := [(12, (upd (X593 12) nd (nI r592))), (2, K)]) (V := [(upd (X593 12) nd (nI r592)), K, K, (upd (X593 12) nd (nI r592)), K]) rfl rfl) hP
            have hD : va_D A (mW G h0 a (upd (upd (upd (upd (upd (upd (upd F 15 (nI fa646)) 16 pl647) 27 (nI nd589)) 31 (nI wr591)) 64 (nI at645)) 65 (nI ne)) 66 (nI lk590)) (updA (stR X593 12 nd (nI r592)) 2 K)) := mW_D hD
            refine W.widen (k := 0) (n := 0) (Nat.le_of_ble_eq_true rfl) (Nat.le_of_ble_eq_true rfl) ?_
            refine W.eq (g2 := F0 m 177 ls []) rfl ?_
            obtain ⟨n657, n656⟩ := h652 e609
            replace n657 := n657.symm
            subst n657
            replace n656 := n656.symm
            subst n656
            refine lv_aload_n hx hb dX12_loop_177 rfl (lv_at hl 1 rfl) ?_
            refine r_get (v := .int (nI fa587)) hx hb hown hq hE hP 15 350 tFX12_15 (by decide) pw_1594 rfl dX12_loop_178 ?_
            refine lv_if_ne (tgt := 219) hx hb dX12_loop_181 (by decide) (fun c658 => ?_) (fun c658 => (by have n659 : fa587 = 0 := (nI_eq (a := fa587) (b := 0) (by omega) (by omega)).mp c658; omega))
            refine lv_aload_n hx hb dX12_loop_219 rfl (lv_at hl 1 rfl) ?_
            refine lv_bipush (v := 41) hx hb dX12_loop_220 (by decide) ?_
            have hP : va_P G.1 pCl (mW G h0 a (upd (upd (upd (upd (upd (upd (upd (upd (upd F 15 (nI fa587)) 16 pl647) 27 (nI nd589)) 31 (nI wr591)) 64 (nI at586)) 65 (nI ne)) 66 (nI lk590)) 15 (nI fa587)) 64 (nI at586)) (updA (updA (stR X593 12 nd (nI r592)) 2 K) 2 K)) _ := hP
            have hD : va_D A (mW G h0 a (upd (upd (upd (upd (upd (upd (upd (upd (upd F 15 (nI fa587)) 16 pl647) 27 (nI nd589)) 31 (nI wr591)) 64 (nI at586)) 65 (nI ne)) 66 (nI lk590)) 15 (nI fa587)) 64 (nI at586)) (updA (updA (stR X593 12 nd (nI r592)) 2 K) 2 K)) := mW_D hD
            refine pc_V0 (G := G) (As := [.int 41]) (rest := []) hx hb hml hown hq hE hX pX0_al hP hD hS hA hl.1 (R_take l G h0 a (upd (upd (upd (upd (upd (upd (upd F 15 (nI fa587)) 16 pl647) 27 (nI nd589)) 31 (nI wr591)) 64 (nI at586)) 65 (nI ne)) 66 (nI lk590)) (updA (stR X593 12 nd (nI r592)) 2 K) at586 T fa587 K 41 (by omega) (by omega) hK (by omega) (by decide) (by decide)) (gV pw_1614 pw_1615 pw_1616 pw_1523 pw_1601) hV_X12_take 0 9 rfl rfl rfl rfl (Nat.le_of_ble_eq_true rfl) dX12_loop_222 ⟨Nat.le_of_ble_eq_true rfl, Nat.le_of_ble_eq_true rfl⟩ ⟨(by show 4 + 1 ≤ (26 * n + 43); omega), (by show 8 + (2 + 11) + 103 ≤ (2000 * n + 4300); omega)⟩ (fun v662 u660 H locs hw661 hP hD hS => ?_)
            obtain ⟨at663, fa664, pl665⟩ := u660
            obtain ⟨hw661, h666, h667, h668, h669, h670, h671, h672, h673⟩ := hw661
            have h666 : at586 ≤ at663 := h666
            have h667 : at663 ≤ T := h667
            have h668 : fa587 ≤ fa664 := h668
            have h669 : fa664 ≤ 100 := h669
            have h670 : If (0 < fa587) (at663 = at586 ∧ fa664 = fa587) := h670
            have h671 : at663 ≤ at586 + 1 := h671
            have h672 : at586 + 1 ≤ at663 + fa664 := h672
            have h673 : If (fa664 = 0) (K at586 = 41) := h673
            obtain rfl : v662 = none := hw661
            have hP : va_P G.1 pCl (mW G h0 a (upd (upd (upd (upd (upd (upd (upd F 15 (nI fa664)) 16 pl665) 27 (nI nd589)) 31 (nI wr591)) 64 (nI at663)) 65 (nI ne)) 66 (nI lk590)) (updA (stR X593 12 nd (nI r592)) 2 K)) _ := mW_to (F := F) (l1 := [(15, (nI fa587)), (16, pl647), (27, (nI nd589)), (31, (nI wr591)), (64, (nI at586)), (65, (nI ne)), (66, (nI lk590)), (15, (nI fa664)), (16, pl665), (64, (nI at663))]) (l2 := [(15, (nI fa664)), (16, pl665), (27, (nI nd589)), (31, (nI wr591)), (64, (nI at663)), (65, (nI ne)), (66, (nI lk590))]) (V := [(nI fa664), pl665, (nI nd589), (nI wr591), (nI at663), (nI ne), (nI lk590), (nI fa664), pl665, (nI at663), (nI fa664), pl665, (nI nd589), (nI wr591), (nI at663), (nI ne), (nI lk590)]) rfl rfl (show (updA (updA (stR X593 12 nd (nI r592)) 2 K) 2 K) = (updA (stR X593 12 nd (nI r592)) 2 K) from updsA_eq2 (F := X593) (l1 := [(12, (upd (X593 12) nd (nI r592))), (2, K), (2, K)]) (l2 := [(12, (upd (X593 12) nd (nI r592))), (2, K)]) (V := [(upd (X593 12) nd (nI r592)), K, K, (upd (X593 12) nd (nI r592)), K]) rfl rfl) hP
            have hD : va_D A (mW G h0 a (upd (upd (upd (upd (upd (upd (upd F 15 (nI fa664)) 16 pl665) 27 (nI nd589)) 31 (nI wr591)) 64 (nI at663)) 65 (nI ne)) 66 (nI lk590)) (updA (stR X593 12 nd (nI r592)) 2 K)) := mW_D hD
            refine W.widen (k := 0) (n := 0) (Nat.le_of_ble_eq_true rfl) (Nat.le_of_ble_eq_true rfl) ?_
            refine W.eq (g2 := F0 m 225 ls []) rfl ?_
            obtain ⟨n675, n674⟩ := h670 e609
            replace n675 := n675.symm
            subst n675
            replace n674 := n674.symm
            subst n674
            refine lv_aload_n hx hb dX12_loop_225 rfl (lv_at hl 1 rfl) ?_
            refine r_get (v := .ref (a 15)) hx hb hown hq hE hP 23 56 tFX12_23 (by decide) pw_1445 rfl dX12_loop_226 ?_
            refine lv_iload_n hx hb dX12_loop_229 rfl (lv_at hl 0 rfl) ?_
            refine lv_aload_n hx hb dX12_loop_230 rfl (lv_at hl 1 rfl) ?_
            have hP : va_P G.1 pCl (mW G h0 a (upd (upd (upd (upd (upd (upd (upd (upd (upd F 15 (nI fa587)) 16 pl665) 27 (nI nd589)) 31 (nI wr591)) 64 (nI at586)) 65 (nI ne)) 66 (nI lk590)) 15 (nI fa587)) 64 (nI at586)) (updA (updA (stR X593 12 nd (nI r592)) 2 K) 2 K)) _ := hP
            have hD : va_D A (mW G h0 a (upd (upd (upd (upd (upd (upd (upd (upd (upd F 15 (nI fa587)) 16 pl665) 27 (nI nd589)) 31 (nI wr591)) 64 (nI at586)) 65 (nI ne)) 66 (nI lk590)) 15 (nI fa587)) 64 (nI at586)) (updA (updA (stR X593 12 nd (nI r592)) 2 K) 2 K)) := mW_D hD
            refine pc_V0 (G := G) (As := []) (rest := [.int (nI nd), .ref (a 15)]) hx hb hml hown hq hE hX pX0_al hP hD hS hA hl.1 (RF_statement l G h0 a (upd (upd (upd (upd (upd (upd (upd F 15 (nI fa587)) 16 pl665) 27 (nI nd589)) 31 (nI wr591)) 64 (nI at586)) 65 (nI ne)) 66 (nI lk590)) (updA (stR X593 12 nd (nI r592)) 2 K) at586 T fa587 K (by omega) (by omega) hK (by omega) e609) (gV pw_1699 pw_1700 pw_1701 pw_1523 pw_1706) hV_X12_statement 0 9 rfl rfl rfl rfl (Nat.le_of_ble_eq_true rfl) dX12_loop_231 ⟨Nat.le_of_ble_eq_true rfl, Nat.le_of_ble_eq_true rfl⟩ ⟨(by show 2 + 1 ≤ (26 * n + 43); omega), (by show 8 + (3 + 11) + 60 ≤ (2000 * n + 4300); omega)⟩ (fun v678 u676 H locs hw677 hP hD hS => ?_)
            obtain rfl : v678 = some (.int 0) := hw677
            have hP : va_P G.1 pCl (mW G h0 a (upd (upd (upd (upd (upd (upd (upd F 15 (nI fa587)) 16 pl665) 27 (nI nd589)) 31 (nI wr591)) 64 (nI at586)) 65 (nI ne)) 66 (nI lk590)) (updA (stR X593 12 nd (nI r592)) 2 K)) _ := mW_to (F := F) (l1 := [(15, (nI fa587)), (16, pl665), (27, (nI nd589)), (31, (nI wr591)), (64, (nI at586)), (65, (nI ne)), (66, (nI lk590)), (15, (nI fa587)), (64, (nI at586))]) (l2 := [(15, (nI fa587)), (16, pl665), (27, (nI nd589)), (31, (nI wr591)), (64, (nI at586)), (65, (nI ne)), (66, (nI lk590))]) (V := [(nI fa587), pl665, (nI nd589), (nI wr591), (nI at586), (nI ne), (nI lk590), (nI fa587), (nI at586), (nI fa587), pl665, (nI nd589), (nI wr591), (nI at586), (nI ne), (nI lk590)]) rfl rfl (show (updA (updA (stR X593 12 nd (nI r592)) 2 K) 2 K) = (updA (stR X593 12 nd (nI r592)) 2 K) from updsA_eq2 (F := X593) (l1 := [(12, (upd (X593 12) nd (nI r592))), (2, K), (2, K)]) (l2 := [(12, (upd (X593 12) nd (nI r592))), (2, K)]) (V := [(upd (X593 12) nd (nI r592)), K, K, (upd (X593 12) nd (nI r592)), K]) rfl rfl) hP
            have hD : va_D A (mW G h0 a (upd (upd (upd (upd (upd (upd (upd F 15 (nI fa587)) 16 pl665) 27 (nI nd589)) 31 (nI wr591)) 64 (nI at586)) 65 (nI ne)) 66 (nI lk590)) (updA (stR X593 12 nd (nI r592)) 2 K)) := mW_D hD
            refine W.widen (k := 0) (n := 0) (Nat.le_of_ble_eq_true rfl) (Nat.le_of_ble_eq_true rfl) ?_
            refine W.eq (g2 := F0 m 234 ls [.int 0, .int (nI nd), .ref (a 15)]) rfl ?_
            refine r_sti (f := ((stR X593 12 nd (nI r592)) 15)) (j := nd) hx hb hE hP hD hS 15 (ma_15 G a _) rfl (mas_15 G a _) (by omega) (by decide) dX12_loop_234 (fun H locs hP hD hS => ?_)
            have hP : va_P G.1 pCl (mW G h0 a (upd (upd (upd (upd (upd (upd (upd F 15 (nI fa587)) 16 pl665) 27 (nI nd589)) 31 (nI wr591)) 64 (nI at586)) 65 (nI ne)) 66 (nI lk590)) (updA (stR (stR X593 12 nd (nI r592)) 15 nd 0) 2 K)) _ := mW_to (F := F) (l1 := [(15, (nI fa587)), (16, pl665), (27, (nI nd589)), (31, (nI wr591)), (64, (nI at586)), (65, (nI ne)), (66, (nI lk590))]) (l2 := [(15, (nI fa587)), (16, pl665), (27, (nI nd589)), (31, (nI wr591)), (64, (nI at586)), (65, (nI ne)), (66, (nI lk590))]) (V := [(nI fa587), pl665, (nI nd589), (nI wr591), (nI at586), (nI ne), (nI lk590), (nI fa587), pl665, (nI nd589), (nI wr591), (nI at586), (nI ne), (nI lk590)]) rfl rfl (show (updA (updA (stR X593 12 nd (nI r592)) 2 K) 15 (upd ((stR X593 12 nd (nI r592)) 15) nd 0)) = (updA (stR (stR X593 12 nd (nI r592)) 15 nd 0) 2 K) from updsA_eq2 (F := X593) (l1 := [(12, (upd (X593 12) nd (nI r592))), (2, K), (15, (upd ((stR X593 12 nd (nI r592)) 15) nd 0))]) (l2 := [(12, (upd (X593 12) nd (nI r592))), (15, (upd ((stR X593 12 nd (nI r592)) 15) nd 0)), (2, K)]) (V := [(upd (X593 12) nd (nI r592)), K, (upd ((stR X593 12 nd (nI r592)) 15) nd 0), (upd (X593 12) nd (nI r592)), (upd ((stR X593 12 nd (nI r592)) 15) nd 0), K]) rfl rfl) hP
            have hD : va_D A (mW G h0 a (upd (upd (upd (upd (upd (upd (upd F 15 (nI fa587)) 16 pl665) 27 (nI nd589)) 31 (nI wr591)) 64 (nI at586)) 65 (nI ne)) 66 (nI lk590)) (updA (stR (stR X593 12 nd (nI r592)) 15 nd 0) 2 K)) := mW_D hD
            have hkp679 : Kp B (stR (stR X593 12 nd (nI r592)) 15 nd 0) wr591 T := (Kp.row hkp623 (by omega))
            refine lv_iload_n hx hb dX12_loop_235 rfl (lv_at hl 0 rfl) ?_
            have hz680 : at0 ≤ at586 := (by omega)
            have hz681 : at586 ≤ T := (by omega)
            have hz682 : fa587 ≤ 100 := (by omega)
            have hz683 : nd ≤ nd589 := (by omega)
            have hz684 : nd589 + 2 * at0 ≤ nd + 2 * at586 + 100000 * fa587 := (by omega)
            have hz685 : nd589 + 2 * at0 ≤ nd + 2 * at586 + (60 * (21 - ne) + 40) := (by omega)
            have hz686 : wr ≤ wr591 := (by omega)
            have hz687 : wr591 + at0 ≤ wr + at586 := (by omega)
            have hz688 : lk ≤ lk590 := (by omega)
            have hz689 : lk590 ≤ 60 + 100 * fa587 := (by omega)
            have hz690 : at0 + 1 ≤ at586 + fa587 := (by omega)
            have hz691 : nd ≤ nd589 := (by omega)
            have hz692 : Kp B (stR (stR X593 12 nd (nI r592)) 15 nd 0) wr591 T := hkp679
            have hz693 : If (fa587 = 0) (Low B (stR (stR X593 12 nd (nI r592)) 15 nd 0) nd wr ∧ Frs K T wr591 (stR (stR X593 12 nd (nI r592)) 15 nd 0) nd nd589 20000 [(nd, (280 + 4 * (21 - ne)))] ∧ kcl 3 ((stR (stR X593 12 nd (nI r592)) 15 nd 0) 9 nd) = true) := (fun e => absurd e (by omega))
            have hP : va_P G.1 pCl (mW G h0 a (upd (upd (upd (upd (upd (upd (upd F 15 (nI fa587)) 16 pl665) 27 (nI nd589)) 31 (nI wr591)) 64 (nI at586)) 65 (nI ne)) 66 (nI lk590)) (updA (stR (stR X593 12 nd (nI r592)) 15 nd 0) 2 K)) _ := hP
            have hD : va_D A (mW G h0 a (upd (upd (upd (upd (upd (upd (upd F 15 (nI fa587)) 16 pl665) 27 (nI nd589)) 31 (nI wr591)) 64 (nI at586)) 65 (nI ne)) 66 (nI lk590)) (updA (stR (stR X593 12 nd (nI r592)) 15 nd 0) 2 K)) := mW_D hD
            exact W.iret (v := (nI nd)) hx hb hr (fun t9 ht9 hW9 => ⟨⟨_, (at586, fa587, pl665, nd589, lk590, wr591, nd, (stR (stR X593 12 nd (nI r592)) 15 nd 0)), rfl, ⟨rfl, hz680, hz681, hz682, hz683, hz684, hz685, hz686, hz687, hz688, hz689, hz690, hz691, hz692, hz693⟩, by rw [ht9]; exact hP, hD⟩, hS.F ht9⟩) hS.2.2 dX12_loop_236
      · have n694 : ¬ (r490 = 0) := fun h9 => c493 ((nI_eq (a := r490) (b := 0) (by omega) (by omega)).mpr h9)
        refine lv_aload_n hx hb dX12_loop_56 rfl (lv_at hl 1 rfl) ?_
        refine r_get (v := .int (nI at17)) hx hb hown hq hE hP 64 343 tFX12_64 (by decide) pw_1592 rfl dX12_loop_57 ?_
        refine lv_istore_n (lv' := [(2, .int (nI at17)), (1, .int (nI nd)), (0, .ref h0)]) hx hb dX12_loop_60 rfl hl (by decide) rfl (fun ls hl => ?_)
        refine lv_aload_n hx hb dX12_loop_61 rfl (lv_at hl 2 rfl) ?_
        have hP : va_P G.1 pCl (mW G h0 a (upd (upd (upd (upd (upd (upd (upd (upd (upd (upd F 15 0) 16 pl19) 27 (nI (nd + 1))) 31 (nI wr)) 64 (nI at17)) 65 (nI ne)) 66 (nI lk)) 15 (nI 0)) 31 (nI wr)) 64 (nI at17)) (updA (updA (updA X6 2 K) 2 K) 19 (X6 19))) _ := mW_to (F := F) (l1 := [(15, 0), (16, pl19), (27, (nI (nd + 1))), (31, (nI wr)), (64, (nI at17)), (65, (nI ne)), (66, (nI lk))]) (l2 := [(15, 0), (16, pl19), (27, (nI (nd + 1))), (31, (nI wr)), (64, (nI at17)), (65, (nI ne)), (66, (nI lk)), (15, (nI 0)), (31, (nI wr)), (64, (nI at17))]) (V := [(nI 0), pl19, (nI (nd + 1)), (nI wr), (nI at17), (nI ne), (nI lk), (nI 0), pl19, (nI (nd + 1)), (nI wr), (nI at17), (nI ne), (nI lk), (nI 0), (nI wr), (nI at17)]) rfl rfl (show (updA X6 2 K) = (updA (updA (updA X6 2 K) 2 K) 19 (X6 19)) from updsA_eq2 (F := X6) (l1 := [(2, K)]) (l2 := [(2, K), (2, K), (19, (X6 19))]) (V := [K, K, K, (X6 19)]) rfl rfl) hP
        have hD : va_D A (mW G h0 a (upd (upd (upd (upd (upd (upd (upd (upd (upd (upd F 15 0) 16 pl19) 27 (nI (nd + 1))) 31 (nI wr)) 64 (nI at17)) 65 (nI ne)) 66 (nI lk)) 15 (nI 0)) 31 (nI wr)) 64 (nI at17)) (updA (updA (updA X6 2 K) 2 K) 19 (X6 19))) := mW_D hD
        refine pc_V0 (G := G) (As := []) (rest := []) hx hb hml hown hq hE hX pX0_al hP hD hS hA hl.1 (R_typeHere l G h0 a (upd (upd (upd (upd (upd (upd (upd F 15 0) 16 pl19) 27 (nI (nd + 1))) 31 (nI wr)) 64 (nI at17)) 65 (nI ne)) 66 (nI lk)) (updA X6 2 K) at17 T 0 K wr (X6 19) (by omega) (by omega) hK (by omega) (by omega) (hkp8).2) (gV pw_1670 pw_1671 pw_1672 pw_1523 pw_1633) hV_X12_typeHere 0 9 rfl rfl rfl rfl (Nat.le_of_ble_eq_true rfl) dX12_loop_62 ⟨Nat.le_of_ble_eq_true rfl, Nat.le_of_ble_eq_true rfl⟩ ⟨(by show 5 + 1 ≤ (26 * n + 43); omega), (by show 8 + (2 + 11) + 124 ≤ (2000 * n + 4300); omega)⟩ (fun v697 u695 H locs hw696 hP hD hS => ?_)
        obtain ⟨at698, fa699, pl700, wr701, r702, yt703, yr704⟩ := u695
        obtain ⟨hw696, h705, h706, h707, h708, h709, h710, h711, h712, h713, h714, h715, h716, h717, h718⟩ := hw696
        have h705 : at17 ≤ at698 := h705
        have h706 : at698 ≤ T := h706
        have h707 : 0 ≤ fa699 := h707
        have h708 : fa699 ≤ 100 := h708
        have h709 : If (0 < 0) (at698 = at17 ∧ fa699 = 0) := h709
        have h710 : wr ≤ wr701 := h710
        have h711 : wr701 + at17 ≤ wr + at698 := h711
        have h712 : If (0 < 0) (wr701 = wr) := h712
        have h713 : r702 + 1 ≤ wr701 + 6000 * fa699 := h713
        have h714 : at17 + 1 ≤ at698 + fa699 := h714
        have h715 : tkRow yt703 wr701 T := h715
        have h716 : ∀ i : Nat, i < wr → yt703 i = (X6 19) i := h716
        have h717 : ∀ i : Nat, i < wr → yr704 i = (X6 20) i := h717
        have h718 : r702 ≤ wr := h718
        obtain rfl : v697 = some (.int (nI r702)) := hw696
        have hP : va_P G.1 pCl (mW G h0 a (upd (upd (upd (upd (upd (upd (upd F 15 (nI fa699)) 16 pl700) 27 (nI (nd + 1))) 31 (nI wr701)) 64 (nI at698)) 65 (nI ne)) 66 (nI lk)) (updA (updA (updA X6 2 K) 19 yt703) 20 yr704)) _ := mW_to (F := F) (l1 := [(15, 0), (16, pl19), (27, (nI (nd + 1))), (31, (nI wr)), (64, (nI at17)), (65, (nI ne)), (66, (nI lk)), (15, (nI fa699)), (16, pl700), (31, (nI wr701)), (64, (nI at698))]) (l2 := [(15, (nI fa699)), (16, pl700), (27, (nI (nd + 1))), (31, (nI wr701)), (64, (nI at698)), (65, (nI ne)), (66, (nI lk))]) (V := [(nI fa699), pl700, (nI (nd + 1)), (nI wr701), (nI at698), (nI ne), (nI lk), (nI fa699), pl700, (nI wr701), (nI at698), (nI fa699), pl700, (nI (nd + 1)), (nI wr701), (nI at698), (nI ne), (nI lk)]) rfl rfl (show (updA (updA (updA (updA X6 2 K) 2 K) 19 yt703) 20 yr704) = (updA (updA (updA X6 2 K) 19 yt703) 20 yr704) from updsA_eq2 (F := X6) (l1 := [(2, K), (2, K), (19, yt703), (20, yr704)]) (l2 := [(2, K), (19, yt703), (20, yr704)]) (V := [K, K, yt703, yr704, K, yt703, yr704]) rfl rfl) hP
        have hD : va_D A (mW G h0 a (upd (upd (upd (upd (upd (upd (upd F 15 (nI fa699)) 16 pl700) 27 (nI (nd + 1))) 31 (nI wr701)) 64 (nI at698)) 65 (nI ne)) 66 (nI lk)) (updA (updA (updA X6 2 K) 19 yt703) 20 yr704)) := mW_D hD
        refine W.widen (k := 0) (n := 0) (Nat.le_of_ble_eq_true rfl) (Nat.le_of_ble_eq_true rfl) ?_
        refine W.eq (g2 := F0 m 65 ls [.int (nI r702)]) rfl ?_
        have hP : va_P G.1 pCl (mW G h0 a (upd (upd (upd (upd (upd (upd (upd F 15 (nI fa699)) 16 pl700) 27 (nI (nd + 1))) 31 (nI wr701)) 64 (nI at698)) 65 (nI ne)) 66 (nI lk)) (updA (updA (updA X6 19 yt703) 20 yr704) 2 K)) _ := mW_to (F := F) (l1 := [(15, (nI fa699)), (16, pl700), (27, (nI (nd + 1))), (31, (nI wr701)), (64, (nI at698)), (65, (nI ne)), (66, (nI lk))]) (l2 := [(15, (nI fa699)), (16, pl700), (27, (nI (nd + 1))), (31, (nI wr701)), (64, (nI at698)), (65, (nI ne)), (66, (nI lk))]) (V := [(nI fa699), pl700, (nI (nd + 1)), (nI wr701), (nI at698), (nI ne), (nI lk), (nI fa699), pl700, (nI (nd + 1)), (nI wr701), (nI at698), (nI ne), (nI lk)]) rfl rfl (show (updA (updA (updA X6 2 K) 19 yt703) 20 yr704) = (updA (updA (updA X6 19 yt703) 20 yr704) 2 K) from updsA_eq2 (F := X6) (l1 := [(2, K), (19, yt703), (20, yr704)]) (l2 := [(19, yt703), (20, yr704), (2, K)]) (V := [K, yt703, yr704, yt703, yr704, K]) rfl rfl) hP
        have hD : va_D A (mW G h0 a (upd (upd (upd (upd (upd (upd (upd F 15 (nI fa699)) 16 pl700) 27 (nI (nd + 1))) 31 (nI wr701)) 64 (nI at698)) 65 (nI ne)) 66 (nI lk)) (updA (updA (updA X6 19 yt703) 20 yr704) 2 K)) := mW_D hD
        have hkp719 : Kp B (updA (updA X6 19 yt703) 20 yr704) wr701 T := (Kp.y hkp8 h715)
        rcases Nat.eq_zero_or_pos fa699 with e720 | e720
        · subst e720
          have hP : va_P G.1 pCl (mW G h0 a (upd (upd (upd (upd (upd (upd (upd F 15 0) 16 pl700) 27 (nI (nd + 1))) 31 (nI wr701)) 64 (nI at698)) 65 (nI ne)) 66 (nI lk)) (updA (updA (updA X6 19 yt703) 20 yr704) 2 K)) _ := hP
          have hD : va_D A (mW G h0 a (upd (upd (upd (upd (upd (upd (upd F 15 0) 16 pl700) 27 (nI (nd + 1))) 31 (nI wr701)) 64 (nI at698)) 65 (nI ne)) 66 (nI lk)) (updA (updA (updA X6 19 yt703) 20 yr704) 2 K)) := mW_D hD
          have hlo721 : Low B (updA (updA X6 19 yt703) 20 yr704) nd wr := (Low.y hlo9 (fun i z => h716 i (by omega)) (fun i z => h717 i (by omega)))
          have hf722 : Frs K T wr701 (updA (updA X6 19 yt703) 20 yr704) nd (nd + 1) nd [(nd, 0)] := (hf10.y (by omega))
          have hn723 : Nd (updA (updA X6 19 yt703) 20 yr704) nd 36 (-1) (-1) (-1) (-1) := (Nd.y hn11)
          refine lv_istore_n (lv' := [(3, .int (nI r702)), (2, .int (nI at17)), (1, .int (nI nd)), (0, .ref h0)]) hx hb dX12_loop_65 rfl hl (by decide) rfl (fun ls hl => ?_)
          refine lv_aload_n hx hb dX12_loop_66 rfl (lv_at hl 3 rfl) ?_
          have hP : va_P G.1 pCl (mW G h0 a (upd (upd (upd (upd (upd (upd (upd (upd (upd F 15 0) 16 pl700) 27 (nI (nd + 1))) 31 (nI wr701)) 64 (nI at698)) 65 (nI ne)) 66 (nI lk)) 15 (nI 0)) 64 (nI at698)) (updA (updA (updA (updA X6 19 yt703) 20 yr704) 2 K) 2 K)) _ := mW_to (F := F) (l1 := [(15, 0), (16, pl700), (27, (nI (nd + 1))), (31, (nI wr701)), (64, (nI at698)), (65, (nI ne)), (66, (nI lk))]) (l2 := [(15, 0), (16, pl700), (27, (nI (nd + 1))), (31, (nI wr701)), (64, (nI at698)), (65, (nI ne)), (66, (nI lk)), (15, (nI 0)), (64, (nI at698))]) (V := [(nI 0), pl700, (nI (nd + 1)), (nI wr701), (nI at698), (nI ne), (nI lk), (nI 0), pl700, (nI (nd + 1)), (nI wr701), (nI at698), (nI ne), (nI lk), (nI 0), (nI at698)]) rfl rfl (show (updA (updA (updA X6 19 yt703) 20 yr704) 2 K) = (updA (updA (updA (updA X6 19 yt703) 20 yr704) 2 K) 2 K) from updsA_eq2 (F := X6) (l1 := [(19, yt703), (20, yr704), (2, K)]) (l2 := [(19, yt703), (20, yr704), (2, K), (2, K)]) (V := [yt703, yr704, K, yt703, yr704, K, K]) rfl rfl) hP
          have hD : va_D A (mW G h0 a (upd (upd (upd (upd (upd (upd (upd (upd (upd F 15 0) 16 pl700) 27 (nI (nd + 1))) 31 (nI wr701)) 64 (nI at698)) 65 (nI ne)) 66 (nI lk)) 15 (nI 0)) 64 (nI at698)) (updA (updA (updA (updA X6 19 yt703) 20 yr704) 2 K) 2 K)) := mW_D hD
          refine pc_V0 (G := G) (As := []) (rest := []) hx hb hml hown hq hE hX pX0_al hP hD hS hA hl.1 (R_name l G h0 a (upd (upd (upd (upd (upd (upd (upd F 15 0) 16 pl700) 27 (nI (nd + 1))) 31 (nI wr701)) 64 (nI at698)) 65 (nI ne)) 66 (nI lk)) (updA (updA (updA X6 19 yt703) 20 yr704) 2 K) at698 T 0 K (by omega) (by omega) hK (by omega)) (gV pw_1618 pw_1619 pw_1620 pw_1523 pw_1613) hV_X12_name 0 9 rfl rfl rfl rfl (Nat.le_of_ble_eq_true rfl) dX12_loop_67 ⟨Nat.le_of_ble_eq_true rfl, Nat.le_of_ble_eq_true rfl⟩ ⟨(by show 5 + 1 ≤ (26 * n + 43); omega), (by show 8 + (2 + 11) + 124 ≤ (2000 * n + 4300); omega)⟩ (fun v726 u724 H locs hw725 hP hD hS => ?_)
          obtain ⟨at727, fa728, pl729⟩ := u724
          obtain ⟨hw725, h730, h731, h732, h733, h734, h735, h736, h737⟩ := hw725
          have h730 : at698 ≤ at727 := h730
          have h731 : at727 ≤ T := h731
          have h732 : 0 ≤ fa728 := h732
          have h733 : fa728 ≤ 100 := h733
          have h734 : If (0 < 0) (at727 = at698 ∧ fa728 = 0) := h734
          have h735 : at727 ≤ at698 + 1 := h735
          have h736 : at698 + 1 ≤ at727 + fa728 := h736
          have h737 : If (fa728 = 0) (K at698 = 1) := h737
          obtain rfl : v726 = some (.int (nI at698)) := hw725
          have hP : va_P G.1 pCl (mW G h0 a (upd (upd (upd (upd (upd (upd (upd F 15 (nI fa728)) 16 pl729) 27 (nI (nd + 1))) 31 (nI wr701)) 64 (nI at727)) 65 (nI ne)) 66 (nI lk)) (updA (updA (updA X6 19 yt703) 20 yr704) 2 K)) _ := mW_to (F := F) (l1 := [(15, 0), (16, pl700), (27, (nI (nd + 1))), (31, (nI wr701)), (64, (nI at698)), (65, (nI ne)), (66, (nI lk)), (15, (nI fa728)), (16, pl729), (64, (nI at727))]) (l2 := [(15, (nI fa728)), (16, pl729), (27, (nI (nd + 1))), (31, (nI wr701)), (64, (nI at727)), (65, (nI ne)), (66, (nI lk))]) (V := [(nI fa728), pl729, (nI (nd + 1)), (nI wr701), (nI at727), (nI ne), (nI lk), (nI fa728), pl729, (nI at727), (nI fa728), pl729, (nI (nd + 1)), (nI wr701), (nI at727), (nI ne), (nI lk)]) rfl rfl (show (updA (updA (updA (updA X6 19 yt703) 20 yr704) 2 K) 2 K) = (updA (updA (updA X6 19 yt703) 20 yr704) 2 K) from updsA_eq2 (F := X6) (l1 := [(19, yt703), (20, yr704), (2, K), (2, K)]) (l2 := [(19, yt703), (20, yr704), (2, K)]) (V := [yt703, yr704, K, K, yt703, yr704, K]) rfl rfl) hP
          have hD : va_D A (mW G h0 a (upd (upd (upd (upd (upd (upd (upd F 15 (nI fa728)) 16 pl729) 27 (nI (nd + 1))) 31 (nI wr701)) 64 (nI at727)) 65 (nI ne)) 66 (nI lk)) (updA (updA (updA X6 19 yt703) 20 yr704) 2 K)) := mW_D hD
          refine W.widen (k := 0) (n := 0) (Nat.le_of_ble_eq_true rfl) (Nat.le_of_ble_eq_true rfl) ?_
          refine W.eq (g2 := F0 m 70 ls [.int (nI at698)]) rfl ?_
          rcases Nat.eq_zero_or_pos fa728 with e738 | e738
          · subst e738
            have hP : va_P G.1 pCl (mW G h0 a (upd (upd (upd (upd (upd (upd (upd F 15 0) 16 pl729) 27 (nI (nd + 1))) 31 (nI wr701)) 64 (nI at727)) 65 (nI ne)) 66 (nI lk)) (updA (updA (updA X6 19 yt703) 20 yr704) 2 K)) _ := hP
            have hD : va_D A (mW G h0 a (upd (upd (upd (upd (upd (upd (upd F 15 0) 16 pl729) 27 (nI (nd + 1))) 31 (nI wr701)) 64 (nI at727)) 65 (nI ne)) 66 (nI lk)) (updA (updA (updA X6 19 yt703) 20 yr704) 2 K)) := mW_D hD
            refine lv_istore (lv' := [(4, .int (nI at698)), (3, .int (nI r702)), (2, .int (nI at17)), (1, .int (nI nd)), (0, .ref h0)]) hx hb dX12_loop_70 hl (by decide) rfl (fun ls hl => ?_)
            refine lv_aload_n hx hb dX12_loop_72 rfl (lv_at hl 4 rfl) ?_
            refine r_get (v := .ref (a 12)) hx hb hown hq hE hP 20 47 tFX12_20 (by decide) pw_1442 rfl dX12_loop_73 ?_
            refine lv_iload_n hx hb dX12_loop_76 rfl (lv_at hl 3 rfl) ?_
            refine lv_aload_n hx hb dX12_loop_77 rfl (lv_at hl 4 rfl) ?_
            refine lv_bipush (v := 30) hx hb dX12_loop_78 (by decide) ?_
            refine lv_iload_n hx hb dX12_loop_80 rfl (lv_at hl 2 rfl) ?_
            refine lv_iload hx hb dX12_loop_81 (lv_at hl 0 rfl) ?_
            refine lv_iload_n hx hb dX12_loop_83 rfl (lv_at hl 1 rfl) ?_
            refine lv_iconst (v := (-1)) hx hb dX12_loop_84 (by decide) ?_
            have hP : va_P G.1 pCl (mW G h0 a (upd (upd (upd (upd (upd (upd (upd (upd F 15 0) 16 pl729) 27 (nI (nd + 1))) 31 (nI wr701)) 64 (nI at727)) 65 (nI ne)) 66 (nI lk)) 27 (nI (nd + 1))) (updA (updA (updA X6 19 yt703) 20 yr704) 2 K)) _ := mW_to (F := F) (l1 := [(15, 0), (16, pl729), (27, (nI (nd + 1))), (31, (nI wr701)), (64, (nI at727)), (65, (nI ne)), (66, (nI lk))]) (l2 := [(15, 0), (16, pl729), (27, (nI (nd + 1))), (31, (nI wr701)), (64, (nI at727)), (65, (nI ne)), (66, (nI lk)), (27, (nI (nd + 1)))]) (V := [0, pl729, (nI (nd + 1)), (nI wr701), (nI at727), (nI ne), (nI lk), 0, pl729, (nI (nd + 1)), (nI wr701), (nI at727), (nI ne), (nI lk), (nI (nd + 1))]) rfl rfl rfl hP
            have hD : va_D A (mW G h0 a (upd (upd (upd (upd (upd (upd (upd (upd F 15 0) 16 pl729) 27 (nI (nd + 1))) 31 (nI wr701)) 64 (nI at727)) 65 (nI ne)) 66 (nI lk)) 27 (nI (nd + 1))) (updA (updA (updA X6 19 yt703) 20 yr704) 2 K)) := mW_D hD
            refine pc_V0 (G := G) (As := [.int 30, .int (nI at17), .int (nI at698), .int (nI r702), .int (-1)]) (rest := [.int (nI nd), .ref (a 12)]) hx hb hml hown hq hE hX pX0_al hP hD hS hA hl.1 (R_nodeB l G h0 a (upd (upd (upd (upd (upd (upd (upd F 15 0) 16 pl729) 27 (nI (nd + 1))) 31 (nI wr701)) 64 (nI at727)) 65 (nI ne)) 66 (nI lk)) (updA (updA X6 19 yt703) 20 yr704) 30 (nI at17) (nI at698) (nI r702) (-1) (nd + 1) K (by omega)) (gV pw_1650 pw_1651 pw_1652 pw_1523 pw_1589) hV_X12_node 0 9 rfl rfl rfl rfl (Nat.le_of_ble_eq_true rfl) dX12_loop_85 ⟨Nat.le_of_ble_eq_true rfl, Nat.le_of_ble_eq_true rfl⟩ ⟨(by show 2 + 1 ≤ (26 * n + 43); omega), (by show 8 + (7 + 11) + 60 ≤ (2000 * n + 4300); omega)⟩ (fun v741 u739 H locs hw740 hP hD hS => ?_)
            obtain ⟨X742, rfl⟩ : ∃ z, z = u739 := ⟨_, rfl⟩
            obtain ⟨hw740, h743⟩ := hw740
            have h743 : NewN (updA (updA X6 19 yt703) 20 yr704) X742 (nd + 1) 30 (nI at17) (nI at698) (nI r702) (-1) := h743
            obtain rfl : v741 = some (.int (nI (nd + 1))) := hw740
            have hP : va_P G.1 pCl (mW G h0 a (upd (upd (upd (upd (upd (upd (upd F 15 0) 16 pl729) 27 (nI ((nd + 1) + 1))) 31 (nI wr701)) 64 (nI at727)) 65 (nI ne)) 66 (nI lk)) (updA X742 2 K)) _ := mW_to (F := F) (l1 := [(15, 0), (16, pl729), (27, (nI (nd + 1))), (31, (nI wr701)), (64, (nI at727)), (65, (nI ne)), (66, (nI lk)), (27, (nI ((nd + 1) + 1)))]) (l2 := [(15, 0), (16, pl729), (27, (nI ((nd + 1) + 1))), (31, (nI wr701)), (64, (nI at727)), (65, (nI ne)), (66, (nI lk))]) (V := [0, pl729, (nI ((nd + 1) + 1)), (nI wr701), (nI at727), (nI ne), (nI lk), (nI ((nd + 1) + 1)), 0, pl729, (nI ((nd + 1) + 1)), (nI wr701), (nI at727), (nI ne), (nI lk)]) rfl rfl rfl hP
            have hD : va_D A (mW G h0 a (upd (upd (upd (upd (upd (upd (upd F 15 0) 16 pl729) 27 (nI ((nd + 1) + 1))) 31 (nI wr701)) 64 (nI at727)) 65 (nI ne)) 66 (nI lk)) (updA X742 2 K)) := mW_D hD
            refine W.widen (k := 0) (n := 0) (Nat.le_of_ble_eq_true rfl) (Nat.le_of_ble_eq_true rfl) ?_
            refine W.eq (g2 := F0 m 88 ls [.int (nI (nd + 1)), .int (nI nd), .ref (a 12)]) rfl ?_
            have hkp744 : Kp B X742 wr701 T := (Kp.new hkp719 h743)
            have hlo745 : Low B X742 nd wr := (Low.new hlo721 h743 (by omega))
            have hf746 : Frs K T wr701 X742 nd (nd + 1) nd [(nd, 0)] := (Frs.same hf722 (by omega) (fun j i q1 q2 q3 q4 => (h743.2.1 j i (by omega))))
            have hn747 : Nd X742 nd 36 (-1) (-1) (-1) (-1) := (Nd.new hn723 h743 (by omega))
            have hf748 : Frs K T wr701 X742 (nd + 1) ((nd + 1) + 1) (nd + 1) [((nd + 1), 0)] := (Frs.new0 (k := 30) Frs.nil (Nat.le_refl _) (Nat.le_refl _) h743 rfl (by decide) (by decide) (by omega) (by omega) (fun e => absurd e (by decide)) ⟨fun _ => ⟨r702, rfl, by omega⟩, fun e => absurd e (by decide), fun e => absurd (by decide) e⟩ (newOK.m1 (by decide)) (newOK.m1 (by decide)) (newOK.m1 (by decide)))
            have hn749 : Nd X742 (nd + 1) 30 (nI r702) (-1) (-1) (-1) := (NewN.toNd h743)
            have hf750 : Frs K T wr701 X742 (nd + 1) ((nd + 1) + 1) 20000 [((nd + 1), 0)] := (Frs.fin (k := 30) hf748 hn749 rfl (by decide) (fun h => absurd h (by decide)) (fun h => absurd h (by decide)) (fun h => absurd h (by decide)) (fun h => absurd h (by decide)))
            refine r_sti (f := (X742 12)) (j := nd) hx hb hE hP hD hS 12 (ma_12 G a _) rfl (mas_12 G a _) (by omega) (by decide) dX12_loop_88 (fun H locs hP hD hS => ?_)
            have hP : va_P G.1 pCl (mW G h0 a (upd (upd (upd (upd (upd (upd (upd F 15 0) 16 pl729) 27 (nI ((nd + 1) + 1))) 31 (nI wr701)) 64 (nI at727)) 65 (nI ne)) 66 (nI lk)) (updA (stR X742 12 nd (nI (nd + 1))) 2 K)) _ := mW_to (F := F) (l1 := [(15, 0), (16, pl729), (27, (nI ((nd + 1) + 1))), (31, (nI wr701)), (64, (nI at727)), (65, (nI ne)), (66, (nI lk))]) (l2 := [(15, 0), (16, pl729), (27, (nI ((nd + 1) + 1))), (31, (nI wr701)), (64, (nI at727)), (65, (nI ne)), (66, (nI lk))]) (V := [0, pl729, (nI ((nd + 1) + 1)), (nI wr701), (nI at727), (nI ne), (nI lk), 0, pl729, (nI ((nd + 1) + 1)), (nI wr701), (nI at727), (nI ne), (nI lk)]) rfl rfl (show (updA (updA X742 2 K) 12 (upd (X742 12) nd (nI (nd + 1)))) = (updA (stR X742 12 nd (nI (nd + 1))) 2 K) from updsA_eq2 (F := X742) (l1 := [(2, K), (12, (upd (X742 12) nd (nI (nd + 1))))]) (l2 := [(12, (upd (X742 12) nd (nI (nd + 1)))), (2, K)]) (V := [K, (upd (X742 12) nd (nI (nd + 1))), (upd (X742 12) nd (nI (nd + 1))), K]) rfl rfl) hP
            have hD : va_D A (mW G h0 a (upd (upd (upd (upd (upd (upd (upd F 15 0) 16 pl729) 27 (nI ((nd + 1) + 1))) 31 (nI wr701)) 64 (nI at727)) 65 (nI ne)) 66 (nI lk)) (updA (stR X742 12 nd (nI (nd + 1))) 2 K)) := mW_D hD
            have hkp751 : Kp B (stR X742 12 nd (nI (nd + 1))) wr701 T := (Kp.row hkp744 (by omega))
            have hlo752 : Low B (stR X742 12 nd (nI (nd + 1))) nd wr := (Low.st hlo745 (by omega) (by omega))
            have hf753 : Frs K T wr701 X742 nd ((nd + 1) + 1) nd [(nd, 0), ((nd + 1), 0)] := (Frs.join hf746 hf750 (by omega) (by omega) (by omega))
            have hn754 : Nd (stR X742 12 nd (nI (nd + 1))) nd 36 (nI (nd + 1)) (-1) (-1) (-1) := (Nd.st hn747 (by omega))
            have hn755 : Nd (stR X742 12 nd (nI (nd + 1))) (nd + 1) 30 (nI r702) (-1) (-1) (-1) := (Nd.stn hn749 (by omega))
            have hf756 : Frs K T wr701 (stR X742 12 nd (nI (nd + 1))) nd ((nd + 1) + 1) nd [(nd, (280 + 4 * (21 - ne)))] := (Frs.set (s := 1) (k := 36) hf753 (by omega) (by omega) (by simp) (by omega) (by omega) hn747.2.1 hn747.1 (by decide) ⟨by decide, by decide, by decide, (by rw [hn749.1]; decide), fun h => absurd h (by decide)⟩ (by omega) (by omega) (by decide) (fun h1 h2 => by omega))
            refine lv_aload_n hx hb dX12_loop_89 rfl (lv_at hl 4 rfl) ?_
            refine lv_bipush (v := 61) hx hb dX12_loop_90 (by decide) ?_
            have hP : va_P G.1 pCl (mW G h0 a (upd (upd (upd (upd (upd (upd (upd (upd (upd F 15 0) 16 pl729) 27 (nI ((nd + 1) + 1))) 31 (nI wr701)) 64 (nI at727)) 65 (nI ne)) 66 (nI lk)) 15 (nI 0)) 64 (nI at727)) (updA (updA (stR X742 12 nd (nI (nd + 1))) 2 K) 2 K)) _ := mW_to (F := F) (l1 := [(15, 0), (16, pl729), (27, (nI ((nd + 1) + 1))), (31, (nI wr701)), (64, (nI at727)), (65, (nI ne)), (66, (nI lk))]) (l2 := [(15, 0), (16, pl729), (27, (nI ((nd + 1) + 1))), (31, (nI wr701)), (64, (nI at727)), (65, (nI ne)), (66, (nI lk)), (15, (nI 0)), (64, (nI at727))]) (V := [(nI 0), pl729, (nI ((nd + 1) + 1)), (nI wr701), (nI at727), (nI ne), (nI lk), (nI 0), pl729, (nI ((nd + 1) + 1)), (nI wr701), (nI at727), (nI ne), (nI lk), (nI 0), (nI at727)]) rfl rfl (show (updA (stR X742 12 nd (nI (nd + 1))) 2 K) = (updA (updA (stR X742 12 nd (nI (nd + 1))) 2 K) 2 K) from updsA_eq2 (F := X742) (l1 := [(12, (upd (X742 12) nd (nI (nd + 1)))), (2, K)]) (l2 := [(12, (upd (X742 12) nd (nI (nd + 1)))), (2, K), (2, K)]) (V := [(upd (X742 12) nd (nI (nd + 1))), K, (upd (X742 12) nd (nI (nd + 1))), K, K]) rfl rfl) hP
            have hD : va_D A (mW G h0 a (upd (upd (upd (upd (upd (upd (upd (upd (upd F 15 0) 16 pl729) 27 (nI ((nd + 1) + 1))) 31 (nI wr701)) 64 (nI at727)) 65 (nI ne)) 66 (nI lk)) 15 (nI 0)) 64 (nI at727)) (updA (updA (stR X742 12 nd (nI (nd + 1))) 2 K) 2 K)) := mW_D hD
            refine pc_V0 (G := G) (As := [.int 61]) (rest := []) hx hb hml hown hq hE hX pX0_al hP hD hS hA hl.1 (R_take l G h0 a (upd (upd (upd (upd (upd (upd (upd F 15 0) 16 pl729) 27 (nI ((nd + 1) + 1))) 31 (nI wr701)) 64 (nI at727)) 65 (nI ne)) 66 (nI lk)) (updA (stR X742 12 nd (nI (nd + 1))) 2 K) at727 T 0 K 61 (by omega) (by omega) hK (by omega) (by decide) (by decide)) (gV pw_1614 pw_1615 pw_1616 pw_1523 pw_1601) hV_X12_take 0 9 rfl rfl rfl rfl (Nat.le_of_ble_eq_true rfl) dX12_loop_92 ⟨Nat.le_of_ble_eq_true rfl, Nat.le_of_ble_eq_true rfl⟩ ⟨(by show 4 + 1 ≤ (26 * n + 43); omega), (by show 8 + (2 + 11) + 103 ≤ (2000 * n + 4300); omega)⟩ (fun v759 u757 H locs hw758 hP hD hS => ?_)
            obtain ⟨at760, fa761, pl762⟩ := u757
            obtain ⟨hw758, h763, h764, h765, h766, h767, h768, h769, h770⟩ := hw758
            have h763 : at727 ≤ at760 := h763
            have h764 : at760 ≤ T := h764
            have h765 : 0 ≤ fa761 := h765
            have h766 : fa761 ≤ 100 := h766
            have h767 : If (0 < 0) (at760 = at727 ∧ fa761 = 0) := h767
            have h768 : at760 ≤ at727 + 1 := h768
            have h769 : at727 + 1 ≤ at760 + fa761 := h769
            have h770 : If (fa761 = 0) (K at727 = 61) := h770
            obtain rfl : v759 = none := hw758
            have hP : va_P G.1 pCl (mW G h0 a (upd (upd (upd (upd (upd (upd (upd F 15 (nI fa761)) 16 pl762) 27 (nI ((nd + 1) + 1))) 31 (nI wr701)) 64 (nI at760)) 65 (nI ne)) 66 (nI lk)) (updA (stR X742 12 nd (nI (nd + 1))) 2 K)) _ := mW_to (F := F) (l1 := [(15, 0), (16, pl729), (27, (nI ((nd + 1) + 1))), (31, (nI wr701)), (64, (nI at727)), (65, (nI ne)), (66, (nI lk)), (15, (nI fa761)), (16, pl762), (64, (nI at760))]) (l2 := [(15, (nI fa761)), (16, pl762), (27, (nI ((nd + 1) + 1))), (31, (nI wr701)), (64, (nI at760)), (65, (nI ne)), (66, (nI lk))]) (V := [(nI fa761), pl762, (nI ((nd + 1) + 1)), (nI wr701), (nI at760), (nI ne), (nI lk), (nI fa761), pl762, (nI at760), (nI fa761), pl762, (nI ((nd + 1) + 1)), (nI wr701), (nI at760), (nI ne), (nI lk)]) rfl rfl (show (updA (updA (stR X742 12 nd (nI (nd + 1))) 2 K) 2 K) = (updA (stR X742 12 nd (nI (nd + 1))) 2 K) from updsA_eq2 (F := X742) (l1 := [(12, (upd (X742 12) nd (nI (nd + 1)))), (2, K), (2, K)]) (l2 := [(12, (upd (X742 12) nd (nI (nd + 1)))), (2, K)]) (V := [(upd (X742 12) nd (nI (nd + 1))), K, K, (upd (X742 12) nd (nI (nd + 1))), K]) rfl rfl) hP
            have hD : va_D A (mW G h0 a (upd (upd (upd (upd (upd (upd (upd F 15 (nI fa761)) 16 pl762) 27 (nI ((nd + 1) + 1))) 31 (nI wr701)) 64 (nI at760)) 65 (nI ne)) 66 (nI lk)) (updA (stR X742 12 nd (nI (nd + 1))) 2 K)) := mW_D hD
            refine W.widen (k := 0) (n := 0) (Nat.le_of_ble_eq_true rfl) (Nat.le_of_ble_eq_true rfl) ?_
            refine W.eq (g2 := F0 m 95 ls []) rfl ?_
            rcases Nat.eq_zero_or_pos fa761 with e771 | e771
            · subst e771
              have hP : va_P G.1 pCl (mW G h0 a (upd (upd (upd (upd (upd (upd (upd F 15 0) 16 pl762) 27 (nI ((nd + 1) + 1))) 31 (nI wr701)) 64 (nI at760)) 65 (nI ne)) 66 (nI lk)) (updA (stR X742 12 nd (nI (nd + 1))) 2 K)) _ := hP
              have hD : va_D A (mW G h0 a (upd (upd (upd (upd (upd (upd (upd F 15 0) 16 pl762) 27 (nI ((nd + 1) + 1))) 31 (nI wr701)) 64 (nI at760)) 65 (nI ne)) 66 (nI lk)) (updA (stR X742 12 nd (nI (nd + 1))) 2 K)) := mW_D hD
              refine lv_aload_n hx hb dX12_loop_95 rfl (lv_at hl 4 rfl) ?_
              refine r_get (v := .ref (a 13)) hx hb hown hq hE hP 21 50 tFX12_21 (by decide) pw_1443 rfl dX12_loop_96 ?_
              refine lv_aload_n hx hb dX12_loop_99 rfl (lv_at hl 4 rfl) ?_
              refine r_get (v := .ref (a 12)) hx hb hown hq hE hP 20 47 tFX12_20 (by decide) pw_1442 rfl dX12_loop_100 ?_
              refine lv_iload_n hx hb dX12_loop_103 rfl (lv_at hl 3 rfl) ?_
              refine r_ldi (f := ((stR X742 12 nd (nI (nd + 1))) 12)) (j := nd) hx hb hE hP 12 (ma_12 G a _) rfl (by omega) (by decide) dX12_loop_104 ?_
              refine lv_topi (fun x772 e773 => ?_)
              obtain rfl : x772 = nI (nd + 1) := e773.trans st_eq
              refine lv_aload_n hx hb dX12_loop_105 rfl (lv_at hl 4 rfl) ?_
              have hP : va_P G.1 pCl (mW G h0 a (upd (upd (upd (upd (upd (upd (upd (upd (upd (upd (upd (upd (upd F 15 0) 16 pl762) 27 (nI ((nd + 1) + 1))) 31 (nI wr701)) 64 (nI at760)) 65 (nI ne)) 66 (nI lk)) 15 0) 27 (nI ((nd + 1) + 1))) 31 (nI wr701)) 64 (nI at760)) 65 (nI ne)) 66 (nI lk)) (updA (stR X742 12 nd (nI (nd + 1))) 2 K)) _ := mW_to (F := F) (l1 := [(15, 0), (16, pl762), (27, (nI ((nd + 1) + 1))), (31, (nI wr701)), (64, (nI at760)), (65, (nI ne)), (66, (nI lk))]) (l2 := [(15, 0), (16, pl762), (27, (nI ((nd + 1) + 1))), (31, (nI wr701)), (64, (nI at760)), (65, (nI ne)), (66, (nI lk)), (15, 0), (27, (nI ((nd + 1) + 1))), (31, (nI wr701)), (64, (nI at760)), (65, (nI ne)), (66, (nI lk))]) (V := [0, pl762, (nI ((nd + 1) + 1)), (nI wr701), (nI at760), (nI ne), (nI lk), 0, pl762, (nI ((nd + 1) + 1)), (nI wr701), (nI at760), (nI ne), (nI lk), 0, (nI ((nd + 1) + 1)), (nI wr701), (nI at760), (nI ne), (nI lk)]) rfl rfl rfl hP
              have hD : va_D A (mW G h0 a (upd (upd (upd (upd (upd (upd (upd (upd (upd (upd (upd (upd (upd F 15 0) 16 pl762) 27 (nI ((nd + 1) + 1))) 31 (nI wr701)) 64 (nI at760)) 65 (nI ne)) 66 (nI lk)) 15 0) 27 (nI ((nd + 1) + 1))) 31 (nI wr701)) 64 (nI at760)) 65 (nI ne)) 66 (nI lk)) (updA (stR X742 12 nd (nI (nd + 1))) 2 K)) := mW_D hD
              refine pc_V0 (G := G) (As := []) (rest := [.int (nI (nd + 1)), .ref (a 13)]) hx hb hml hown hq hE hX pX0_al hP hD hS hA hl.1 (hEc h0 a (upd (upd (upd (upd (upd (upd (upd F 15 0) 16 pl762) 27 (nI ((nd + 1) + 1))) 31 (nI wr701)) 64 (nI at760)) 65 (nI ne)) 66 (nI lk)) (stR X742 12 nd (nI (nd + 1))) at760 T ne ((nd + 1) + 1) wr701 lk K (by omega) (by omega) hK (by omega) (by omega) (by omega) (by omega) (hkp751).2 (by omega)) (gV pw_1640 pw_1641 pw_1642 pw_1523 pw_1656) hV_X12_choice 0 9 rfl rfl rfl rfl (Nat.le_of_ble_eq_true rfl) dX12_loop_106 ⟨Nat.le_of_ble_eq_true rfl, Nat.le_of_ble_eq_true rfl⟩ ⟨(by show (20 * n + 27) + 1 ≤ (26 * n + 43); omega), (by show 8 + (4 + 11) + (1000 * n + 40 * 27) ≤ (2000 * n + 4300); omega)⟩ (fun v776 u774 H locs hw775 hP hD hS => ?_)
              obtain ⟨at777, fa778, pl779, nd780, lk781, wr782, r783, X784⟩ := u774
              obtain ⟨hw775, h785, h786, h787, h788, h789, h790, h791, h792, h793, h794, h795, h796, h797, h798⟩ := hw775
              have h785 : at760 ≤ at777 := h785
              have h786 : at777 ≤ T := h786
              have h787 : fa778 ≤ 100 := h787
              have h788 : ((nd + 1) + 1) ≤ nd780 := h788
              have h789 : nd780 + 2 * at760 ≤ ((nd + 1) + 1) + 2 * at777 + 100000 * fa778 := h789
              have h790 : nd780 + 2 * at760 ≤ ((nd + 1) + 1) + 2 * at777 + 40 * (21 - ne) := h790
              have h791 : wr701 ≤ wr782 := h791
              have h792 : wr782 + at760 ≤ wr701 + at777 := h792
              have h793 : lk ≤ lk781 := h793
              have h794 : lk781 ≤ 60 + 100 * fa778 := h794
              have h795 : at760 + 1 ≤ at777 + fa778 := h795
              have h796 : r783 ≤ nd780 := h796
              have h797 : Kp (stR X742 12 nd (nI (nd + 1))) X784 wr782 T := h797
              have h798 : If (fa778 = 0) (Low (stR X742 12 nd (nI (nd + 1))) X784 ((nd + 1) + 1) wr701 ∧ Frs K T wr782 X784 ((nd + 1) + 1) nd780 20000 [(r783, (211 + lk781 - (10 * ne + lk)))] ∧ kcl 1 (X784 9 r783) = true) := h798
              obtain rfl : v776 = some (.int (nI r783)) := hw775
              have hP : va_P G.1 pCl (mW G h0 a (upd (upd (upd (upd (upd (upd (upd F 15 (nI fa778)) 16 pl779) 27 (nI nd780)) 31 (nI wr782)) 64 (nI at777)) 65 (nI ne)) 66 (nI lk781)) (updA X784 2 K)) _ := mW_to (F := F) (l1 := [(15, 0), (16, pl762), (27, (nI ((nd + 1) + 1))), (31, (nI wr701)), (64, (nI at760)), (65, (nI ne)), (66, (nI lk)), (15, (nI fa778)), (16, pl779), (27, (nI nd780)), (31, (nI wr782)), (64, (nI at777)), (65, (nI ne)), (66, (nI lk781))]) (l2 := [(15, (nI fa778)), (16, pl779), (27, (nI nd780)), (31, (nI wr782)), (64, (nI at777)), (65, (nI ne)), (66, (nI lk781))]) (V := [(nI fa778), pl779, (nI nd780), (nI wr782), (nI at777), (nI ne), (nI lk781), (nI fa778), pl779, (nI nd780), (nI wr782), (nI at777), (nI ne), (nI lk781), (nI fa778), pl779, (nI nd780), (nI wr782), (nI at777), (nI ne), (nI lk781)]) rfl rfl rfl hP
              have hD : va_D A (mW G h0 a (upd (upd (upd (upd (upd (upd (upd F 15 (nI fa778)) 16 pl779) 27 (nI nd780)) 31 (nI wr782)) 64 (nI at777)) 65 (nI ne)) 66 (nI lk781)) (updA X784 2 K)) := mW_D hD
              refine W.widen (k := 0) (n := 0) (Nat.le_of_ble_eq_true rfl) (Nat.le_of_ble_eq_true rfl) ?_
              refine W.eq (g2 := F0 m 109 ls [.int (nI r783), .int (nI (nd + 1)), .ref (a 13)]) rfl ?_
              have hkp799 : Kp B X784 wr782 T := (Kp.trans hkp751 h797)
              rcases Nat.eq_zero_or_pos fa778 with e800 | e800
              · subst e800
                have hP : va_P G.1 pCl (mW G h0 a (upd (upd (upd (upd (upd (upd (upd F 15 0) 16 pl779) 27 (nI nd780)) 31 (nI wr782)) 64 (nI at777)) 65 (nI ne)) 66 (nI lk781)) (updA X784 2 K)) _ := hP
                have hD : va_D A (mW G h0 a (upd (upd (upd (upd (upd (upd (upd F 15 0) 16 pl779) 27 (nI nd780)) 31 (nI wr782)) 64 (nI at777)) 65 (nI ne)) 66 (nI lk781)) (updA X784 2 K)) := mW_D hD
                obtain ⟨hlw801, hf802, hc803⟩ := h798 rfl
                have hlo804 : Low B X784 nd wr := (Low.trans hlo752 hlw801 (by omega) (by omega))
                have hf805 : Frs K T wr782 X784 nd ((nd + 1) + 1) nd [(nd, (280 + 4 * (21 - ne)))] := (Frs.same hf756 (by omega) (fun j i q1 q2 q3 q4 => (hlw801.1 j i q1 (by omega) (by omega))))
                have hn806 : Nd X784 nd 36 (nI (nd + 1)) (-1) (-1) (-1) := (Nd.low hn754 hlw801 (by omega))
                have hn807 : Nd X784 (nd + 1) 30 (nI r702) (-1) (-1) (-1) := (Nd.low hn755 hlw801 (by omega))
                have hm808 := Frs.mem hf802
                refine r_sti (f := (X784 13)) (j := (nd + 1)) hx hb hE hP hD hS 13 (ma_13 G a _) rfl (mas_13 G a _) (by omega) (by decide) dX12_loop_109 (fun H locs hP hD hS => ?_)
                have hP : va_P G.1 pCl (mW G h0 a (upd (upd (upd (upd (upd (upd (upd F 15 0) 16 pl779) 27 (nI nd780)) 31 (nI wr782)) 64 (nI at777)) 65 (nI ne)) 66 (nI lk781)) (updA (stR X784 13 (nd + 1) (nI r783)) 2 K)) _ := mW_to (F := F) (l1 := [(15, 0), (16, pl779), (27, (nI nd780)), (31, (nI wr782)), (64, (nI at777)), (65, (nI ne)), (66, (nI lk781))]) (l2 := [(15, 0), (16, pl779), (27, (nI nd780)), (31, (nI wr782)), (64, (nI at777)), (65, (nI ne)), (66, (nI lk781))]) (V := [0, pl779, (nI nd780), (nI wr782), (nI at777), (nI ne), (nI lk781), 0, pl779, (nI nd780), (nI wr782), (nI at777), (nI ne), (nI lk781)]) rfl rfl (show (updA (updA X784 2 K) 13 (upd (X784 13) (nd + 1) (nI r783))) = (updA (stR X784 13 (nd + 1) (nI r783)) 2 K) from updsA_eq2 (F := X784) (l1 := [(2, K), (13, (upd (X784 13) (nd + 1) (nI r783)))]) (l2 := [(13, (upd (X784 13) (nd + 1) (nI r783))), (2, K)]) (V := [K, (upd (X784 13) (nd + 1) (nI r783)), (upd (X784 13) (nd + 1) (nI r783)), K]) rfl rfl) hP
                have hD : va_D A (mW G h0 a (upd (upd (upd (upd (upd (upd (upd F 15 0) 16 pl779) 27 (nI nd780)) 31 (nI wr782)) 64 (nI at777)) 65 (nI ne)) 66 (nI lk781)) (updA (stR X784 13 (nd + 1) (nI r783)) 2 K)) := mW_D hD
                have hkp809 : Kp B (stR X784 13 (nd + 1) (nI r783)) wr782 T := (Kp.row hkp799 (by omega))
                have hlo810 : Low B (stR X784 13 (nd + 1) (nI r783)) nd wr := (Low.st hlo804 (by omega) (by omega))
                have hf811 : Frs K T wr782 X784 nd nd780 nd [(nd, (280 + 4 * (21 - ne))), (r783, (211 + lk781 - (10 * ne + lk)))] := (Frs.join hf805 hf802 (by omega) (by omega) (by omega))
                have hn812 : Nd (stR X784 13 (nd + 1) (nI r783)) nd 36 (nI (nd + 1)) (-1) (-1) (-1) := (Nd.stn hn806 (by omega))
                have hn813 : Nd (stR X784 13 (nd + 1) (nI r783)) (nd + 1) 30 (nI r702) (nI r783) (-1) (-1) := (Nd.st hn807 (by omega))
                have hc814 : kcl 1 ((stR X784 13 (nd + 1) (nI r783)) 9 r783) = true := by rw [st_ne (by omega)]; exact hc803
                have hf815 : Frs K T wr782 (stR X784 13 (nd + 1) (nI r783)) nd nd780 nd [(nd, (280 + 4 * (21 - ne)))] := (Frs.set2 (k := 36) hf811 (by omega) (by omega) (by omega) ⟨by omega, by omega⟩ (by omega) hn806.2.1 hn806.1 (by decide) ⟨by decide, by decide, by decide, by decide, by decide⟩ hn807.1 hn807.2.2.1 hc803 (by omega) (by omega))
                refine lv_goto (tgt := 139) hx hb dX12_loop_110 (by decide) ?_
                have hP : va_P G.1 pCl (mW G h0 a (upd (upd (upd (upd (upd (upd (upd F 15 0) 16 pl779) 27 (nI nd780)) 31 (nI wr782)) 64 (nI at777)) 65 (nI ne)) 66 (nI lk781)) (updA (stR X784 13 (nd + 1) (nI r783)) 2 K)) _ := hP
                have hD : va_D A (mW G h0 a (upd (upd (upd (upd (upd (upd (upd F 15 0) 16 pl779) 27 (nI nd780)) 31 (nI wr782)) 64 (nI at777)) 65 (nI ne)) 66 (nI lk781)) (updA (stR X784 13 (nd + 1) (nI r783)) 2 K)) := mW_D hD
                exact cut_a at777 nd780 wr782 lk781 pl779 (stR X784 13 (nd + 1) (nI r783)) (nI (nd + 1)) _ _ _ (by omega) (by omega) (by omega) (by omega) (by omega) (by omega) (by omega) (by omega) (by omega) hkp809 hlo810 (Frs.up hf815 (by omega)) hn812 hP hD hS (lv_sub hl [3, 4] rfl)
              · have e800 := e800
                refine r_sti (f := (X784 13)) (j := (nd + 1)) hx hb hE hP hD hS 13 (ma_13 G a _) rfl (mas_13 G a _) (by omega) (by decide) dX12_loop_109 (fun H locs hP hD hS => ?_)
                have hP : va_P G.1 pCl (mW G h0 a (upd (upd (upd (upd (upd (upd (upd F 15 (nI fa778)) 16 pl779) 27 (nI nd780)) 31 (nI wr782)) 64 (nI at777)) 65 (nI ne)) 66 (nI lk781)) (updA (stR X784 13 (nd + 1) (nI r783)) 2 K)) _ := mW_to (F := F) (l1 := [(15, (nI fa778)), (16, pl779), (27, (nI nd780)), (31, (nI wr782)), (64, (nI at777)), (65, (nI ne)), (66, (nI lk781))]) (l2 := [(15, (nI fa778)), (16, pl779), (27, (nI nd780)), (31, (nI wr782)), (64, (nI at777)), (65, (nI ne)), (66, (nI lk781))]) (V := [(nI fa778), pl779, (nI nd780), (nI wr782), (nI at777), (nI ne), (nI lk781), (nI fa778), pl779, (nI nd780), (nI wr782), (nI at777), (nI ne), (nI lk781)]) rfl rfl (show (updA (updA X784 2 K) 13 (upd (X784 13) (nd + 1) (nI r783))) = (updA (stR X784 13 (nd + 1) (nI r783)) 2 K) from updsA_eq2 (F := X784) (l1 := [(2, K), (13, (upd (X784 13) (nd + 1) (nI r783)))]) (l2 := [(13, (upd (X784 13) (nd + 1) (nI r783))), (2, K)]) (V := [K, (upd (X784 13) (nd + 1) (nI r783)), (upd (X784 13) (nd + 1) (nI r783)), K]) rfl rfl) hP
                have hD : va_D A (mW G h0 a (upd (upd (upd (upd (upd (upd (upd F 15 (nI fa778)) 16 pl779) 27 (nI nd780)) 31 (nI wr782)) 64 (nI at777)) 65 (nI ne)) 66 (nI lk781)) (updA (stR X784 13 (nd + 1) (nI r783)) 2 K)) := mW_D hD
                have hkp816 : Kp B (stR X784 13 (nd + 1) (nI r783)) wr782 T := (Kp.row hkp799 (by omega))
                refine lv_goto (tgt := 139) hx hb dX12_loop_110 (by decide) ?_
                refine lv_aload_n hx hb dX12_loop_139 rfl (lv_at hl 4 rfl) ?_
                refine lv_bipush (v := 59) hx hb dX12_loop_140 (by decide) ?_
                have hP : va_P G.1 pCl (mW G h0 a (upd (upd (upd (upd (upd (upd (upd (upd (upd F 15 (nI fa778)) 16 pl779) 27 (nI nd780)) 31 (nI wr782)) 64 (nI at777)) 65 (nI ne)) 66 (nI lk781)) 15 (nI fa778)) 64 (nI at777)) (updA (updA (stR X784 13 (nd + 1) (nI r783)) 2 K) 2 K)) _ := mW_to (F := F) (l1 := [(15, (nI fa778)), (16, pl779), (27, (nI nd780)), (31, (nI wr782)), (64, (nI at777)), (65, (nI ne)), (66, (nI lk781))]) (l2 := [(15, (nI fa778)), (16, pl779), (27, (nI nd780)), (31, (nI wr782)), (64, (nI at777)), (65, (nI ne)), (66, (nI lk781)), (15, (nI fa778)), (64, (nI at777))]) (V := [(nI fa778), pl779, (nI nd780), (nI wr782), (nI at777), (nI ne), (nI lk781), (nI fa778), pl779, (nI nd780), (nI wr782), (nI at777), (nI ne), (nI lk781), (nI fa778), (nI at777)]) rfl rfl (show (updA (stR X784 13 (nd + 1) (nI r783)) 2 K) = (updA (updA (stR X784 13 (nd + 1) (nI r783)) 2 K) 2 K) from updsA_eq2 (F := X784) (l1 := [(13, (upd (X784 13) (nd + 1) (nI r783))), (2, K)]) (l2 := [(13, (upd (X784 13) (nd + 1) (nI r783))), (2, K), (2, K)]) (V := [(upd (X784 13) (nd + 1) (nI r783)), K, (upd (X784 13) (nd + 1) (nI r783)), K, K]) rfl rfl) hP
                have hD : va_D A (mW G h0 a (upd (upd (upd (upd (upd (upd (upd (upd (upd F 15 (nI fa778)) 16 pl779) 27 (nI nd780)) 31 (nI wr782)) 64 (nI at777)) 65 (nI ne)) 66 (nI lk781)) 15 (nI fa778)) 64 (nI at777)) (updA (updA (stR X784 13 (nd + 1) (nI r783)) 2 K) 2 K)) := mW_D hD
                refine pc_V0 (G := G) (As := [.int 59]) (rest := []) hx hb hml hown hq hE hX pX0_al hP hD hS hA hl.1 (R_take l G h0 a (upd (upd (upd (upd (upd (upd (upd F 15 (nI fa778)) 16 pl779) 27 (nI nd780)) 31 (nI wr782)) 64 (nI at777)) 65 (nI ne)) 66 (nI lk781)) (updA (stR X784 13 (nd + 1) (nI r783)) 2 K) at777 T fa778 K 59 (by omega) (by omega) hK (by omega) (by decide) (by decide)) (gV pw_1614 pw_1615 pw_1616 pw_1523 pw_1601) hV_X12_take 0 9 rfl rfl rfl rfl (Nat.le_of_ble_eq_true rfl) dX12_loop_142 ⟨Nat.le_of_ble_eq_true rfl, Nat.le_of_ble_eq_true rfl⟩ ⟨(by show 4 + 1 ≤ (26 * n + 43); omega), (by show 8 + (2 + 11) + 103 ≤ (2000 * n + 4300); omega)⟩ (fun v819 u817 H locs hw818 hP hD hS => ?_)
                obtain ⟨at820, fa821, pl822⟩ := u817
                obtain ⟨hw818, h823, h824, h825, h826, h827, h828, h829, h830⟩ := hw818
                have h823 : at777 ≤ at820 := h823
                have h824 : at820 ≤ T := h824
                have h825 : fa778 ≤ fa821 := h825
                have h826 : fa821 ≤ 100 := h826
                have h827 : If (0 < fa778) (at820 = at777 ∧ fa821 = fa778) := h827
                have h828 : at820 ≤ at777 + 1 := h828
                have h829 : at777 + 1 ≤ at820 + fa821 := h829
                have h830 : If (fa821 = 0) (K at777 = 59) := h830
                obtain rfl : v819 = none := hw818
                have hP : va_P G.1 pCl (mW G h0 a (upd (upd (upd (upd (upd (upd (upd F 15 (nI fa821)) 16 pl822) 27 (nI nd780)) 31 (nI wr782)) 64 (nI at820)) 65 (nI ne)) 66 (nI lk781)) (updA (stR X784 13 (nd + 1) (nI r783)) 2 K)) _ := mW_to (F := F) (l1 := [(15, (nI fa778)), (16, pl779), (27, (nI nd780)), (31, (nI wr782)), (64, (nI at777)), (65, (nI ne)), (66, (nI lk781)), (15, (nI fa821)), (16, pl822), (64, (nI at820))]) (l2 := [(15, (nI fa821)), (16, pl822), (27, (nI nd780)), (31, (nI wr782)), (64, (nI at820)), (65, (nI ne)), (66, (nI lk781))]) (V := [(nI fa821), pl822, (nI nd780), (nI wr782), (nI at820), (nI ne), (nI lk781), (nI fa821), pl822, (nI at820), (nI fa821), pl822, (nI nd780), (nI wr782), (nI at820), (nI ne), (nI lk781)]) rfl rfl (show (updA (updA (stR X784 13 (nd + 1) (nI r783)) 2 K) 2 K) = (updA (stR X784 13 (nd + 1) (nI r783)) 2 K) from updsA_eq2 (F := X784) (l1 := [(13, (upd (X784 13) (nd + 1) (nI r783))), (2, K), (2, K)]) (l2 := [(13, (upd (X784 13) (nd + 1) (nI r783))), (2, K)]) (V := [(upd (X784 13) (nd + 1) (nI r783)), K, K, (upd (X784 13) (nd + 1) (nI r783)), K]) rfl rfl) hP
                have hD : va_D A (mW G h0 a (upd (upd (upd (upd (upd (upd (upd F 15 (nI fa821)) 16 pl822) 27 (nI nd780)) 31 (nI wr782)) 64 (nI at820)) 65 (nI ne)) 66 (nI lk781)) (updA (stR X784 13 (nd + 1) (nI r783)) 2 K)) := mW_D hD
                refine W.widen (k := 0) (n := 0) (Nat.le_of_ble_eq_true rfl) (Nat.le_of_ble_eq_true rfl) ?_
                refine W.eq (g2 := F0 m 145 ls []) rfl ?_
                obtain ⟨n832, n831⟩ := h827 e800
                replace n832 := n832.symm
                subst n832
                replace n831 := n831.symm
                subst n831
                refine lv_aload_n hx hb dX12_loop_145 rfl (lv_at hl 4 rfl) ?_
                refine r_get (v := .int (nI fa778)) hx hb hown hq hE hP 15 350 tFX12_15 (by decide) pw_1594 rfl dX12_loop_146 ?_
                refine lv_if_ne (tgt := 171) hx hb dX12_loop_149 (by decide) (fun c833 => ?_) (fun c833 => (by have n834 : fa778 = 0 := (nI_eq (a := fa778) (b := 0) (by omega) (by omega)).mp c833; omega))
                refine lv_aload_n hx hb dX12_loop_171 rfl (lv_at hl 4 rfl) ?_
                refine lv_bipush (v := 59) hx hb dX12_loop_172 (by decide) ?_
                have hP : va_P G.1 pCl (mW G h0 a (upd (upd (upd (upd (upd (upd (upd (upd (upd F 15 (nI fa778)) 16 pl822) 27 (nI nd780)) 31 (nI wr782)) 64 (nI at777)) 65 (nI ne)) 66 (nI lk781)) 15 (nI fa778)) 64 (nI at777)) (updA (updA (stR X784 13 (nd + 1) (nI r783)) 2 K) 2 K)) _ := hP
                have hD : va_D A (mW G h0 a (upd (upd (upd (upd (upd (upd (upd (upd (upd F 15 (nI fa778)) 16 pl822) 27 (nI nd780)) 31 (nI wr782)) 64 (nI at777)) 65 (nI ne)) 66 (nI lk781)) 15 (nI fa778)) 64 (nI at777)) (updA (updA (stR X784 13 (nd + 1) (nI r783)) 2 K) 2 K)) := mW_D hD
                refine pc_V0 (G := G) (As := [.int 59]) (rest := []) hx hb hml hown hq hE hX pX0_al hP hD hS hA hl.1 (R_take l G h0 a (upd (upd (upd (upd (upd (upd (upd F 15 (nI fa778)) 16 pl822) 27 (nI nd780)) 31 (nI wr782)) 64 (nI at777)) 65 (nI ne)) 66 (nI lk781)) (updA (stR X784 13 (nd + 1) (nI r783)) 2 K) at777 T fa778 K 59 (by omega) (by omega) hK (by omega) (by decide) (by decide)) (gV pw_1614 pw_1615 pw_1616 pw_1523 pw_1601) hV_X12_take 0 9 rfl rfl rfl rfl (Nat.le_of_ble_eq_true rfl) dX12_loop_174 ⟨Nat.le_of_ble_eq_true rfl, Nat.le_of_ble_eq_true rfl⟩ ⟨(by show 4 + 1 ≤ (26 * n + 43); omega), (by show 8 + (2 + 11) + 103 ≤ (2000 * n + 4300); omega)⟩ (fun v837 u835 H locs hw836 hP hD hS => ?_)
                obtain ⟨at838, fa839, pl840⟩ := u835
                obtain ⟨hw836, h841, h842, h843, h844, h845, h846, h847, h848⟩ := hw836
                have h841 : at777 ≤ at838 := h841
                have h842 : at838 ≤ T := h842
                have h843 : fa778 ≤ fa839 := h843
                have h844 : fa839 ≤ 100 := h844
                have h845 : If (0 < fa778) (at838 = at777 ∧ fa839 = fa778) := h845
                have h846 : at838 ≤ at777 + 1 := h846
                have h847 : at777 + 1 ≤ at838 + fa839 := h847
                have h848 : If (fa839 = 0) (K at777 = 59) := h848
                obtain rfl : v837 = none := hw836
                have hP : va_P G.1 pCl (mW G h0 a (upd (upd (upd (upd (upd (upd (upd F 15 (nI fa839)) 16 pl840) 27 (nI nd780)) 31 (nI wr782)) 64 (nI at838)) 65 (nI ne)) 66 (nI lk781)) (updA (stR X784 13 (nd + 1) (nI r783)) 2 K)) _ := mW_to (F := F) (l1 := [(15, (nI fa778)), (16, pl822), (27, (nI nd780)), (31, (nI wr782)), (64, (nI at777)), (65, (nI ne)), (66, (nI lk781)), (15, (nI fa839)), (16, pl840), (64, (nI at838))]) (l2 := [(15, (nI fa839)), (16, pl840), (27, (nI nd780)), (31, (nI wr782)), (64, (nI at838)), (65, (nI ne)), (66, (nI lk781))]) (V := [(nI fa839), pl840, (nI nd780), (nI wr782), (nI at838), (nI ne), (nI lk781), (nI fa839), pl840, (nI at838), (nI fa839), pl840, (nI nd780), (nI wr782), (nI at838), (nI ne), (nI lk781)]) rfl rfl (show (updA (updA (stR X784 13 (nd + 1) (nI r783)) 2 K) 2 K) = (updA (stR X784 13 (nd + 1) (nI r783)) 2 K) from updsA_eq2 (F := X784) (l1 := [(13, (upd (X784 13) (nd + 1) (nI r783))), (2, K), (2, K)]) (l2 := [(13, (upd (X784 13) (nd + 1) (nI r783))), (2, K)]) (V := [(upd (X784 13) (nd + 1) (nI r783)), K, K, (upd (X784 13) (nd + 1) (nI r783)), K]) rfl rfl) hP
                have hD : va_D A (mW G h0 a (upd (upd (upd (upd (upd (upd (upd F 15 (nI fa839)) 16 pl840) 27 (nI nd780)) 31 (nI wr782)) 64 (nI at838)) 65 (nI ne)) 66 (nI lk781)) (updA (stR X784 13 (nd + 1) (nI r783)) 2 K)) := mW_D hD
                refine W.widen (k := 0) (n := 0) (Nat.le_of_ble_eq_true rfl) (Nat.le_of_ble_eq_true rfl) ?_
                refine W.eq (g2 := F0 m 177 ls []) rfl ?_
                obtain ⟨n850, n849⟩ := h845 e800
                replace n850 := n850.symm
                subst n850
                replace n849 := n849.symm
                subst n849
                refine lv_aload_n hx hb dX12_loop_177 rfl (lv_at hl 4 rfl) ?_
                refine r_get (v := .int (nI fa778)) hx hb hown hq hE hP 15 350 tFX12_15 (by decide) pw_1594 rfl dX12_loop_178 ?_
                refine lv_if_ne (tgt := 219) hx hb dX12_loop_181 (by decide) (fun c851 => ?_) (fun c851 => (by have n852 : fa778 = 0 := (nI_eq (a := fa778) (b := 0) (by omega) (by omega)).mp c851; omega))
                refine lv_aload_n hx hb dX12_loop_219 rfl (lv_at hl 4 rfl) ?_
                refine lv_bipush (v := 41) hx hb dX12_loop_220 (by decide) ?_
                have hP : va_P G.1 pCl (mW G h0 a (upd (upd (upd (upd (upd (upd (upd (upd (upd F 15 (nI fa778)) 16 pl840) 27 (nI nd780)) 31 (nI wr782)) 64 (nI at777)) 65 (nI ne)) 66 (nI lk781)) 15 (nI fa778)) 64 (nI at777)) (updA (updA (stR X784 13 (nd + 1) (nI r783)) 2 K) 2 K)) _ := hP
                have hD : va_D A (mW G h0 a (upd (upd (upd (upd (upd (upd (upd (upd (upd F 15 (nI fa778)) 16 pl840) 27 (nI nd780)) 31 (nI wr782)) 64 (nI at777)) 65 (nI ne)) 66 (nI lk781)) 15 (nI fa778)) 64 (nI at777)) (updA (updA (stR X784 13 (nd + 1) (nI r783)) 2 K) 2 K)) := mW_D hD
                refine pc_V0 (G := G) (As := [.int 41]) (rest := []) hx hb hml hown hq hE hX pX0_al hP hD hS hA hl.1 (R_take l G h0 a (upd (upd (upd (upd (upd (upd (upd F 15 (nI fa778)) 16 pl840) 27 (nI nd780)) 31 (nI wr782)) 64 (nI at777)) 65 (nI ne)) 66 (nI lk781)) (updA (stR X784 13 (nd + 1) (nI r783)) 2 K) at777 T fa778 K 41 (by omega) (by omega) hK (by omega) (by decide) (by decide)) (gV pw_1614 pw_1615 pw_1616 pw_1523 pw_1601) hV_X12_take 0 9 rfl rfl rfl rfl (Nat.le_of_ble_eq_true rfl) dX12_loop_222 ⟨Nat.le_of_ble_eq_true rfl, Nat.le_of_ble_eq_true rfl⟩ ⟨(by show 4 + 1 ≤ (26 * n + 43); omega), (by show 8 + (2 + 11) + 103 ≤ (2000 * n + 4300); omega)⟩ (fun v855 u853 H locs hw854 hP hD hS => ?_)
                obtain ⟨at856, fa857, pl858⟩ := u853
                obtain ⟨hw854, h859, h860, h861, h862, h863, h864, h865, h866⟩ := hw854
                have h859 : at777 ≤ at856 := h859
                have h860 : at856 ≤ T := h860
                have h861 : fa778 ≤ fa857 := h861
                have h862 : fa857 ≤ 100 := h862
                have h863 : If (0 < fa778) (at856 = at777 ∧ fa857 = fa778) := h863
                have h864 : at856 ≤ at777 + 1 := h864
                have h865 : at777 + 1 ≤ at856 + fa857 := h865
                have h866 : If (fa857 = 0) (K at777 = 41) := h866
                obtain rfl : v855 = none := hw854
                have hP : va_P G.1 pCl (mW G h0 a (upd (upd (upd (upd (upd (upd (upd F 15 (nI fa857)) 16 pl858) 27 (nI nd780)) 31 (nI wr782)) 64 (nI at856)) 65 (nI ne)) 66 (nI lk781)) (updA (stR X784 13 (nd + 1) (nI r783)) 2 K)) _ := mW_to (F := F) (l1 := [(15, (nI fa778)), (16, pl840), (27, (nI nd780)), (31, (nI wr782)), (64, (nI at777)), (65, (nI ne)), (66, (nI lk781)), (15, (nI fa857)), (16, pl858), (64, (nI at856))]) (l2 := [(15, (nI fa857)), (16, pl858), (27, (nI nd780)), (31, (nI wr782)), (64, (nI at856)), (65, (nI ne)), (66, (nI lk781))]) (V := [(nI fa857), pl858, (nI nd780), (nI wr782), (nI at856), (nI ne), (nI lk781), (nI fa857), pl858, (nI at856), (nI fa857), pl858, (nI nd780), (nI wr782), (nI at856), (nI ne), (nI lk781)]) rfl rfl (show (updA (updA (stR X784 13 (nd + 1) (nI r783)) 2 K) 2 K) = (updA (stR X784 13 (nd + 1) (nI r783)) 2 K) from updsA_eq2 (F := X784) (l1 := [(13, (upd (X784 13) (nd + 1) (nI r783))), (2, K), (2, K)]) (l2 := [(13, (upd (X784 13) (nd + 1) (nI r783))), (2, K)]) (V := [(upd (X784 13) (nd + 1) (nI r783)), K, K, (upd (X784 13) (nd + 1) (nI r783)), K]) rfl rfl) hP
                have hD : va_D A (mW G h0 a (upd (upd (upd (upd (upd (upd (upd F 15 (nI fa857)) 16 pl858) 27 (nI nd780)) 31 (nI wr782)) 64 (nI at856)) 65 (nI ne)) 66 (nI lk781)) (updA (stR X784 13 (nd + 1) (nI r783)) 2 K)) := mW_D hD
                refine W.widen (k := 0) (n := 0) (Nat.le_of_ble_eq_true rfl) (Nat.le_of_ble_eq_true rfl) ?_
                refine W.eq (g2 := F0 m 225 ls []) rfl ?_
                obtain ⟨n868, n867⟩ := h863 e800
                replace n868 := n868.symm
                subst n868
                replace n867 := n867.symm
                subst n867
                refine lv_aload_n hx hb dX12_loop_225 rfl (lv_at hl 4 rfl) ?_
                refine r_get (v := .ref (a 15)) hx hb hown hq hE hP 23 56 tFX12_23 (by decide) pw_1445 rfl dX12_loop_226 ?_
                refine lv_iload_n hx hb dX12_loop_229 rfl (lv_at hl 3 rfl) ?_
                refine lv_aload_n hx hb dX12_loop_230 rfl (lv_at hl 4 rfl) ?_
                have hP : va_P G.1 pCl (mW G h0 a (upd (upd (upd (upd (upd (upd (upd (upd (upd F 15 (nI fa778)) 16 pl858) 27 (nI nd780)) 31 (nI wr782)) 64 (nI at777)) 65 (nI ne)) 66 (nI lk781)) 15 (nI fa778)) 64 (nI at777)) (updA (updA (stR X784 13 (nd + 1) (nI r783)) 2 K) 2 K)) _ := hP
                have hD : va_D A (mW G h0 a (upd (upd (upd (upd (upd (upd (upd (upd (upd F 15 (nI fa778)) 16 pl858) 27 (nI nd780)) 31 (nI wr782)) 64 (nI at777)) 65 (nI ne)) 66 (nI lk781)) 15 (nI fa778)) 64 (nI at777)) (updA (updA (stR X784 13 (nd + 1) (nI r783)) 2 K) 2 K)) := mW_D hD
                refine pc_V0 (G := G) (As := []) (rest := [.int (nI nd), .ref (a 15)]) hx hb hml hown hq hE hX pX0_al hP hD hS hA hl.1 (RF_statement l G h0 a (upd (upd (upd (upd (upd (upd (upd F 15 (nI fa778)) 16 pl858) 27 (nI nd780)) 31 (nI wr782)) 64 (nI at777)) 65 (nI ne)) 66 (nI lk781)) (updA (stR X784 13 (nd + 1) (nI r783)) 2 K) at777 T fa778 K (by omega) (by omega) hK (by omega) e800) (gV pw_1699 pw_1700 pw_1701 pw_1523 pw_1706) hV_X12_statement 0 9 rfl rfl rfl rfl (Nat.le_of_ble_eq_true rfl) dX12_loop_231 ⟨Nat.le_of_ble_eq_true rfl, Nat.le_of_ble_eq_true rfl⟩ ⟨(by show 2 + 1 ≤ (26 * n + 43); omega), (by show 8 + (3 + 11) + 60 ≤ (2000 * n + 4300); omega)⟩ (fun v871 u869 H locs hw870 hP hD hS => ?_)
                obtain rfl : v871 = some (.int 0) := hw870
                have hP : va_P G.1 pCl (mW G h0 a (upd (upd (upd (upd (upd (upd (upd F 15 (nI fa778)) 16 pl858) 27 (nI nd780)) 31 (nI wr782)) 64 (nI at777)) 65 (nI ne)) 66 (nI lk781)) (updA (stR X784 13 (nd + 1) (nI r783)) 2 K)) _ := mW_to (F := F) (l1 := [(15, (nI fa778)), (16, pl858), (27, (nI nd780)), (31, (nI wr782)), (64, (nI at777)), (65, (nI ne)), (66, (nI lk781)), (15, (nI fa778)), (64, (nI at777))]) (l2 := [(15, (nI fa778)), (16, pl858), (27, (nI nd780)), (31, (nI wr782)), (64, (nI at777)), (65, (nI ne)), (66, (nI lk781))]) (V := [(nI fa778), pl858, (nI nd780), (nI wr782), (nI at777), (nI ne), (nI lk781), (nI fa778), (nI at777), (nI fa778), pl858, (nI nd780), (nI wr782), (nI at777), (nI ne), (nI lk781)]) rfl rfl (show (updA (updA (stR X784 13 (nd + 1) (nI r783)) 2 K) 2 K) = (updA (stR X784 13 (nd + 1) (nI r783)) 2 K) from updsA_eq2 (F := X784) (l1 := [(13, (upd (X784 13) (nd + 1) (nI r783))), (2, K), (2, K)]) (l2 := [(13, (upd (X784 13) (nd + 1) (nI r783))), (2, K)]) (V := [(upd (X784 13) (nd + 1) (nI r783)), K, K, (upd (X784 13) (nd + 1) (nI r783)), K]) rfl rfl) hP
                have hD : va_D A (mW G h0 a (upd (upd (upd (upd (upd (upd (upd F 15 (nI fa778)) 16 pl858) 27 (nI nd780)) 31 (nI wr782)) 64 (nI at777)) 65 (nI ne)) 66 (nI lk781)) (updA (stR X784 13 (nd + 1) (nI r783)) 2 K)) := mW_D hD
                refine W.widen (k := 0) (n := 0) (Nat.le_of_ble_eq_true rfl) (Nat.le_of_ble_eq_true rfl) ?_
                refine W.eq (g2 := F0 m 234 ls [.int 0, .int (nI nd), .ref (a 15)]) rfl ?_
                refine r_sti (f := ((stR X784 13 (nd + 1) (nI r783)) 15)) (j := nd) hx hb hE hP hD hS 15 (ma_15 G a _) rfl (mas_15 G a _) (by omega) (by decide) dX12_loop_234 (fun H locs hP hD hS => ?_)
                have hP : va_P G.1 pCl (mW G h0 a (upd (upd (upd (upd (upd (upd (upd F 15 (nI fa778)) 16 pl858) 27 (nI nd780)) 31 (nI wr782)) 64 (nI at777)) 65 (nI ne)) 66 (nI lk781)) (updA (stR (stR X784 13 (nd + 1) (nI r783)) 15 nd 0) 2 K)) _ := mW_to (F := F) (l1 := [(15, (nI fa778)), (16, pl858), (27, (nI nd780)), (31, (nI wr782)), (64, (nI at777)), (65, (nI ne)), (66, (nI lk781))]) (l2 := [(15, (nI fa778)), (16, pl858), (27, (nI nd780)), (31, (nI wr782)), (64, (nI at777)), (65, (nI ne)), (66, (nI lk781))]) (V := [(nI fa778), pl858, (nI nd780), (nI wr782), (nI at777), (nI ne), (nI lk781), (nI fa778), pl858, (nI nd780), (nI wr782), (nI at777), (nI ne), (nI lk781)]) rfl rfl (show (updA (updA (stR X784 13 (nd + 1) (nI r783)) 2 K) 15 (upd ((stR X784 13 (nd + 1) (nI r783)) 15) nd 0)) = (updA (stR (stR X784 13 (nd + 1) (nI r783)) 15 nd 0) 2 K) from updsA_eq2 (F := X784) (l1 := [(13, (upd (X784 13) (nd + 1) (nI r783))), (2, K), (15, (upd ((stR X784 13 (nd + 1) (nI r783)) 15) nd 0))]) (l2 := [(13, (upd (X784 13) (nd + 1) (nI r783))), (15, (upd ((stR X784 13 (nd + 1) (nI r783)) 15) nd 0)), (2, K)]) (V := [(upd (X784 13) (nd + 1) (nI r783)), K, (upd ((stR X784 13 (nd + 1) (nI r783)) 15) nd 0), (upd (X784 13) (nd + 1) (nI r783)), (upd ((stR X784 13 (nd + 1) (nI r783)) 15) nd 0), K]) rfl rfl) hP
                have hD : va_D A (mW G h0 a (upd (upd (upd (upd (upd (upd (upd F 15 (nI fa778)) 16 pl858) 27 (nI nd780)) 31 (nI wr782)) 64 (nI at777)) 65 (nI ne)) 66 (nI lk781)) (updA (stR (stR X784 13 (nd + 1) (nI r783)) 15 nd 0) 2 K)) := mW_D hD
                have hkp872 : Kp B (stR (stR X784 13 (nd + 1) (nI r783)) 15 nd 0) wr782 T := (Kp.row hkp816 (by omega))
                refine lv_iload_n hx hb dX12_loop_235 rfl (lv_at hl 3 rfl) ?_
                have hz873 : at0 ≤ at777 := (by omega)
                have hz874 : at777 ≤ T := (by omega)
                have hz875 : fa778 ≤ 100 := (by omega)
                have hz876 : nd ≤ nd780 := (by omega)
                have hz877 : nd780 + 2 * at0 ≤ nd + 2 * at777 + 100000 * fa778 := (by omega)
                have hz878 : nd780 + 2 * at0 ≤ nd + 2 * at777 + (60 * (21 - ne) + 40) := (by omega)
                have hz879 : wr ≤ wr782 := (by omega)
                have hz880 : wr782 + at0 ≤ wr + at777 := (by omega)
                have hz881 : lk ≤ lk781 := (by omega)
                have hz882 : lk781 ≤ 60 + 100 * fa778 := (by omega)
                have hz883 : at0 + 1 ≤ at777 + fa778 := (by omega)
                have hz884 : nd ≤ nd780 := (by omega)
                have hz885 : Kp B (stR (stR X784 13 (nd + 1) (nI r783)) 15 nd 0) wr782 T := hkp872
                have hz886 : If (fa778 = 0) (Low B (stR (stR X784 13 (nd + 1) (nI r783)) 15 nd 0) nd wr ∧ Frs K T wr782 (stR (stR X784 13 (nd + 1) (nI r783)) 15 nd 0) nd nd780 20000 [(nd, (280 + 4 * (21 - ne)))] ∧ kcl 3 ((stR (stR X784 13 (nd + 1) (nI r783)) 15 nd 0) 9 nd) = true) := (fun e => absurd e (by omega))
                have hP : va_P G.1 pCl (mW G h0 a (upd (upd (upd (upd (upd (upd (upd F 15 (nI fa778)) 16 pl858) 27 (nI nd780)) 31 (nI wr782)) 64 (nI at777)) 65 (nI ne)) 66 (nI lk781)) (updA (stR (stR X784 13 (nd + 1) (nI r783)) 15 nd 0) 2 K)) _ := hP
                have hD : va_D A (mW G h0 a (upd (upd (upd (upd (upd (upd (upd F 15 (nI fa778)) 16 pl858) 27 (nI nd780)) 31 (nI wr782)) 64 (nI at777)) 65 (nI ne)) 66 (nI lk781)) (updA (stR (stR X784 13 (nd + 1) (nI r783)) 15 nd 0) 2 K)) := mW_D hD
                exact W.iret (v := (nI nd)) hx hb hr (fun t9 ht9 hW9 => ⟨⟨_, (at777, fa778, pl858, nd780, lk781, wr782, nd, (stR (stR X784 13 (nd + 1) (nI r783)) 15 nd 0)), rfl, ⟨rfl, hz873, hz874, hz875, hz876, hz877, hz878, hz879, hz880, hz881, hz882, hz883, hz884, hz885, hz886⟩, by rw [ht9]; exact hP, hD⟩, hS.F ht9⟩) hS.2.2 dX12_loop_236
            · have e771 := e771
              refine lv_aload_n hx hb dX12_loop_95 rfl (lv_at hl 4 rfl) ?_
              refine r_get (v := .ref (a 13)) hx hb hown hq hE hP 21 50 tFX12_21 (by decide) pw_1443 rfl dX12_loop_96 ?_
              refine lv_aload_n hx hb dX12_loop_99 rfl (lv_at hl 4 rfl) ?_
              refine r_get (v := .ref (a 12)) hx hb hown hq hE hP 20 47 tFX12_20 (by decide) pw_1442 rfl dX12_loop_100 ?_
              refine lv_iload_n hx hb dX12_loop_103 rfl (lv_at hl 3 rfl) ?_
              refine r_ldi (f := ((stR X742 12 nd (nI (nd + 1))) 12)) (j := nd) hx hb hE hP 12 (ma_12 G a _) rfl (by omega) (by decide) dX12_loop_104 ?_
              refine lv_topi (fun x887 e888 => ?_)
              obtain rfl : x887 = nI (nd + 1) := e888.trans st_eq
              refine lv_aload_n hx hb dX12_loop_105 rfl (lv_at hl 4 rfl) ?_
              have hP : va_P G.1 pCl (mW G h0 a (upd (upd (upd (upd (upd (upd (upd (upd (upd F 15 (nI fa761)) 16 pl762) 27 (nI ((nd + 1) + 1))) 31 (nI wr701)) 64 (nI at760)) 65 (nI ne)) 66 (nI lk)) 15 (nI fa761)) 64 (nI at760)) (updA (updA (stR X742 12 nd (nI (nd + 1))) 2 K) 2 K)) _ := mW_to (F := F) (l1 := [(15, (nI fa761)), (16, pl762), (27, (nI ((nd + 1) + 1))), (31, (nI wr701)), (64, (nI at760)), (65, (nI ne)), (66, (nI lk))]) (l2 := [(15, (nI fa761)), (16, pl762), (27, (nI ((nd + 1) + 1))), (31, (nI wr701)), (64, (nI at760)), (65, (nI ne)), (66, (nI lk)), (15, (nI fa761)), (64, (nI at760))]) (V := [(nI fa761), pl762, (nI ((nd + 1) + 1)), (nI wr701), (nI at760), (nI ne), (nI lk), (nI fa761), pl762, (nI ((nd + 1) + 1)), (nI wr701), (nI at760), (nI ne), (nI lk), (nI fa761), (nI at760)]) rfl rfl (show (updA (stR X742 12 nd (nI (nd + 1))) 2 K) = (updA (updA (stR X742 12 nd (nI (nd + 1))) 2 K) 2 K) from updsA_eq2 (F := X742) (l1 := [(12, (upd (X742 12) nd (nI (nd + 1)))), (2, K)]) (l2 := [(12, (upd (X742 12) nd (nI (nd + 1)))), (2, K), (2, K)]) (V := [(upd (X742 12) nd (nI (nd + 1))), K, (upd (X742 12) nd (nI (nd + 1))), K, K]) rfl rfl) hP
              have hD : va_D A (mW G h0 a (upd (upd (upd (upd (upd (upd (upd (upd (upd F 15 (nI fa761)) 16 pl762) 27 (nI ((nd + 1) + 1))) 31 (nI wr701)) 64 (nI at760)) 65 (nI ne)) 66 (nI lk)) 15 (nI fa761)) 64 (nI at760)) (updA (updA (stR X742 12 nd (nI (nd + 1))) 2 K) 2 K)) := mW_D hD
              refine pc_V0 (G := G) (As := []) (rest := [.int (nI (nd + 1)), .ref (a 13)]) hx hb hml hown hq hE hX pX0_al hP hD hS hA hl.1 (RF_choice l G h0 a (upd (upd (upd (upd (upd (upd (upd F 15 (nI fa761)) 16 pl762) 27 (nI ((nd + 1) + 1))) 31 (nI wr701)) 64 (nI at760)) 65 (nI ne)) 66 (nI lk)) (updA (stR X742 12 nd (nI (nd + 1))) 2 K) at760 T fa761 K (by omega) (by omega) hK (by omega) e771) (gV pw_1640 pw_1641 pw_1642 pw_1523 pw_1656) hV_X12_choice 0 9 rfl rfl rfl rfl (Nat.le_of_ble_eq_true rfl) dX12_loop_106 ⟨Nat.le_of_ble_eq_true rfl, Nat.le_of_ble_eq_true rfl⟩ ⟨(by show 16 + 1 ≤ (26 * n + 43); omega), (by show 8 + (4 + 11) + 405 ≤ (2000 * n + 4300); omega)⟩ (fun v891 u889 H locs hw890 hP hD hS => ?_)
              obtain rfl : v891 = some (.int 0) := hw890
              have hP : va_P G.1 pCl (mW G h0 a (upd (upd (upd (upd (upd (upd (upd F 15 (nI fa761)) 16 pl762) 27 (nI ((nd + 1) + 1))) 31 (nI wr701)) 64 (nI at760)) 65 (nI ne)) 66 (nI lk)) (updA (stR X742 12 nd (nI (nd + 1))) 2 K)) _ := mW_to (F := F) (l1 := [(15, (nI fa761)), (16, pl762), (27, (nI ((nd + 1) + 1))), (31, (nI wr701)), (64, (nI at760)), (65, (nI ne)), (66, (nI lk)), (15, (nI fa761)), (64, (nI at760))]) (l2 := [(15, (nI fa761)), (16, pl762), (27, (nI ((nd + 1) + 1))), (31, (nI wr701)), (64, (nI at760)), (65, (nI ne)), (66, (nI lk))]) (V := [(nI fa761), pl762, (nI ((nd + 1) + 1)), (nI wr701), (nI at760), (nI ne), (nI lk), (nI fa761), (nI at760), (nI fa761), pl762, (nI ((nd + 1) + 1)), (nI wr701), (nI at760), (nI ne), (nI lk)]) rfl rfl (show (updA (updA (stR X742 12 nd (nI (nd + 1))) 2 K) 2 K) = (updA (stR X742 12 nd (nI (nd + 1))) 2 K) from updsA_eq2 (F := X742) (l1 := [(12, (upd (X742 12) nd (nI (nd + 1)))), (2, K), (2, K)]) (l2 := [(12, (upd (X742 12) nd (nI (nd + 1)))), (2, K)]) (V := [(upd (X742 12) nd (nI (nd + 1))), K, K, (upd (X742 12) nd (nI (nd + 1))), K]) rfl rfl) hP
              have hD : va_D A (mW G h0 a (upd (upd (upd (upd (upd (upd (upd F 15 (nI fa761)) 16 pl762) 27 (nI ((nd + 1) + 1))) 31 (nI wr701)) 64 (nI at760)) 65 (nI ne)) 66 (nI lk)) (updA (stR X742 12 nd (nI (nd + 1))) 2 K)) := mW_D hD
              refine W.widen (k := 0) (n := 0) (Nat.le_of_ble_eq_true rfl) (Nat.le_of_ble_eq_true rfl) ?_
              refine W.eq (g2 := F0 m 109 ls [.int 0, .int (nI (nd + 1)), .ref (a 13)]) rfl ?_
              refine r_sti (f := ((stR X742 12 nd (nI (nd + 1))) 13)) (j := (nd + 1)) hx hb hE hP hD hS 13 (ma_13 G a _) rfl (mas_13 G a _) (by omega) (by decide) dX12_loop_109 (fun H locs hP hD hS => ?_)
              have hP : va_P G.1 pCl (mW G h0 a (upd (upd (upd (upd (upd (upd (upd F 15 (nI fa761)) 16 pl762) 27 (nI ((nd + 1) + 1))) 31 (nI wr701)) 64 (nI at760)) 65 (nI ne)) 66 (nI lk)) (updA (stR (stR X742 12 nd (nI (nd + 1))) 13 (nd + 1) 0) 2 K)) _ := mW_to (F := F) (l1 := [(15, (nI fa761)), (16, pl762), (27, (nI ((nd + 1) + 1))), (31, (nI wr701)), (64, (nI at760)), (65, (nI ne)), (66, (nI lk))]) (l2 := [(15, (nI fa761)), (16, pl762), (27, (nI ((nd + 1) + 1))), (31, (nI wr701)), (64, (nI at760)), (65, (nI ne)), (66, (nI lk))]) (V := [(nI fa761), pl762, (nI ((nd + 1) + 1)), (nI wr701), (nI at760), (nI ne), (nI lk), (nI fa761), pl762, (nI ((nd + 1) + 1)), (nI wr701), (nI at760), (nI ne), (nI lk)]) rfl rfl (show (updA (updA (stR X742 12 nd (nI (nd + 1))) 2 K) 13 (upd ((stR X742 12 nd (nI (nd + 1))) 13) (nd + 1) 0)) = (updA (stR (stR X742 12 nd (nI (nd + 1))) 13 (nd + 1) 0) 2 K) from updsA_eq2 (F := X742) (l1 := [(12, (upd (X742 12) nd (nI (nd + 1)))), (2, K), (13, (upd ((stR X742 12 nd (nI (nd + 1))) 13) (nd + 1) 0))]) (l2 := [(12, (upd (X742 12) nd (nI (nd + 1)))), (13, (upd ((stR X742 12 nd (nI (nd + 1))) 13) (nd + 1) 0)), (2, K)]) (V := [(upd (X742 12) nd (nI (nd + 1))), K, (upd ((stR X742 12 nd (nI (nd + 1))) 13) (nd + 1) 0), (upd (X742 12) nd (nI (nd + 1))), (upd ((stR X742 12 nd (nI (nd + 1))) 13) (nd + 1) 0), K]) rfl rfl) hP
              have hD : va_D A (mW G h0 a (upd (upd (upd (upd (upd (upd (upd F 15 (nI fa761)) 16 pl762) 27 (nI ((nd + 1) + 1))) 31 (nI wr701)) 64 (nI at760)) 65 (nI ne)) 66 (nI lk)) (updA (stR (stR X742 12 nd (nI (nd + 1))) 13 (nd + 1) 0) 2 K)) := mW_D hD
              have hkp892 : Kp B (stR (stR X742 12 nd (nI (nd + 1))) 13 (nd + 1) 0) wr701 T := (Kp.row hkp751 (by omega))
              refine lv_goto (tgt := 139) hx hb dX12_loop_110 (by decide) ?_
              refine lv_aload_n hx hb dX12_loop_139 rfl (lv_at hl 4 rfl) ?_
              refine lv_bipush (v := 59) hx hb dX12_loop_140 (by decide) ?_
              have hP : va_P G.1 pCl (mW G h0 a (upd (upd (upd (upd (upd (upd (upd (upd (upd F 15 (nI fa761)) 16 pl762) 27 (nI ((nd + 1) + 1))) 31 (nI wr701)) 64 (nI at760)) 65 (nI ne)) 66 (nI lk)) 15 (nI fa761)) 64 (nI at760)) (updA (updA (stR (stR X742 12 nd (nI (nd + 1))) 13 (nd + 1) 0) 2 K) 2 K)) _ := mW_to (F := F) (l1 := [(15, (nI fa761)), (16, pl762), (27, (nI ((nd + 1) + 1))), (31, (nI wr701)), (64, (nI at760)), (65, (nI ne)), (66, (nI lk))]) (l2 := [(15, (nI fa761)), (16, pl762), (27, (nI ((nd + 1) + 1))), (31, (nI wr701)), (64, (nI at760)), (65, (nI ne)), (66, (nI lk)), (15, (nI fa761)), (64, (nI at760))]) (V := [(nI fa761), pl762, (nI ((nd + 1) + 1)), (nI wr701), (nI at760), (nI ne), (nI lk), (nI fa761), pl762, (nI ((nd + 1) + 1)), (nI wr701), (nI at760), (nI ne), (nI lk), (nI fa761), (nI at760)]) rfl rfl (show (updA (stR (stR X742 12 nd (nI (nd + 1))) 13 (nd + 1) 0) 2 K) = (updA (updA (stR (stR X742 12 nd (nI (nd + 1))) 13 (nd + 1) 0) 2 K) 2 K) from updsA_eq2 (F := X742) (l1 := [(12, (upd (X742 12) nd (nI (nd + 1)))), (13, (upd ((stR X742 12 nd (nI (nd + 1))) 13) (nd + 1) 0)), (2, K)]) (l2 := [(12, (upd (X742 12) nd (nI (nd + 1)))), (13, (upd ((stR X742 12 nd (nI (nd + 1))) 13) (nd + 1) 0)), (2, K), (2, K)]) (V := [(upd (X742 12) nd (nI (nd + 1))), (upd ((stR X742 12 nd (nI (nd + 1))) 13) (nd + 1) 0), K, (upd (X742 12) nd (nI (nd + 1))), (upd ((stR X742 12 nd (nI (nd + 1))) 13) (nd + 1) 0), K, K]) rfl rfl) hP
              have hD : va_D A (mW G h0 a (upd (upd (upd (upd (upd (upd (upd (upd (upd F 15 (nI fa761)) 16 pl762) 27 (nI ((nd + 1) + 1))) 31 (nI wr701)) 64 (nI at760)) 65 (nI ne)) 66 (nI lk)) 15 (nI fa761)) 64 (nI at760)) (updA (updA (stR (stR X742 12 nd (nI (nd + 1))) 13 (nd + 1) 0) 2 K) 2 K)) := mW_D hD
              refine pc_V0 (G := G) (As := [.int 59]) (rest := []) hx hb hml hown hq hE hX pX0_al hP hD hS hA hl.1 (R_take l G h0 a (upd (upd (upd (upd (upd (upd (upd F 15 (nI fa761)) 16 pl762) 27 (nI ((nd + 1) + 1))) 31 (nI wr701)) 64 (nI at760)) 65 (nI ne)) 66 (nI lk)) (updA (stR (stR X742 12 nd (nI (nd + 1))) 13 (nd + 1) 0) 2 K) at760 T fa761 K 59 (by omega) (by omega) hK (by omega) (by decide) (by decide)) (gV pw_1614 pw_1615 pw_1616 pw_1523 pw_1601) hV_X12_take 0 9 rfl rfl rfl rfl (Nat.le_of_ble_eq_true rfl) dX12_loop_142 ⟨Nat.le_of_ble_eq_true rfl, Nat.le_of_ble_eq_true rfl⟩ ⟨(by show 4 + 1 ≤ (26 * n + 43); omega), (by show 8 + (2 + 11) + 103 ≤ (2000 * n + 4300); omega)⟩ (fun v895 u893 H locs hw894 hP hD hS => ?_)
              obtain ⟨at896, fa897, pl898⟩ := u893
              obtain ⟨hw894, h899, h900, h901, h902, h903, h904, h905, h906⟩ := hw894
              have h899 : at760 ≤ at896 := h899
              have h900 : at896 ≤ T := h900
              have h901 : fa761 ≤ fa897 := h901
              have h902 : fa897 ≤ 100 := h902
              have h903 : If (0 < fa761) (at896 = at760 ∧ fa897 = fa761) := h903
              have h904 : at896 ≤ at760 + 1 := h904
              have h905 : at760 + 1 ≤ at896 + fa897 := h905
              have h906 : If (fa897 = 0) (K at760 = 59) := h906
              obtain rfl : v895 = none := hw894
              have hP : va_P G.1 pCl (mW G h0 a (upd (upd (upd (upd (upd (upd (upd F 15 (nI fa897)) 16 pl898) 27 (nI ((nd + 1) + 1))) 31 (nI wr701)) 64 (nI at896)) 65 (nI ne)) 66 (nI lk)) (updA (stR (stR X742 12 nd (nI (nd + 1))) 13 (nd + 1) 0) 2 K)) _ := mW_to (F := F) (l1 := [(15, (nI fa761)), (16, pl762), (27, (nI ((nd + 1) + 1))), (31, (nI wr701)), (64, (nI at760)), (65, (nI ne)), (66, (nI lk)), (15, (nI fa897)), (16, pl898), (64, (nI at896))]) (l2 := [(15, (nI fa897)), (16, pl898), (27, (nI ((nd + 1) + 1))), (31, (nI wr701)), (64, (nI at896)), (65, (nI ne)), (66, (nI lk))]) (V := [(nI fa897), pl898, (nI ((nd + 1) + 1)), (nI wr701), (nI at896), (nI ne), (nI lk), (nI fa897), pl898, (nI at896), (nI fa897), pl898, (nI ((nd + 1) + 1)), (nI wr701), (nI at896), (nI ne), (nI lk)]) rfl rfl (show (updA (updA (stR (stR X742 12 nd (nI (nd + 1))) 13 (nd + 1) 0) 2 K) 2 K) = (updA (stR (stR X742 12 nd (nI (nd + 1))) 13 (nd + 1) 0) 2 K) from updsA_eq2 (F := X742) (l1 := [(12, (upd (X742 12) nd (nI (nd + 1)))), (13, (upd ((stR X742 12 nd (nI (nd + 1))) 13) (nd + 1) 0)), (2, K), (2, K)]) (l2 := [(12, (upd (X742 12) nd (nI (nd + 1)))), (13, (upd ((stR X742 12 nd (nI (nd + 1))) 13) (nd + 1) 0)), (2, K)]) (V := [(upd (X742 12) nd (nI (nd + 1))), (upd ((stR X742 12 nd (nI (nd + 1))) 13) (nd + 1) 0), K, K, (upd (X742 12) nd (nI (nd + 1))), (upd ((stR X742 12 nd (nI (nd + 1))) 13) (nd + 1) 0), K]) rfl rfl) hP
              have hD : va_D A (mW G h0 a (upd (upd (upd (upd (upd (upd (upd F 15 (nI fa897)) 16 pl898) 27 (nI ((nd + 1) + 1))) 31 (nI wr701)) 64 (nI at896)) 65 (nI ne)) 66 (nI lk)) (updA (stR (stR X742 12 nd (nI (nd + 1))) 13 (nd + 1) 0) 2 K)) := mW_D hD
              refine W.widen (k := 0) (n := 0) (Nat.le_of_ble_eq_true rfl) (Nat.le_of_ble_eq_true rfl) ?_
              refine W.eq (g2 := F0 m 145 ls []) rfl ?_
              obtain ⟨n908, n907⟩ := h903 e771
              replace n908 := n908.symm
              subst n908
              replace n907 := n907.symm
              subst n907
              refine lv_aload_n hx hb dX12_loop_145 rfl (lv_at hl 4 rfl) ?_
              refine r_get (v := .int (nI fa761)) hx hb hown hq hE hP 15 350 tFX12_15 (by decide) pw_1594 rfl dX12_loop_146 ?_
              refine lv_if_ne (tgt := 171) hx hb dX12_loop_149 (by decide) (fun c909 => ?_) (fun c909 => (by have n910 : fa761 = 0 := (nI_eq (a := fa761) (b := 0) (by omega) (by omega)).mp c909; omega))
              refine lv_aload_n hx hb dX12_loop_171 rfl (lv_at hl 4 rfl) ?_
              refine lv_bipush (v := 59) hx hb dX12_loop_172 (by decide) ?_
              have hP : va_P G.1 pCl (mW G h0 a (upd (upd (upd (upd (upd (upd (upd (upd (upd F 15 (nI fa761)) 16 pl898) 27 (nI ((nd + 1) + 1))) 31 (nI wr701)) 64 (nI at760)) 65 (nI ne)) 66 (nI lk)) 15 (nI fa761)) 64 (nI at760)) (updA (updA (stR (stR X742 12 nd (nI (nd + 1))) 13 (nd + 1) 0) 2 K) 2 K)) _ := hP
              have hD : va_D A (mW G h0 a (upd (upd (upd (upd (upd (upd (upd (upd (upd F 15 (nI fa761)) 16 pl898) 27 (nI ((nd + 1) + 1))) 31 (nI wr701)) 64 (nI at760)) 65 (nI ne)) 66 (nI lk)) 15 (nI fa761)) 64 (nI at760)) (updA (updA (stR (stR X742 12 nd (nI (nd + 1))) 13 (nd + 1) 0) 2 K) 2 K)) := mW_D hD
              refine pc_V0 (G := G) (As := [.int 59]) (rest := []) hx hb hml hown hq hE hX pX0_al hP hD hS hA hl.1 (R_take l G h0 a (upd (upd (upd (upd (upd (upd (upd F 15 (nI fa761)) 16 pl898) 27 (nI ((nd + 1) + 1))) 31 (nI wr701)) 64 (nI at760)) 65 (nI ne)) 66 (nI lk)) (updA (stR (stR X742 12 nd (nI (nd + 1))) 13 (nd + 1) 0) 2 K) at760 T fa761 K 59 (by omega) (by omega) hK (by omega) (by decide) (by decide)) (gV pw_1614 pw_1615 pw_1616 pw_1523 pw_1601) hV_X12_take 0 9 rfl rfl rfl rfl (Nat.le_of_ble_eq_true rfl) dX12_loop_174 ⟨Nat.le_of_ble_eq_true rfl, Nat.le_of_ble_eq_true rfl⟩ ⟨(by show 4 + 1 ≤ (26 * n + 43); omega), (by show 8 + (2 + 11) + 103 ≤ (2000 * n + 4300); omega)⟩ (fun v913 u911 H locs hw912 hP hD hS => ?_)
              obtain ⟨at914, fa915, pl916⟩ := u911
              obtain ⟨hw912, h917, h918, h919, h920, h921, h922, h923, h924⟩ := hw912
              have h917 : at760 ≤ at914 := h917
              have h918 : at914 ≤ T := h918
              have h919 : fa761 ≤ fa915 := h919
              have h920 : fa915 ≤ 100 := h920
              have h921 : If (0 < fa761) (at914 = at760 ∧ fa915 = fa761) := h921
              have h922 : at914 ≤ at760 + 1 := h922
              have h923 : at760 + 1 ≤ at914 + fa915 := h923
              have h924 : If (fa915 = 0) (K at760 = 59) := h924
              obtain rfl : v913 = none := hw912
              have hP : va_P G.1 pCl (mW G h0 a (upd (upd (upd (upd (upd (upd (upd F 15 (nI fa915)) 16 pl916) 27 (nI ((nd + 1) + 1))) 31 (nI wr701)) 64 (nI at914)) 65 (nI ne)) 66 (nI lk)) (updA (stR (stR X742 12 nd (nI (nd + 1))) 13 (nd + 1) 0) 2 K)) _ := mW_to (F := F) (l1 := [(15, (nI fa761)), (16, pl898), (27, (nI ((nd + 1) + 1))), (31, (nI wr701)), (64, (nI at760)), (65, (nI ne)), (66, (nI lk)), (15, (nI fa915)), (16, pl916), (64, (nI at914))]) (l2 := [(15, (nI fa915)), (16, pl916), (27, (nI ((nd + 1) + 1))), (31, (nI wr701)), (64, (nI at914)), (65, (nI ne)), (66, (nI lk))]) (V := [(nI fa915), pl916, (nI ((nd + 1) + 1)), (nI wr701), (nI at914), (nI ne), (nI lk), (nI fa915), pl916, (nI at914), (nI fa915), pl916, (nI ((nd + 1) + 1)), (nI wr701), (nI at914), (nI ne), (nI lk)]) rfl rfl (show (updA (updA (stR (stR X742 12 nd (nI (nd + 1))) 13 (nd + 1) 0) 2 K) 2 K) = (updA (stR (stR X742 12 nd (nI (nd + 1))) 13 (nd + 1) 0) 2 K) from updsA_eq2 (F := X742) (l1 := [(12, (upd (X742 12) nd (nI (nd + 1)))), (13, (upd ((stR X742 12 nd (nI (nd + 1))) 13) (nd + 1) 0)), (2, K), (2, K)]) (l2 := [(12, (upd (X742 12) nd (nI (nd + 1)))), (13, (upd ((stR X742 12 nd (nI (nd + 1))) 13) (nd + 1) 0)), (2, K)]) (V := [(upd (X742 12) nd (nI (nd + 1))), (upd ((stR X742 12 nd (nI (nd + 1))) 13) (nd + 1) 0), K, K, (upd (X742 12) nd (nI (nd + 1))), (upd ((stR X742 12 nd (nI (nd + 1))) 13) (nd + 1) 0), K]) rfl rfl) hP
              have hD : va_D A (mW G h0 a (upd (upd (upd (upd (upd (upd (upd F 15 (nI fa915)) 16 pl916) 27 (nI ((nd + 1) + 1))) 31 (nI wr701)) 64 (nI at914)) 65 (nI ne)) 66 (nI lk)) (updA (stR (stR X742 12 nd (nI (nd + 1))) 13 (nd + 1) 0) 2 K)) := mW_D hD
              refine W.widen (k := 0) (n := 0) (Nat.le_of_ble_eq_true rfl) (Nat.le_of_ble_eq_true rfl) ?_
              refine W.eq (g2 := F0 m 177 ls []) rfl ?_
              obtain ⟨n926, n925⟩ := h921 e771
              replace n926 := n926.symm
              subst n926
              replace n925 := n925.symm
              subst n925
              refine lv_aload_n hx hb dX12_loop_177 rfl (lv_at hl 4 rfl) ?_
              refine r_get (v := .int (nI fa761)) hx hb hown hq hE hP 15 350 tFX12_15 (by decide) pw_1594 rfl dX12_loop_178 ?_
              refine lv_if_ne (tgt := 219) hx hb dX12_loop_181 (by decide) (fun c927 => ?_) (fun c927 => (by have n928 : fa761 = 0 := (nI_eq (a := fa761) (b := 0) (by omega) (by omega)).mp c927; omega))
              refine lv_aload_n hx hb dX12_loop_219 rfl (lv_at hl 4 rfl) ?_
              refine lv_bipush (v := 41) hx hb dX12_loop_220 (by decide) ?_
              have hP : va_P G.1 pCl (mW G h0 a (upd (upd (upd (upd (upd (upd (upd (upd (upd F 15 (nI fa761)) 16 pl916) 27 (nI ((nd + 1) + 1))) 31 (nI wr701)) 64 (nI at760)) 65 (nI ne)) 66 (nI lk)) 15 (nI fa761)) 64 (nI at760)) (updA (updA (stR (stR X742 12 nd (nI (nd + 1))) 13 (nd + 1) 0) 2 K) 2 K)) _ := hP
              have hD : va_D A (mW G h0 a (upd (upd (upd (upd (upd (upd (upd (upd (upd F 15 (nI fa761)) 16 pl916) 27 (nI ((nd + 1) + 1))) 31 (nI wr701)) 64 (nI at760)) 65 (nI ne)) 66 (nI lk)) 15 (nI fa761)) 64 (nI at760)) (updA (updA (stR (stR X742 12 nd (nI (nd + 1))) 13 (nd + 1) 0) 2 K) 2 K)) := mW_D hD
              refine pc_V0 (G := G) (As := [.int 41]) (rest := []) hx hb hml hown hq hE hX pX0_al hP hD hS hA hl.1 (R_take l G h0 a (upd (upd (upd (upd (upd (upd (upd F 15 (nI fa761)) 16 pl916) 27 (nI ((nd + 1) + 1))) 31 (nI wr701)) 64 (nI at760)) 65 (nI ne)) 66 (nI lk)) (updA (stR (stR X742 12 nd (nI (nd + 1))) 13 (nd + 1) 0) 2 K) at760 T fa761 K 41 (by omega) (by omega) hK (by omega) (by decide) (by decide)) (gV pw_1614 pw_1615 pw_1616 pw_1523 pw_1601) hV_X12_take 0 9 rfl rfl rfl rfl (Nat.le_of_ble_eq_true rfl) dX12_loop_222 ⟨Nat.le_of_ble_eq_true rfl, Nat.le_of_ble_eq_true rfl⟩ ⟨(by show 4 + 1 ≤ (26 * n + 43); omega), (by show 8 + (2 + 11) + 103 ≤ (2000 * n + 4300); omega)⟩ (fun v931 u929 H locs hw930 hP hD hS => ?_)
              obtain ⟨at932, fa933, pl934⟩ := u929
              obtain ⟨hw930, h935, h936, h937, h938, h939, h940, h941, h942⟩ := hw930
              have h935 : at760 ≤ at932 := h935
              have h936 : at932 ≤ T := h936
              have h937 : fa761 ≤ fa933 := h937
              have h938 : fa933 ≤ 100 := h938
              have h939 : If (0 < fa761) (at932 = at760 ∧ fa933 = fa761) := h939
              have h940 : at932 ≤ at760 + 1 := h940
              have h941 : at760 + 1 ≤ at932 + fa933 := h941
              have h942 : If (fa933 = 0) (K at760 = 41) := h942
              obtain rfl : v931 = none := hw930
              have hP : va_P G.1 pCl (mW G h0 a (upd (upd (upd (upd (upd (upd (upd F 15 (nI fa933)) 16 pl934) 27 (nI ((nd + 1) + 1))) 31 (nI wr701)) 64 (nI at932)) 65 (nI ne)) 66 (nI lk)) (updA (stR (stR X742 12 nd (nI (nd + 1))) 13 (nd + 1) 0) 2 K)) _ := mW_to (F := F) (l1 := [(15, (nI fa761)), (16, pl916), (27, (nI ((nd + 1) + 1))), (31, (nI wr701)), (64, (nI at760)), (65, (nI ne)), (66, (nI lk)), (15, (nI fa933)), (16, pl934), (64, (nI at932))]) (l2 := [(15, (nI fa933)), (16, pl934), (27, (nI ((nd + 1) + 1))), (31, (nI wr701)), (64, (nI at932)), (65, (nI ne)), (66, (nI lk))]) (V := [(nI fa933), pl934, (nI ((nd + 1) + 1)), (nI wr701), (nI at932), (nI ne), (nI lk), (nI fa933), pl934, (nI at932), (nI fa933), pl934, (nI ((nd + 1) + 1)), (nI wr701), (nI at932), (nI ne), (nI lk)]) rfl rfl (show (updA (updA (stR (stR X742 12 nd (nI (nd + 1))) 13 (nd + 1) 0) 2 K) 2 K) = (updA (stR (stR X742 12 nd (nI (nd + 1))) 13 (nd + 1) 0) 2 K) from updsA_eq2 (F := X742) (l1 := [(12, (upd (X742 12) nd (nI (nd + 1)))), (13, (upd ((stR X742 12 nd (nI (nd + 1))) 13) (nd + 1) 0)), (2, K), (2, K)]) (l2 := [(12, (upd (X742 12) nd (nI (nd + 1)))), (13, (upd ((stR X742 12 nd (nI (nd + 1))) 13) (nd + 1) 0)), (2, K)]) (V := [(upd (X742 12) nd (nI (nd + 1))), (upd ((stR X742 12 nd (nI (nd + 1))) 13) (nd + 1) 0), K, K, (upd (X742 12) nd (nI (nd + 1))), (upd ((stR X742 12 nd (nI (nd + 1))) 13) (nd + 1) 0), K]) rfl rfl) hP
              have hD : va_D A (mW G h0 a (upd (upd (upd (upd (upd (upd (upd F 15 (nI fa933)) 16 pl934) 27 (nI ((nd + 1) + 1))) 31 (nI wr701)) 64 (nI at932)) 65 (nI ne)) 66 (nI lk)) (updA (stR (stR X742 12 nd (nI (nd + 1))) 13 (nd + 1) 0) 2 K)) := mW_D hD
              refine W.widen (k := 0) (n := 0) (Nat.le_of_ble_eq_true rfl) (Nat.le_of_ble_eq_true rfl) ?_
              refine W.eq (g2 := F0 m 225 ls []) rfl ?_
              obtain ⟨n944, n943⟩ := h939 e771
              replace n944 := n944.symm
              subst n944
              replace n943 := n943.symm
              subst n943
              refine lv_aload_n hx hb dX12_loop_225 rfl (lv_at hl 4 rfl) ?_
              refine r_get (v := .ref (a 15)) hx hb hown hq hE hP 23 56 tFX12_23 (by decide) pw_1445 rfl dX12_loop_226 ?_
              refine lv_iload_n hx hb dX12_loop_229 rfl (lv_at hl 3 rfl) ?_
              refine lv_aload_n hx hb dX12_loop_230 rfl (lv_at hl 4 rfl) ?_
              have hP : va_P G.1 pCl (mW G h0 a (upd (upd (upd (upd (upd (upd (upd (upd (upd F 15 (nI fa761)) 16 pl934) 27 (nI ((nd + 1) + 1))) 31 (nI wr701)) 64 (nI at760)) 65 (nI ne)) 66 (nI lk)) 15 (nI fa761)) 64 (nI at760)) (updA (updA (stR (stR X742 12 nd (nI (nd + 1))) 13 (nd + 1) 0) 2 K) 2 K)) _ := hP
              have hD : va_D A (mW G h0 a (upd (upd (upd (upd (upd (upd (upd (upd (upd F 15 (nI fa761)) 16 pl934) 27 (nI ((nd + 1) + 1))) 31 (nI wr701)) 64 (nI at760)) 65 (nI ne)) 66 (nI lk)) 15 (nI fa761)) 64 (nI at760)) (updA (updA (stR (stR X742 12 nd (nI (nd + 1))) 13 (nd + 1) 0) 2 K) 2 K)) := mW_D hD
              refine pc_V0 (G := G) (As := []) (rest := [.int (nI nd), .ref (a 15)]) hx hb hml hown hq hE hX pX0_al hP hD hS hA hl.1 (RF_statement l G h0 a (upd (upd (upd (upd (upd (upd (upd F 15 (nI fa761)) 16 pl934) 27 (nI ((nd + 1) + 1))) 31 (nI wr701)) 64 (nI at760)) 65 (nI ne)) 66 (nI lk)) (updA (stR (stR X742 12 nd (nI (nd + 1))) 13 (nd + 1) 0) 2 K) at760 T fa761 K (by omega) (by omega) hK (by omega) e771) (gV pw_1699 pw_1700 pw_1701 pw_1523 pw_1706) hV_X12_statement 0 9 rfl rfl rfl rfl (Nat.le_of_ble_eq_true rfl) dX12_loop_231 ⟨Nat.le_of_ble_eq_true rfl, Nat.le_of_ble_eq_true rfl⟩ ⟨(by show 2 + 1 ≤ (26 * n + 43); omega), (by show 8 + (3 + 11) + 60 ≤ (2000 * n + 4300); omega)⟩ (fun v947 u945 H locs hw946 hP hD hS => ?_)
              obtain rfl : v947 = some (.int 0) := hw946
              have hP : va_P G.1 pCl (mW G h0 a (upd (upd (upd (upd (upd (upd (upd F 15 (nI fa761)) 16 pl934) 27 (nI ((nd + 1) + 1))) 31 (nI wr701)) 64 (nI at760)) 65 (nI ne)) 66 (nI lk)) (updA (stR (stR X742 12 nd (nI (nd + 1))) 13 (nd + 1) 0) 2 K)) _ := mW_to (F := F) (l1 := [(15, (nI fa761)), (16, pl934), (27, (nI ((nd + 1) + 1))), (31, (nI wr701)), (64, (nI at760)), (65, (nI ne)), (66, (nI lk)), (15, (nI fa761)), (64, (nI at760))]) (l2 := [(15, (nI fa761)), (16, pl934), (27, (nI ((nd + 1) + 1))), (31, (nI wr701)), (64, (nI at760)), (65, (nI ne)), (66, (nI lk))]) (V := [(nI fa761), pl934, (nI ((nd + 1) + 1)), (nI wr701), (nI at760), (nI ne), (nI lk), (nI fa761), (nI at760), (nI fa761), pl934, (nI ((nd + 1) + 1)), (nI wr701), (nI at760), (nI ne), (nI lk)]) rfl rfl (show (updA (updA (stR (stR X742 12 nd (nI (nd + 1))) 13 (nd + 1) 0) 2 K) 2 K) = (updA (stR (stR X742 12 nd (nI (nd + 1))) 13 (nd + 1) 0) 2 K) from updsA_eq2 (F := X742) (l1 := [(12, (upd (X742 12) nd (nI (nd + 1)))), (13, (upd ((stR X742 12 nd (nI (nd + 1))) 13) (nd + 1) 0)), (2, K), (2, K)]) (l2 := [(12, (upd (X742 12) nd (nI (nd + 1)))), (13, (upd ((stR X742 12 nd (nI (nd + 1))) 13) (nd + 1) 0)), (2, K)]) (V := [(upd (X742 12) nd (nI (nd + 1))), (upd ((stR X742 12 nd (nI (nd + 1))) 13) (nd + 1) 0), K, K, (upd (X742 12) nd (nI (nd + 1))), (upd ((stR X742 12 nd (nI (nd + 1))) 13) (nd + 1) 0), K]) rfl rfl) hP
              have hD : va_D A (mW G h0 a (upd (upd (upd (upd (upd (upd (upd F 15 (nI fa761)) 16 pl934) 27 (nI ((nd + 1) + 1))) 31 (nI wr701)) 64 (nI at760)) 65 (nI ne)) 66 (nI lk)) (updA (stR (stR X742 12 nd (nI (nd + 1))) 13 (nd + 1) 0) 2 K)) := mW_D hD
              refine W.widen (k := 0) (n := 0) (Nat.le_of_ble_eq_true rfl) (Nat.le_of_ble_eq_true rfl) ?_
              refine W.eq (g2 := F0 m 234 ls [.int 0, .int (nI nd), .ref (a 15)]) rfl ?_
              refine r_sti (f := ((stR (stR X742 12 nd (nI (nd + 1))) 13 (nd + 1) 0) 15)) (j := nd) hx hb hE hP hD hS 15 (ma_15 G a _) rfl (mas_15 G a _) (by omega) (by decide) dX12_loop_234 (fun H locs hP hD hS => ?_)
              have hP : va_P G.1 pCl (mW G h0 a (upd (upd (upd (upd (upd (upd (upd F 15 (nI fa761)) 16 pl934) 27 (nI ((nd + 1) + 1))) 31 (nI wr701)) 64 (nI at760)) 65 (nI ne)) 66 (nI lk)) (updA (stR (stR (stR X742 12 nd (nI (nd + 1))) 13 (nd + 1) 0) 15 nd 0) 2 K)) _ := mW_to (F := F) (l1 := [(15, (nI fa761)), (16, pl934), (27, (nI ((nd + 1) + 1))), (31, (nI wr701)), (64, (nI at760)), (65, (nI ne)), (66, (nI lk))]) (l2 := [(15, (nI fa761)), (16, pl934), (27, (nI ((nd + 1) + 1))), (31, (nI wr701)), (64, (nI at760)), (65, (nI ne)), (66, (nI lk))]) (V := [(nI fa761), pl934, (nI ((nd + 1) + 1)), (nI wr701), (nI at760), (nI ne), (nI lk), (nI fa761), pl934, (nI ((nd + 1) + 1)), (nI wr701), (nI at760), (nI ne), (nI lk)]) rfl rfl (show (updA (updA (stR (stR X742 12 nd (nI (nd + 1))) 13 (nd + 1) 0) 2 K) 15 (upd ((stR (stR X742 12 nd (nI (nd + 1))) 13 (nd + 1) 0) 15) nd 0)) = (updA (stR (stR (stR X742 12 nd (nI (nd + 1))) 13 (nd + 1) 0) 15 nd 0) 2 K) from updsA_eq2 (F := X742) (l1 := [(12, (upd (X742 12) nd (nI (nd + 1)))), (13, (upd ((stR X742 12 nd (nI (nd + 1))) 13) (nd + 1) 0)), (2, K), (15, (upd ((stR (stR X742 12 nd (nI (nd + 1))) 13 (nd + 1) 0) 15) nd 0))]) (l2 := [(12, (upd (X742 12) nd (nI (nd + 1)))), (13, (upd ((stR X742 12 nd (nI (nd + 1))) 13) (nd + 1) 0)), (15, (upd ((stR (stR X742 12 nd (nI (nd + 1))) 13 (nd + 1) 0) 15) nd 0)), (2, K)]) (V := [(upd (X742 12) nd (nI (nd + 1))), (upd ((stR X742 12 nd (nI (nd + 1))) 13) (nd + 1) 0), K, (upd ((stR (stR X742 12 nd (nI (nd + 1))) 13 (nd + 1) 0) 15) nd 0), (upd (X742 12) nd (nI (nd + 1))), (upd ((stR X742 12 nd (nI (nd + 1))) 13) (nd + 1) 0), (upd ((stR (stR X742 12 nd (nI (nd + 1))) 13 (nd + 1) 0) 15) nd 0), K]) rfl rfl) hP
              have hD : va_D A (mW G h0 a (upd (upd (upd (upd (upd (upd (upd F 15 (nI fa761)) 16 pl934) 27 (nI ((nd + 1) + 1))) 31 (nI wr701)) 64 (nI at760)) 65 (nI ne)) 66 (nI lk)) (updA (stR (stR (stR X742 12 nd (nI (nd + 1))) 13 (nd + 1) 0) 15 nd 0) 2 K)) := mW_D hD
              have hkp948 : Kp B (stR (stR (stR X742 12 nd (nI (nd + 1))) 13 (nd + 1) 0) 15 nd 0) wr701 T := (Kp.row hkp892 (by omega))
              refine lv_iload_n hx hb dX12_loop_235 rfl (lv_at hl 3 rfl) ?_
              have hz949 : at0 ≤ at760 := (by omega)
              have hz950 : at760 ≤ T := (by omega)
              have hz951 : fa761 ≤ 100 := (by omega)
              have hz952 : nd ≤ ((nd + 1) + 1) := (by omega)
              have hz953 : ((nd + 1) + 1) + 2 * at0 ≤ nd + 2 * at760 + 100000 * fa761 := (by omega)
              have hz954 : ((nd + 1) + 1) + 2 * at0 ≤ nd + 2 * at760 + (60 * (21 - ne) + 40) := (by omega)
              have hz955 : wr ≤ wr701 := (by omega)
              have hz956 : wr701 + at0 ≤ wr + at760 := (by omega)
              have hz957 : lk ≤ lk := (by omega)
              have hz958 : lk ≤ 60 + 100 * fa761 := (by omega)
              have hz959 : at0 + 1 ≤ at760 + fa761 := (by omega)
              have hz960 : nd ≤ ((nd + 1) + 1) := (by omega)
              have hz961 : Kp B (stR (stR (stR X742 12 nd (nI (nd + 1))) 13 (nd + 1) 0) 15 nd 0) wr701 T := hkp948
              have hz962 : If (fa761 = 0) (Low B (stR (stR (stR X742 12 nd (nI (nd + 1))) 13 (nd + 1) 0) 15 nd 0) nd wr ∧ Frs K T wr701 (stR (stR (stR X742 12 nd (nI (nd + 1))) 13 (nd + 1) 0) 15 nd 0) nd ((nd + 1) + 1) 20000 [(nd, (280 + 4 * (21 - ne)))] ∧ kcl 3 ((stR (stR (stR X742 12 nd (nI (nd + 1))) 13 (nd + 1) 0) 15 nd 0) 9 nd) = true) := (fun e => absurd e (by omega))
              have hP : va_P G.1 pCl (mW G h0 a (upd (upd (upd (upd (upd (upd (upd F 15 (nI fa761)) 16 pl934) 27 (nI ((nd + 1) + 1))) 31 (nI wr701)) 64 (nI at760)) 65 (nI ne)) 66 (nI lk)) (updA (stR (stR (stR X742 12 nd (nI (nd + 1))) 13 (nd + 1) 0) 15 nd 0) 2 K)) _ := hP
              have hD : va_D A (mW G h0 a (upd (upd (upd (upd (upd (upd (upd F 15 (nI fa761)) 16 pl934) 27 (nI ((nd + 1) + 1))) 31 (nI wr701)) 64 (nI at760)) 65 (nI ne)) 66 (nI lk)) (updA (stR (stR (stR X742 12 nd (nI (nd + 1))) 13 (nd + 1) 0) 15 nd 0) 2 K)) := mW_D hD
              exact W.iret (v := (nI nd)) hx hb hr (fun t9 ht9 hW9 => ⟨⟨_, (at760, fa761, pl934, ((nd + 1) + 1), lk, wr701, nd, (stR (stR (stR X742 12 nd (nI (nd + 1))) 13 (nd + 1) 0) 15 nd 0)), rfl, ⟨rfl, hz949, hz950, hz951, hz952, hz953, hz954, hz955, hz956, hz957, hz958, hz959, hz960, hz961, hz962⟩, by rw [ht9]; exact hP, hD⟩, hS.F ht9⟩) hS.2.2 dX12_loop_236
          · have e738 := e738
            refine lv_istore (lv' := [(4, .int (nI at698)), (3, .int (nI r702)), (2, .int (nI at17)), (1, .int (nI nd)), (0, .ref h0)]) hx hb dX12_loop_70 hl (by decide) rfl (fun ls hl => ?_)
            refine lv_aload_n hx hb dX12_loop_72 rfl (lv_at hl 4 rfl) ?_
            refine r_get (v := .ref (a 12)) hx hb hown hq hE hP 20 47 tFX12_20 (by decide) pw_1442 rfl dX12_loop_73 ?_
            refine lv_iload_n hx hb dX12_loop_76 rfl (lv_at hl 3 rfl) ?_
            refine lv_aload_n hx hb dX12_loop_77 rfl (lv_at hl 4 rfl) ?_
            refine lv_bipush (v := 30) hx hb dX12_loop_78 (by decide) ?_
            refine lv_iload_n hx hb dX12_loop_80 rfl (lv_at hl 2 rfl) ?_
            refine lv_iload hx hb dX12_loop_81 (lv_at hl 0 rfl) ?_
            refine lv_iload_n hx hb dX12_loop_83 rfl (lv_at hl 1 rfl) ?_
            refine lv_iconst (v := (-1)) hx hb dX12_loop_84 (by decide) ?_
            have hP : va_P G.1 pCl (mW G h0 a (upd (upd (upd (upd (upd (upd (upd (upd F 15 (nI fa728)) 16 pl729) 27 (nI (nd + 1))) 31 (nI wr701)) 64 (nI at727)) 65 (nI ne)) 66 (nI lk)) 27 (nI (nd + 1))) (updA (updA (updA X6 19 yt703) 20 yr704) 2 K)) _ := mW_to (F := F) (l1 := [(15, (nI fa728)), (16, pl729), (27, (nI (nd + 1))), (31, (nI wr701)), (64, (nI at727)), (65, (nI ne)), (66, (nI lk))]) (l2 := [(15, (nI fa728)), (16, pl729), (27, (nI (nd + 1))), (31, (nI wr701)), (64, (nI at727)), (65, (nI ne)), (66, (nI lk)), (27, (nI (nd + 1)))]) (V := [(nI fa728), pl729, (nI (nd + 1)), (nI wr701), (nI at727), (nI ne), (nI lk), (nI fa728), pl729, (nI (nd + 1)), (nI wr701), (nI at727), (nI ne), (nI lk), (nI (nd + 1))]) rfl rfl rfl hP
            have hD : va_D A (mW G h0 a (upd (upd (upd (upd (upd (upd (upd (upd F 15 (nI fa728)) 16 pl729) 27 (nI (nd + 1))) 31 (nI wr701)) 64 (nI at727)) 65 (nI ne)) 66 (nI lk)) 27 (nI (nd + 1))) (updA (updA (updA X6 19 yt703) 20 yr704) 2 K)) := mW_D hD
            refine pc_V0 (G := G) (As := [.int 30, .int (nI at17), .int (nI at698), .int (nI r702), .int (-1)]) (rest := [.int (nI nd), .ref (a 12)]) hx hb hml hown hq hE hX pX0_al hP hD hS hA hl.1 (R_nodeB l G h0 a (upd (upd (upd (upd (upd (upd (upd F 15 (nI fa728)) 16 pl729) 27 (nI (nd + 1))) 31 (nI wr701)) 64 (nI at727)) 65 (nI ne)) 66 (nI lk)) (updA (updA X6 19 yt703) 20 yr704) 30 (nI at17) (nI at698) (nI r702) (-1) (nd + 1) K (by omega)) (gV pw_1650 pw_1651 pw_1652 pw_1523 pw_1589) hV_X12_node 0 9 rfl rfl rfl rfl (Nat.le_of_ble_eq_true rfl) dX12_loop_85 ⟨Nat.le_of_ble_eq_true rfl, Nat.le_of_ble_eq_true rfl⟩ ⟨(by show 2 + 1 ≤ (26 * n + 43); omega), (by show 8 + (7 + 11) + 60 ≤ (2000 * n + 4300); omega)⟩ (fun v965 u963 H locs hw964 hP hD hS => ?_)
            obtain ⟨X966, rfl⟩ : ∃ z, z = u963 := ⟨_, rfl⟩
            obtain ⟨hw964, h967⟩ := hw964
            have h967 : NewN (updA (updA X6 19 yt703) 20 yr704) X966 (nd + 1) 30 (nI at17) (nI at698) (nI r702) (-1) := h967
            obtain rfl : v965 = some (.int (nI (nd + 1))) := hw964
            have hP : va_P G.1 pCl (mW G h0 a (upd (upd (upd (upd (upd (upd (upd F 15 (nI fa728)) 16 pl729) 27 (nI ((nd + 1) + 1))) 31 (nI wr701)) 64 (nI at727)) 65 (nI ne)) 66 (nI lk)) (updA X966 2 K)) _ := mW_to (F := F) (l1 := [(15, (nI fa728)), (16, pl729), (27, (nI (nd + 1))), (31, (nI wr701)), (64, (nI at727)), (65, (nI ne)), (66, (nI lk)), (27, (nI ((nd + 1) + 1)))]) (l2 := [(15, (nI fa728)), (16, pl729), (27, (nI ((nd + 1) + 1))), (31, (nI wr701)), (64, (nI at727)), (65, (nI ne)), (66, (nI lk))]) (V := [(nI fa728), pl729, (nI ((nd + 1) + 1)), (nI wr701), (nI at727), (nI ne), (nI lk), (nI ((nd + 1) + 1)), (nI fa728), pl729, (nI ((nd + 1) + 1)), (nI wr701), (nI at727), (nI ne), (nI lk)]) rfl rfl rfl hP
            have hD : va_D A (mW G h0 a (upd (upd (upd (upd (upd (upd (upd F 15 (nI fa728)) 16 pl729) 27 (nI ((nd + 1) + 1))) 31 (nI wr701)) 64 (nI at727)) 65 (nI ne)) 66 (nI lk)) (updA X966 2 K)) := mW_D hD
            refine W.widen (k := 0) (n := 0) (Nat.le_of_ble_eq_true rfl) (Nat.le_of_ble_eq_true rfl) ?_
            refine W.eq (g2 := F0 m 88 ls [.int (nI (nd + 1)), .int (nI nd), .ref (a 12)]) rfl ?_
            have hkp968 : Kp B X966 wr701 T := (Kp.new hkp719 h967)
            refine r_sti (f := (X966 12)) (j := nd) hx hb hE hP hD hS 12 (ma_12 G a _) rfl (mas_12 G a _) (by omega) (by decide) dX12_loop_88 (fun H locs hP hD hS => ?_)
            have hP : va_P G.1 pCl (mW G h0 a (upd (upd (upd (upd (upd (upd (upd F 15 (nI fa728)) 16 pl729) 27 (nI ((nd + 1) + 1))) 31 (nI wr701)) 64 (nI at727)) 65 (nI ne)) 66 (nI lk)) (updA (stR X966 12 nd (nI (nd + 1))) 2 K)) _ := mW_to (F := F) (l1 := [(15, (nI fa728)), (16, pl729), (27, (nI ((nd + 1) + 1))), (31, (nI wr701)), (64, (nI at727)), (65, (nI ne)), (66, (nI lk))]) (l2 := [(15, (nI fa728)), (16, pl729), (27, (nI ((nd + 1) + 1))), (31, (nI wr701)), (64, (nI at727)), (65, (nI ne)), (66, (nI lk))]) (V := [(nI fa728), pl729, (nI ((nd + 1) + 1)), (nI wr701), (nI at727), (nI ne), (nI lk), (nI fa728), pl729, (nI ((nd + 1) + 1)), (nI wr701), (nI at727), (nI ne), (nI lk)]) rfl rfl (show (updA (updA X966 2 K) 12 (upd (X966 12) nd (nI (nd + 1)))) = (updA (stR X966 12 nd (nI (nd + 1))) 2 K) from updsA_eq2 (F := X966) (l1 := [(2, K), (12, (upd (X966 12) nd (nI (nd + 1))))]) (l2 := [(12, (upd (X966 12) nd (nI (nd + 1)))), (2, K)]) (V := [K, (upd (X966 12) nd (nI (nd + 1))), (upd (X966 12) nd (nI (nd + 1))), K]) rfl rfl) hP
            have hD : va_D A (mW G h0 a (upd (upd (upd (upd (upd (upd (upd F 15 (nI fa728)) 16 pl729) 27 (nI ((nd + 1) + 1))) 31 (nI wr701)) 64 (nI at727)) 65 (nI ne)) 66 (nI lk)) (updA (stR X966 12 nd (nI (nd + 1))) 2 K)) := mW_D hD
            have hkp969 : Kp B (stR X966 12 nd (nI (nd + 1))) wr701 T := (Kp.row hkp968 (by omega))
            refine lv_aload_n hx hb dX12_loop_89 rfl (lv_at hl 4 rfl) ?_
            refine lv_bipush (v := 61) hx hb dX12_loop_90 (by decide) ?_
            have hP : va_P G.1 pCl (mW G h0 a (upd (upd (upd (upd (upd (upd (upd (upd (upd F 15 (nI fa728)) 16 pl729) 27 (nI ((nd + 1) + 1))) 31 (nI wr701)) 64 (nI at727)) 65 (nI ne)) 66 (nI lk)) 15 (nI fa728)) 64 (nI at727)) (updA (updA (stR X966 12 nd (nI (nd + 1))) 2 K) 2 K)) _ := mW_to (F := F) (l1 := [(15, (nI fa728)), (16, pl729), (27, (nI ((nd + 1) + 1))), (31, (nI wr701)), (64, (nI at727)), (65, (nI ne)), (66, (nI lk))]) (l2 := [(15, (nI fa728)), (16, pl729), (27, (nI ((nd + 1) + 1))), (31, (nI wr701)), (64, (nI at727)), (65, (nI ne)), (66, (nI lk)), (15, (nI fa728)), (64, (nI at727))]) (V := [(nI fa728), pl729, (nI ((nd + 1) + 1)), (nI wr701), (nI at727), (nI ne), (nI lk), (nI fa728), pl729, (nI ((nd + 1) + 1)), (nI wr701), (nI at727), (nI ne), (nI lk), (nI fa728), (nI at727)]) rfl rfl (show (updA (stR X966 12 nd (nI (nd + 1))) 2 K) = (updA (updA (stR X966 12 nd (nI (nd + 1))) 2 K) 2 K) from updsA_eq2 (F := X966) (l1 := [(12, (upd (X966 12) nd (nI (nd + 1)))), (2, K)]) (l2 := [(12, (upd (X966 12) nd (nI (nd + 1)))), (2, K), (2, K)]) (V := [(upd (X966 12) nd (nI (nd + 1))), K, (upd (X966 12) nd (nI (nd + 1))), K, K]) rfl rfl) hP
            have hD : va_D A (mW G h0 a (upd (upd (upd (upd (upd (upd (upd (upd (upd F 15 (nI fa728)) 16 pl729) 27 (nI ((nd + 1) + 1))) 31 (nI wr701)) 64 (nI at727)) 65 (nI ne)) 66 (nI lk)) 15 (nI fa728)) 64 (nI at727)) (updA (updA (stR X966 12 nd (nI (nd + 1))) 2 K) 2 K)) := mW_D hD
            refine pc_V0 (G := G) (As := [.int 61]) (rest := []) hx hb hml hown hq hE hX pX0_al hP hD hS hA hl.1 (R_take l G h0 a (upd (upd (upd (upd (upd (upd (upd F 15 (nI fa728)) 16 pl729) 27 (nI ((nd + 1) + 1))) 31 (nI wr701)) 64 (nI at727)) 65 (nI ne)) 66 (nI lk)) (updA (stR X966 12 nd (nI (nd + 1))) 2 K) at727 T fa728 K 61 (by omega) (by omega) hK (by omega) (by decide) (by decide)) (gV pw_1614 pw_1615 pw_1616 pw_1523 pw_1601) hV_X12_take 0 9 rfl rfl rfl rfl (Nat.le_of_ble_eq_true rfl) dX12_loop_92 ⟨Nat.le_of_ble_eq_true rfl, Nat.le_of_ble_eq_true rfl⟩ ⟨(by show 4 + 1 ≤ (26 * n + 43); omega), (by show 8 + (2 + 11) + 103 ≤ (2000 * n + 4300); omega)⟩ (fun v972 u970 H locs hw971 hP hD hS => ?_)
            obtain ⟨at973, fa974, pl975⟩ := u970
            obtain ⟨hw971, h976, h977, h978, h979, h980, h981, h982, h983⟩ := hw971
            have h976 : at727 ≤ at973 := h976
            have h977 : at973 ≤ T := h977
            have h978 : fa728 ≤ fa974 := h978
            have h979 : fa974 ≤ 100 := h979
            have h980 : If (0 < fa728) (at973 = at727 ∧ fa974 = fa728) := h980
            have h981 : at973 ≤ at727 + 1 := h981
            have h982 : at727 + 1 ≤ at973 + fa974 := h982
            have h983 : If (fa974 = 0) (K at727 = 61) := h983
            obtain rfl : v972 = none := hw971
            have hP : va_P G.1 pCl (mW G h0 a (upd (upd (upd (upd (upd (upd (upd F 15 (nI fa974)) 16 pl975) 27 (nI ((nd + 1) + 1))) 31 (nI wr701)) 64 (nI at973)) 65 (nI ne)) 66 (nI lk)) (updA (stR X966 12 nd (nI (nd + 1))) 2 K)) _ := mW_to (F := F) (l1 := [(15, (nI fa728)), (16, pl729), (27, (nI ((nd + 1) + 1))), (31, (nI wr701)), (64, (nI at727)), (65, (nI ne)), (66, (nI lk)), (15, (nI fa974)), (16, pl975), (64, (nI at973))]) (l2 := [(15, (nI fa974)), (16, pl975), (27, (nI ((nd + 1) + 1))), (31, (nI wr701)), (64, (nI at973)), (65, (nI ne)), (66, (nI lk))]) (V := [(nI fa974), pl975, (nI ((nd + 1) + 1)), (nI wr701), (nI at973), (nI ne), (nI lk), (nI fa974), pl975, (nI at973), (nI fa974), pl975, (nI ((nd + 1) + 1)), (nI wr701), (nI at973), (nI ne), (nI lk)]) rfl rfl (show (updA (updA (stR X966 12 nd (nI (nd + 1))) 2 K) 2 K) = (updA (stR X966 12 nd (nI (nd + 1))) 2 K) from updsA_eq2 (F := X966) (l1 := [(12, (upd (X966 12) nd (nI (nd + 1)))), (2, K), (2, K)]) (l2 := [(12, (upd (X966 12) nd (nI (nd + 1)))), (2, K)]) (V := [(upd (X966 12) nd (nI (nd + 1))), K, K, (upd (X966 12) nd (nI (nd + 1))), K]) rfl rfl) hP
            have hD : va_D A (mW G h0 a (upd (upd (upd (upd (upd (upd (upd F 15 (nI fa974)) 16 pl975) 27 (nI ((nd + 1) + 1))) 31 (nI wr701)) 64 (nI at973)) 65 (nI ne)) 66 (nI lk)) (updA (stR X966 12 nd (nI (nd + 1))) 2 K)) := mW_D hD
            refine W.widen (k := 0) (n := 0) (Nat.le_of_ble_eq_true rfl) (Nat.le_of_ble_eq_true rfl) ?_
            refine W.eq (g2 := F0 m 95 ls []) rfl ?_
            obtain ⟨n985, n984⟩ := h980 e738
            replace n985 := n985.symm
            subst n985
            replace n984 := n984.symm
            subst n984
            refine lv_aload_n hx hb dX12_loop_95 rfl (lv_at hl 4 rfl) ?_
            refine r_get (v := .ref (a 13)) hx hb hown hq hE hP 21 50 tFX12_21 (by decide) pw_1443 rfl dX12_loop_96 ?_
            refine lv_aload_n hx hb dX12_loop_99 rfl (lv_at hl 4 rfl) ?_
            refine r_get (v := .ref (a 12)) hx hb hown hq hE hP 20 47 tFX12_20 (by decide) pw_1442 rfl dX12_loop_100 ?_
            refine lv_iload_n hx hb dX12_loop_103 rfl (lv_at hl 3 rfl) ?_
            refine r_ldi (f := ((stR X966 12 nd (nI (nd + 1))) 12)) (j := nd) hx hb hE hP 12 (ma_12 G a _) rfl (by omega) (by decide) dX12_loop_104 ?_
            refine lv_topi (fun x986 e987 => ?_)
            obtain rfl : x986 = nI (nd + 1) := e987.trans st_eq
            refine lv_aload_n hx hb dX12_loop_105 rfl (lv_at hl 4 rfl) ?_
            have hP : va_P G.1 pCl (mW G h0 a (upd (upd (upd (upd (upd (upd (upd (upd (upd F 15 (nI fa728)) 16 pl975) 27 (nI ((nd + 1) + 1))) 31 (nI wr701)) 64 (nI at727)) 65 (nI ne)) 66 (nI lk)) 15 (nI fa728)) 64 (nI at727)) (updA (updA (stR X966 12 nd (nI (nd + 1))) 2 K) 2 K)) _ := hP
            have hD : va_D A (mW G h0 a (upd (upd (upd (upd (upd (upd (upd (upd (upd F 15 (nI fa728)) 16 pl975) 27 (nI ((nd + 1) + 1))) 31 (nI wr701)) 64 (nI at727)) 65 (nI ne)) 66 (nI lk)) 15 (nI fa728)) 64 (nI at727)) (updA (updA (stR X966 12 nd (nI (nd + 1))) 2 K) 2 K)) := mW_D hD
            refine pc_V0 (G := G) (As := []) (rest := [.int (nI (nd + 1)), .ref (a 13)]) hx hb hml hown hq hE hX pX0_al hP hD hS hA hl.1 (RF_choice l G h0 a (upd (upd (upd (upd (upd (upd (upd F 15 (nI fa728)) 16 pl975) 27 (nI ((nd + 1) + 1))) 31 (nI wr701)) 64 (nI at727)) 65 (nI ne)) 66 (nI lk)) (updA (stR X966 12 nd (nI (nd + 1))) 2 K) at727 T fa728 K (by omega) (by omega) hK (by omega) e738) (gV pw_1640 pw_1641 pw_1642 pw_1523 pw_1656) hV_X12_choice 0 9 rfl rfl rfl rfl (Nat.le_of_ble_eq_true rfl) dX12_loop_106 ⟨Nat.le_of_ble_eq_true rfl, Nat.le_of_ble_eq_true rfl⟩ ⟨(by show 16 + 1 ≤ (26 * n + 43); omega), (by show 8 + (4 + 11) + 405 ≤ (2000 * n + 4300); omega)⟩ (fun v990 u988 H locs hw989 hP hD hS => ?_)
            obtain rfl : v990 = some (.int 0) := hw989
            have hP : va_P G.1 pCl (mW G h0 a (upd (upd (upd (upd (upd (upd (upd F 15 (nI fa728)) 16 pl975) 27 (nI ((nd + 1) + 1))) 31 (nI wr701)) 64 (nI at727)) 65 (nI ne)) 66 (nI lk)) (updA (stR X966 12 nd (nI (nd + 1))) 2 K)) _ := mW_to (F := F) (l1 := [(15, (nI fa728)), (16, pl975), (27, (nI ((nd + 1) + 1))), (31, (nI wr701)), (64, (nI at727)), (65, (nI ne)), (66, (nI lk)), (15, (nI fa728)), (64, (nI at727))]) (l2 := [(15, (nI fa728)), (16, pl975), (27, (nI ((nd + 1) + 1))), (31, (nI wr701)), (64, (nI at727)), (65, (nI ne)), (66, (nI lk))]) (V := [(nI fa728), pl975, (nI ((nd + 1) + 1)), (nI wr701), (nI at727), (nI ne), (nI lk), (nI fa728), (nI at727), (nI fa728), pl975, (nI ((nd + 1) + 1)), (nI wr701), (nI at727), (nI ne), (nI lk)]) rfl rfl (show (updA (updA (stR X966 12 nd (nI (nd + 1))) 2 K) 2 K) = (updA (stR X966 12 nd (nI (nd + 1))) 2 K) from updsA_eq2 (F := X966) (l1 := [(12, (upd (X966 12) nd (nI (nd + 1)))), (2, K), (2, K)]) (l2 := [(12, (upd (X966 12) nd (nI (nd + 1)))), (2, K)]) (V := [(upd (X966 12) nd (nI (nd + 1))), K, K, (upd (X966 12) nd (nI (nd + 1))), K]) rfl rfl) hP
            have hD : va_D A (mW G h0 a (upd (upd (upd (upd (upd (upd (upd F 15 (nI fa728)) 16 pl975) 27 (nI ((nd + 1) + 1))) 31 (nI wr701)) 64 (nI at727)) 65 (nI ne)) 66 (nI lk)) (updA (stR X966 12 nd (nI (nd + 1))) 2 K)) := mW_D hD
            refine W.widen (k := 0) (n := 0) (Nat.le_of_ble_eq_true rfl) (Nat.le_of_ble_eq_true rfl) ?_
            refine W.eq (g2 := F0 m 109 ls [.int 0, .int (nI (nd + 1)), .ref (a 13)]) rfl ?_
            refine r_sti (f := ((stR X966 12 nd (nI (nd + 1))) 13)) (j := (nd + 1)) hx hb hE hP hD hS 13 (ma_13 G a _) rfl (mas_13 G a _) (by omega) (by decide) dX12_loop_109 (fun H locs hP hD hS => ?_)
            have hP : va_P G.1 pCl (mW G h0 a (upd (upd (upd (upd (upd (upd (upd F 15 (nI fa728)) 16 pl975) 27 (nI ((nd + 1) + 1))) 31 (nI wr701)) 64 (nI at727)) 65 (nI ne)) 66 (nI lk)) (updA (stR (stR X966 12 nd (nI (nd + 1))) 13 (nd + 1) 0) 2 K)) _ := mW_to (F := F) (l1 := [(15, (nI fa728)), (16, pl975), (27, (nI ((nd + 1) + 1))), (31, (nI wr701)), (64, (nI at727)), (65, (nI ne)), (66, (nI lk))]) (l2 := [(15, (nI fa728)), (16, pl975), (27, (nI ((nd + 1) + 1))), (31, (nI wr701)), (64, (nI at727)), (65, (nI ne)), (66, (nI lk))]) (V := [(nI fa728), pl975, (nI ((nd + 1) + 1)), (nI wr701), (nI at727), (nI ne), (nI lk), (nI fa728), pl975, (nI ((nd + 1) + 1)), (nI wr701), (nI at727), (nI ne), (nI lk)]) rfl rfl (show (updA (updA (stR X966 12 nd (nI (nd + 1))) 2 K) 13 (upd ((stR X966 12 nd (nI (nd + 1))) 13) (nd + 1) 0)) = (updA (stR (stR X966 12 nd (nI (nd + 1))) 13 (nd + 1) 0) 2 K) from updsA_eq2 (F := X966) (l1 := [(12, (upd (X966 12) nd (nI (nd + 1)))), (2, K), (13, (upd ((stR X966 12 nd (nI (nd + 1))) 13) (nd + 1) 0))]) (l2 := [(12, (upd (X966 12) nd (nI (nd + 1)))), (13, (upd ((stR X966 12 nd (nI (nd + 1))) 13) (nd + 1) 0)), (2, K)]) (V := [(upd (X966 12) nd (nI (nd + 1))), K, (upd ((stR X966 12 nd (nI (nd + 1))) 13) (nd + 1) 0), (upd (X966 12) nd (nI (nd + 1))), (upd ((stR X966 12 nd (nI (nd + 1))) 13) (nd + 1) 0), K]) rfl rfl) hP
            have hD : va_D A (mW G h0 a (upd (upd (upd (upd (upd (upd (upd F 15 (nI fa728)) 16 pl975) 27 (nI ((nd + 1) + 1))) 31 (nI wr701)) 64 (nI at727)) 65 (nI ne)) 66 (nI lk)) (updA (stR (stR X966 12 nd (nI (nd + 1))) 13 (nd + 1) 0) 2 K)) := mW_D hD
            have hkp991 : Kp B (stR (stR X966 12 nd (nI (nd + 1))) 13 (nd + 1) 0) wr701 T := (Kp.row hkp969 (by omega))
            refine lv_goto (tgt := 139) hx hb dX12_loop_110 (by decide) ?_
            refine lv_aload_n hx hb dX12_loop_139 rfl (lv_at hl 4 rfl) ?_
            refine lv_bipush (v := 59) hx hb dX12_loop_140 (by decide) ?_
            have hP : va_P G.1 pCl (mW G h0 a (upd (upd (upd (upd (upd (upd (upd (upd (upd F 15 (nI fa728)) 16 pl975) 27 (nI ((nd + 1) + 1))) 31 (nI wr701)) 64 (nI at727)) 65 (nI ne)) 66 (nI lk)) 15 (nI fa728)) 64 (nI at727)) (updA (updA (stR (stR X966 12 nd (nI (nd + 1))) 13 (nd + 1) 0) 2 K) 2 K)) _ := mW_to (F := F) (l1 := [(15, (nI fa728)), (16, pl975), (27, (nI ((nd + 1) + 1))), (31, (nI wr701)), (64, (nI at727)), (65, (nI ne)), (66, (nI lk))]) (l2 := [(15, (nI fa728)), (16, pl975), (27, (nI ((nd + 1) + 1))), (31, (nI wr701)), (64, (nI at727)), (65, (nI ne)), (66, (nI lk)), (15, (nI fa728)), (64, (nI at727))]) (V := [(nI fa728), pl975, (nI ((nd + 1) + 1)), (nI wr701), (nI at727), (nI ne), (nI lk), (nI fa728), pl975, (nI ((nd + 1) + 1)), (nI wr701), (nI at727), (nI ne), (nI lk), (nI fa728), (nI at727)]) rfl rfl (show (updA (stR (stR X966 12 nd (nI (nd + 1))) 13 (nd + 1) 0) 2 K) = (updA (updA (stR (stR X966 12 nd (nI (nd + 1))) 13 (nd + 1) 0) 2 K) 2 K) from updsA_eq2 (F := X966) (l1 := [(12, (upd (X966 12) nd (nI (nd + 1)))), (13, (upd ((stR X966 12 nd (nI (nd + 1))) 13) (nd + 1) 0)), (2, K)]) (l2 := [(12, (upd (X966 12) nd (nI (nd + 1)))), (13, (upd ((stR X966 12 nd (nI (nd + 1))) 13) (nd + 1) 0)), (2, K), (2, K)]) (V := [(upd (X966 12) nd (nI (nd + 1))), (upd ((stR X966 12 nd (nI (nd + 1))) 13) (nd + 1) 0), K, (upd (X966 12) nd (nI (nd + 1))), (upd ((stR X966 12 nd (nI (nd + 1))) 13) (nd + 1) 0), K, K]) rfl rfl) hP
            have hD : va_D A (mW G h0 a (upd (upd (upd (upd (upd (upd (upd (upd (upd F 15 (nI fa728)) 16 pl975) 27 (nI ((nd + 1) + 1))) 31 (nI wr701)) 64 (nI at727)) 65 (nI ne)) 66 (nI lk)) 15 (nI fa728)) 64 (nI at727)) (updA (updA (stR (stR X966 12 nd (nI (nd + 1))) 13 (nd + 1) 0) 2 K) 2 K)) := mW_D hD
            refine pc_V0 (G := G) (As := [.int 59]) (rest := []) hx hb hml hown hq hE hX pX0_al hP hD hS hA hl.1 (R_take l G h0 a (upd (upd (upd (upd (upd (upd (upd F 15 (nI fa728)) 16 pl975) 27 (nI ((nd + 1) + 1))) 31 (nI wr701)) 64 (nI at727)) 65 (nI ne)) 66 (nI lk)) (updA (stR (stR X966 12 nd (nI (nd + 1))) 13 (nd + 1) 0) 2 K) at727 T fa728 K 59 (by omega) (by omega) hK (by omega) (by decide) (by decide)) (gV pw_1614 pw_1615 pw_1616 pw_1523 pw_1601) hV_X12_take 0 9 rfl rfl rfl rfl (Nat.le_of_ble_eq_true rfl) dX12_loop_142 ⟨Nat.le_of_ble_eq_true rfl, Nat.le_of_ble_eq_true rfl⟩ ⟨(by show 4 + 1 ≤ (26 * n + 43); omega), (by show 8 + (2 + 11) + 103 ≤ (2000 * n + 4300); omega)⟩ (fun v994 u992 H locs hw993 hP hD hS => ?_)
            obtain ⟨at995, fa996, pl997⟩ := u992
            obtain ⟨hw993, h998, h999, h1000, h1001, h1002, h1003, h1004, h1005⟩ := hw993
            have h998 : at727 ≤ at995 := h998
            have h999 : at995 ≤ T := h999
            have h1000 : fa728 ≤ fa996 := h1000
            have h1001 : fa996 ≤ 100 := h1001
            have h1002 : If (0 < fa728) (at995 = at727 ∧ fa996 = fa728) := h1002
            have h1003 : at995 ≤ at727 + 1 := h1003
            have h1004 : at727 + 1 ≤ at995 + fa996 := h1004
            have h1005 : If (fa996 = 0) (K at727 = 59) := h1005
            obtain rfl : v994 = none := hw993
            have hP : va_P G.1 pCl (mW G h0 a (upd (upd (upd (upd (upd (upd (upd F 15 (nI fa996)) 16 pl997) 27 (nI ((nd + 1) + 1))) 31 (nI wr701)) 64 (nI at995)) 65 (nI ne)) 66 (nI lk)) (updA (stR (stR X966 12 nd (nI (nd + 1))) 13 (nd + 1) 0) 2 K)) _ := mW_to (F := F) (l1 := [(15, (nI fa728)), (16, pl975), (27, (nI ((nd + 1) + 1))), (31, (nI wr701)), (64, (nI at727)), (65, (nI ne)), (66, (nI lk)), (15, (nI fa996)), (16, pl997), (64, (nI at995))]) (l2 := [(15, (nI fa996)), (16, pl997), (27, (nI ((nd + 1) + 1))), (31, (nI wr701)), (64, (nI at995)), (65, (nI ne)), (66, (nI lk))]) (V := [(nI fa996), pl997, (nI ((nd + 1) + 1)), (nI wr701), (nI at995), (nI ne), (nI lk), (nI fa996), pl997, (nI at995), (nI fa996), pl997, (nI ((nd + 1) + 1)), (nI wr701), (nI at995), (nI ne), (nI lk)]) rfl rfl (show (updA (updA (stR (stR X966 12 nd (nI (nd + 1))) 13 (nd + 1) 0) 2 K) 2 K) = (updA (stR (stR X966 12 nd (nI (nd + 1))) 13 (nd + 1) 0) 2 K) from updsA_eq2 (F := X966) (l1 := [(12, (upd (X966 12) nd (nI (nd + 1)))), (13, (upd ((stR X966 12 nd (nI (nd + 1))) 13) (nd + 1) 0)), (2, K), (2, K)]) (l2 := [(12, (upd (X966 12) nd (nI (nd + 1)))), (13, (upd ((stR X966 12 nd (nI (nd + 1))) 13) (nd + 1) 0)), (2, K)]) (V := [(upd (X966 12) nd (nI (nd + 1))), (upd ((stR X966 12 nd (nI (nd + 1))) 13) (nd + 1) 0), K, K, (upd (X966 12) nd (nI (nd + 1))), (upd ((stR X966 12 nd (nI (nd + 1))) 13) (nd + 1) 0), K]) rfl rfl) hP
            have hD : va_D A (mW G h0 a (upd (upd (upd (upd (upd (upd (upd F 15 (nI fa996)) 16 pl997) 27 (nI ((nd + 1) + 1))) 31 (nI wr701)) 64 (nI at995)) 65 (nI ne)) 66 (nI lk)) (updA (stR (stR X966 12 nd (nI (nd + 1))) 13 (nd + 1) 0) 2 K)) := mW_D hD
            refine W.widen (k := 0) (n := 0) (Nat.le_of_ble_eq_true rfl) (Nat.le_of_ble_eq_true rfl) ?_
            refine W.eq (g2 := F0 m 145 ls []) rfl ?_
            obtain ⟨n1007, n1006⟩ := h1002 e738
            replace n1007 := n1007.symm
            subst n1007
            replace n1006 := n1006.symm
            subst n1006
            refine lv_aload_n hx hb dX12_loop_145 rfl (lv_at hl 4 rfl) ?_
            refine r_get (v := .int (nI fa728)) hx hb hown hq hE hP 15 350 tFX12_15 (by decide) pw_1594 rfl dX12_loop_146 ?_
            refine lv_if_ne (tgt := 171) hx hb dX12_loop_149 (by decide) (fun c1008 => ?_) (fun c1008 => (by have n1009 : fa728 = 0 := (nI_eq (a := fa728) (b := 0) (by omega) (by omega)).mp c1008; omega))
            refine lv_aload_n hx hb dX12_loop_171 rfl (lv_at hl 4 rfl) ?_
            refine lv_bipush (v := 59) hx hb dX12_loop_172 (by decide) ?_
            have hP : va_P G.1 pCl (mW G h0 a (upd (upd (upd (upd (upd (upd (upd (upd (upd F 15 (nI fa728)) 16 pl997) 27 (nI ((nd + 1) + 1))) 31 (nI wr701)) 64 (nI at727)) 65 (nI ne)) 66 (nI lk)) 15 (nI fa728)) 64 (nI at727)) (updA (updA (stR (stR X966 12 nd (nI (nd + 1))) 13 (nd + 1) 0) 2 K) 2 K)) _ := hP
            have hD : va_D A (mW G h0 a (upd (upd (upd (upd (upd (upd (upd (upd (upd F 15 (nI fa728)) 16 pl997) 27 (nI ((nd + 1) + 1))) 31 (nI wr701)) 64 (nI at727)) 65 (nI ne)) 66 (nI lk)) 15 (nI fa728)) 64 (nI at727)) (updA (updA (stR (stR X966 12 nd (nI (nd + 1))) 13 (nd + 1) 0) 2 K) 2 K)) := mW_D hD
            refine pc_V0 (G := G) (As := [.int 59]) (rest := []) hx hb hml hown hq hE hX pX0_al hP hD hS hA hl.1 (R_take l G h0 a (upd (upd (upd (upd (upd (upd (upd F 15 (nI fa728)) 16 pl997) 27 (nI ((nd + 1) + 1))) 31 (nI wr701)) 64 (nI at727)) 65 (nI ne)) 66 (nI lk)) (updA (stR (stR X966 12 nd (nI (nd + 1))) 13 (nd + 1) 0) 2 K) at727 T fa728 K 59 (by omega) (by omega) hK (by omega) (by decide) (by decide)) (gV pw_1614 pw_1615 pw_1616 pw_1523 pw_1601) hV_X12_take 0 9 rfl rfl rfl rfl (Nat.le_of_ble_eq_true rfl) dX12_loop_174 ⟨Nat.le_of_ble_eq_true rfl, Nat.le_of_ble_eq_true rfl⟩ ⟨(by show 4 + 1 ≤ (26 * n + 43); omega), (by show 8 + (2 + 11) + 103 ≤ (2000 * n + 4300); omega)⟩ (fun v1012 u1010 H locs hw1011 hP hD hS => ?_)
            obtain ⟨at1013, fa1014, pl1015⟩ := u1010
            obtain ⟨hw1011, h1016, h1017, h1018, h1019, h1020, h1021, h1022, h1023⟩ := hw1011
            have h1016 : at727 ≤ at1013 := h1016
            have h1017 : at1013 ≤ T := h1017
            have h1018 : fa728 ≤ fa1014 := h1018
            have h1019 : fa1014 ≤ 100 := h1019
            have h1020 : If (0 < fa728) (at1013 = at727 ∧ fa1014 = fa728) := h1020
            have h1021 : at1013 ≤ at727 + 1 := h1021
            have h1022 : at727 + 1 ≤ at1013 + fa1014 := h1022
            have h1023 : If (fa1014 = 0) (K at727 = 59) := h1023
            obtain rfl : v1012 = none := hw1011
            have hP : va_P G.1 pCl (mW G h0 a (upd (upd (upd (upd (upd (upd (upd F 15 (nI fa1014)) 16 pl1015) 27 (nI ((nd + 1) + 1))) 31 (nI wr701)) 64 (nI at1013)) 65 (nI ne)) 66 (nI lk)) (updA (stR (stR X966 12 nd (nI (nd + 1))) 13 (nd + 1) 0) 2 K)) _ := mW_to (F := F) (l1 := [(15, (nI fa728)), (16, pl997), (27, (nI ((nd + 1) + 1))), (31, (nI wr701)), (64, (nI at727)), (65, (nI ne)), (66, (nI lk)), (15, (nI fa1014)), (16, pl1015), (64, (nI at1013))]) (l2 := [(15, (nI fa1014)), (16, pl1015), (27, (nI ((nd + 1) + 1))), (31, (nI wr701)), (64, (nI at1013)), (65, (nI ne)), (66, (nI lk))]) (V := [(nI fa1014), pl1015, (nI ((nd + 1) + 1)), (nI wr701), (nI at1013), (nI ne), (nI lk), (nI fa1014), pl1015, (nI at1013), (nI fa1014), pl1015, (nI ((nd + 1) + 1)), (nI wr701), (nI at1013), (nI ne), (nI lk)]) rfl rfl (show (updA (updA (stR (stR X966 12 nd (nI (nd + 1))) 13 (nd + 1) 0) 2 K) 2 K) = (updA (stR (stR X966 12 nd (nI (nd + 1))) 13 (nd + 1) 0) 2 K) from updsA_eq2 (F := X966) (l1 := [(12, (upd (X966 12) nd (nI (nd + 1)))), (13, (upd ((stR X966 12 nd (nI (nd + 1))) 13) (nd + 1) 0)), (2, K), (2, K)]) (l2 := [(12, (upd (X966 12) nd (nI (nd + 1)))), (13, (upd ((stR X966 12 nd (nI (nd + 1))) 13) (nd + 1) 0)), (2, K)]) (V := [(upd (X966 12) nd (nI (nd + 1))), (upd ((stR X966 12 nd (nI (nd + 1))) 13) (nd + 1) 0), K, K, (upd (X966 12) nd (nI (nd + 1))), (upd ((stR X966 12 nd (nI (nd + 1))) 13) (nd + 1) 0), K]) rfl rfl) hP
            have hD : va_D A (mW G h0 a (upd (upd (upd (upd (upd (upd (upd F 15 (nI fa1014)) 16 pl1015) 27 (nI ((nd + 1) + 1))) 31 (nI wr701)) 64 (nI at1013)) 65 (nI ne)) 66 (nI lk)) (updA (stR (stR X966 12 nd (nI (nd + 1))) 13 (nd + 1) 0) 2 K)) := mW_D hD
            refine W.widen (k := 0) (n := 0) (Nat.le_of_ble_eq_true rfl) (Nat.le_of_ble_eq_true rfl) ?_
            refine W.eq (g2 := F0 m 177 ls []) rfl ?_
            obtain ⟨n1025, n1024⟩ := h1020 e738
            replace n1025 := n1025.symm
            subst n1025
            replace n1024 := n1024.symm
            subst n1024
            refine lv_aload_n hx hb dX12_loop_177 rfl (lv_at hl 4 rfl) ?_
            refine r_get (v := .int (nI fa728)) hx hb hown hq hE hP 15 350 tFX12_15 (by decide) pw_1594 rfl dX12_loop_178 ?_
            refine lv_if_ne (tgt := 219) hx hb dX12_loop_181 (by decide) (fun c1026 => ?_) (fun c1026 => (by have n1027 : fa728 = 0 := (nI_eq (a := fa728) (b := 0) (by omega) (by omega)).mp c1026; omega))
            refine lv_aload_n hx hb dX12_loop_219 rfl (lv_at hl 4 rfl) ?_
            refine lv_bipush (v := 41) hx hb dX12_loop_220 (by decide) ?_
            have hP : va_P G.1 pCl (mW G h0 a (upd (upd (upd (upd (upd (upd (upd (upd (upd F 15 (nI fa728)) 16 pl1015) 27 (nI ((nd + 1) + 1))) 31 (nI wr701)) 64 (nI at727)) 65 (nI ne)) 66 (nI lk)) 15 (nI fa728)) 64 (nI at727)) (updA (updA (stR (stR X966 12 nd (nI (nd + 1))) 13 (nd + 1) 0) 2 K) 2 K)) _ := hP
            have hD : va_D A (mW G h0 a (upd (upd (upd (upd (upd (upd (upd (upd (upd F 15 (nI fa728)) 16 pl1015) 27 (nI ((nd + 1) + 1))) 31 (nI wr701)) 64 (nI at727)) 65 (nI ne)) 66 (nI lk)) 15 (nI fa728)) 64 (nI at727)) (updA (updA (stR (stR X966 12 nd (nI (nd + 1))) 13 (nd + 1) 0) 2 K) 2 K)) := mW_D hD
            refine pc_V0 (G := G) (As := [.int 41]) (rest := []) hx hb hml hown hq hE hX pX0_al hP hD hS hA hl.1 (R_take l G h0 a (upd (upd (upd (upd (upd (upd (upd F 15 (nI fa728)) 16 pl1015) 27 (nI ((nd + 1) + 1))) 31 (nI wr701)) 64 (nI at727)) 65 (nI ne)) 66 (nI lk)) (updA (stR (stR X966 12 nd (nI (nd + 1))) 13 (nd + 1) 0) 2 K) at727 T fa728 K 41 (by omega) (by omega) hK (by omega) (by decide) (by decide)) (gV pw_1614 pw_1615 pw_1616 pw_1523 pw_1601) hV_X12_take 0 9 rfl rfl rfl rfl (Nat.le_of_ble_eq_true rfl) dX12_loop_222 ⟨Nat.le_of_ble_eq_true rfl, Nat.le_of_ble_eq_true rfl⟩ ⟨(by show 4 + 1 ≤ (26 * n + 43); omega), (by show 8 + (2 + 11) + 103 ≤ (2000 * n + 4300); omega)⟩ (fun v1030 u1028 H locs hw1029 hP hD hS => ?_)
            obtain ⟨at1031, fa1032, pl1033⟩ := u1028
            obtain ⟨hw1029, h1034, h1035, h1036, h1037, h1038, h1039, h1040, h1041⟩ := hw1029
            have h1034 : at727 ≤ at1031 := h1034
            have h1035 : at1031 ≤ T := h1035
            have h1036 : fa728 ≤ fa1032 := h1036
            have h1037 : fa1032 ≤ 100 := h1037
            have h1038 : If (0 < fa728) (at1031 = at727 ∧ fa1032 = fa728) := h1038
            have h1039 : at1031 ≤ at727 + 1 := h1039
            have h1040 : at727 + 1 ≤ at1031 + fa1032 := h1040
            have h1041 : If (fa1032 = 0) (K at727 = 41) := h1041
            obtain rfl : v1030 = none := hw1029
            have hP : va_P G.1 pCl (mW G h0 a (upd (upd (upd (upd (upd (upd (upd F 15 (nI fa1032)) 16 pl1033) 27 (nI ((nd + 1) + 1))) 31 (nI wr701)) 64 (nI at1031)) 65 (nI ne)) 66 (nI lk)) (updA (stR (stR X966 12 nd (nI (nd + 1))) 13 (nd + 1) 0) 2 K)) _ := mW_to (F := F) (l1 := [(15, (nI fa728)), (16, pl1015), (27, (nI ((nd + 1) + 1))), (31, (nI wr701)), (64, (nI at727)), (65, (nI ne)), (66, (nI lk)), (15, (nI fa1032)), (16, pl1033), (64, (nI at1031))]) (l2 := [(15, (nI fa1032)), (16, pl1033), (27, (nI ((nd + 1) + 1))), (31, (nI wr701)), (64, (nI at1031)), (65, (nI ne)), (66, (nI lk))]) (V := [(nI fa1032), pl1033, (nI ((nd + 1) + 1)), (nI wr701), (nI at1031), (nI ne), (nI lk), (nI fa1032), pl1033, (nI at1031), (nI fa1032), pl1033, (nI ((nd + 1) + 1)), (nI wr701), (nI at1031), (nI ne), (nI lk)]) rfl rfl (show (updA (updA (stR (stR X966 12 nd (nI (nd + 1))) 13 (nd + 1) 0) 2 K) 2 K) = (updA (stR (stR X966 12 nd (nI (nd + 1))) 13 (nd + 1) 0) 2 K) from updsA_eq2 (F := X966) (l1 := [(12, (upd (X966 12) nd (nI (nd + 1)))), (13, (upd ((stR X966 12 nd (nI (nd + 1))) 13) (nd + 1) 0)), (2, K), (2, K)]) (l2 := [(12, (upd (X966 12) nd (nI (nd + 1)))), (13, (upd ((stR X966 12 nd (nI (nd + 1))) 13) (nd + 1) 0)), (2, K)]) (V := [(upd (X966 12) nd (nI (nd + 1))), (upd ((stR X966 12 nd (nI (nd + 1))) 13) (nd + 1) 0), K, K, (upd (X966 12) nd (nI (nd + 1))), (upd ((stR X966 12 nd (nI (nd + 1))) 13) (nd + 1) 0), K]) rfl rfl) hP
            have hD : va_D A (mW G h0 a (upd (upd (upd (upd (upd (upd (upd F 15 (nI fa1032)) 16 pl1033) 27 (nI ((nd + 1) + 1))) 31 (nI wr701)) 64 (nI at1031)) 65 (nI ne)) 66 (nI lk)) (updA (stR (stR X966 12 nd (nI (nd + 1))) 13 (nd + 1) 0) 2 K)) := mW_D hD
            refine W.widen (k := 0) (n := 0) (Nat.le_of_ble_eq_true rfl) (Nat.le_of_ble_eq_true rfl) ?_
            refine W.eq (g2 := F0 m 225 ls []) rfl ?_
            obtain ⟨n1043, n1042⟩ := h1038 e738
            replace n1043 := n1043.symm
            subst n1043
            replace n1042 := n1042.symm
            subst n1042
            refine lv_aload_n hx hb dX12_loop_225 rfl (lv_at hl 4 rfl) ?_
            refine r_get (v := .ref (a 15)) hx hb hown hq hE hP 23 56 tFX12_23 (by decide) pw_1445 rfl dX12_loop_226 ?_
            refine lv_iload_n hx hb dX12_loop_229 rfl (lv_at hl 3 rfl) ?_
            refine lv_aload_n hx hb dX12_loop_230 rfl (lv_at hl 4 rfl) ?_
            have hP : va_P G.1 pCl (mW G h0 a (upd (upd (upd (upd (upd (upd (upd (upd (upd F 15 (nI fa728)) 16 pl1033) 27 (nI ((nd + 1) + 1))) 31 (nI wr701)) 64 (nI at727)) 65 (nI ne)) 66 (nI lk)) 15 (nI fa728)) 64 (nI at727)) (updA (updA (stR (stR X966 12 nd (nI (nd + 1))) 13 (nd + 1) 0) 2 K) 2 K)) _ := hP
            have hD : va_D A (mW G h0 a (upd (upd (upd (upd (upd (upd (upd (upd (upd F 15 (nI fa728)) 16 pl1033) 27 (nI ((nd + 1) + 1))) 31 (nI wr701)) 64 (nI at727)) 65 (nI ne)) 66 (nI lk)) 15 (nI fa728)) 64 (nI at727)) (updA (updA (stR (stR X966 12 nd (nI (nd + 1))) 13 (nd + 1) 0) 2 K) 2 K)) := mW_D hD
            refine pc_V0 (G := G) (As := []) (rest := [.int (nI nd), .ref (a 15)]) hx hb hml hown hq hE hX pX0_al hP hD hS hA hl.1 (RF_statement l G h0 a (upd (upd (upd (upd (upd (upd (upd F 15 (nI fa728)) 16 pl1033) 27 (nI ((nd + 1) + 1))) 31 (nI wr701)) 64 (nI at727)) 65 (nI ne)) 66 (nI lk)) (updA (stR (stR X966 12 nd (nI (nd + 1))) 13 (nd + 1) 0) 2 K) at727 T fa728 K (by omega) (by omega) hK (by omega) e738) (gV pw_1699 pw_1700 pw_1701 pw_1523 pw_1706) hV_X12_statement 0 9 rfl rfl rfl rfl (Nat.le_of_ble_eq_true rfl) dX12_loop_231 ⟨Nat.le_of_ble_eq_true rfl, Nat.le_of_ble_eq_true rfl⟩ ⟨(by show 2 + 1 ≤ (26 * n + 43); omega), (by show 8 + (3 + 11) + 60 ≤ (2000 * n + 4300); omega)⟩ (fun v1046 u1044 H locs hw1045 hP hD hS => ?_)
            obtain rfl : v1046 = some (.int 0) := hw1045
            have hP : va_P G.1 pCl (mW G h0 a (upd (upd (upd (upd (upd (upd (upd F 15 (nI fa728)) 16 pl1033) 27 (nI ((nd + 1) + 1))) 31 (nI wr701)) 64 (nI at727)) 65 (nI ne)) 66 (nI lk)) (updA (stR (stR X966 12 nd (nI (nd + 1))) 13 (nd + 1) 0) 2 K)) _ := mW_to (F := F) (l1 := [(15, (nI fa728)), (16, pl1033), (27, (nI ((nd + 1) + 1))), (31, (nI wr701)), (64, (nI at727)), (65, (nI ne)), (66, (nI lk)), (15, (nI fa728)), (64, (nI at727))]) (l2 := [(15, (nI fa728)), (16, pl1033), (27, (nI ((nd + 1) + 1))), (31, (nI wr701)), (64, (nI at727)), (65, (nI ne)), (66, (nI lk))]) (V := [(nI fa728), pl1033, (nI ((nd + 1) + 1)), (nI wr701), (nI at727), (nI ne), (nI lk), (nI fa728), (nI at727), (nI fa728), pl1033, (nI ((nd + 1) + 1)), (nI wr701), (nI at727), (nI ne), (nI lk)]) rfl rfl (show (updA (updA (stR (stR X966 12 nd (nI (nd + 1))) 13 (nd + 1) 0) 2 K) 2 K) = (updA (stR (stR X966 12 nd (nI (nd + 1))) 13 (nd + 1) 0) 2 K) from updsA_eq2 (F := X966) (l1 := [(12, (upd (X966 12) nd (nI (nd + 1)))), (13, (upd ((stR X966 12 nd (nI (nd + 1))) 13) (nd + 1) 0)), (2, K), (2, K)]) (l2 := [(12, (upd (X966 12) nd (nI (nd + 1)))), (13, (upd ((stR X966 12 nd (nI (nd + 1))) 13) (nd + 1) 0)), (2, K)]) (V := [(upd (X966 12) nd (nI (nd + 1))), (upd ((stR X966 12 nd (nI (nd + 1))) 13) (nd + 1) 0), K, K, (upd (X966 12) nd (nI (nd + 1))), (upd ((stR X966 12 nd (nI (nd + 1))) 13) (nd + 1) 0), K]) rfl rfl) hP
            have hD : va_D A (mW G h0 a (upd (upd (upd (upd (upd (upd (upd F 15 (nI fa728)) 16 pl1033) 27 (nI ((nd + 1) + 1))) 31 (nI wr701)) 64 (nI at727)) 65 (nI ne)) 66 (nI lk)) (updA (stR (stR X966 12 nd (nI (nd + 1))) 13 (nd + 1) 0) 2 K)) := mW_D hD
            refine W.widen (k := 0) (n := 0) (Nat.le_of_ble_eq_true rfl) (Nat.le_of_ble_eq_true rfl) ?_
            refine W.eq (g2 := F0 m 234 ls [.int 0, .int (nI nd), .ref (a 15)]) rfl ?_
            refine r_sti (f := ((stR (stR X966 12 nd (nI (nd + 1))) 13 (nd + 1) 0) 15)) (j := nd) hx hb hE hP hD hS 15 (ma_15 G a _) rfl (mas_15 G a _) (by omega) (by decide) dX12_loop_234 (fun H locs hP hD hS => ?_)
            have hP : va_P G.1 pCl (mW G h0 a (upd (upd (upd (upd (upd (upd (upd F 15 (nI fa728)) 16 pl1033) 27 (nI ((nd + 1) + 1))) 31 (nI wr701)) 64 (nI at727)) 65 (nI ne)) 66 (nI lk)) (updA (stR (stR (stR X966 12 nd (nI (nd + 1))) 13 (nd + 1) 0) 15 nd 0) 2 K)) _ := mW_to (F := F) (l1 := [(15, (nI fa728)), (16, pl1033), (27, (nI ((nd + 1) + 1))), (31, (nI wr701)), (64, (nI at727)), (65, (nI ne)), (66, (nI lk))]) (l2 := [(15, (nI fa728)), (16, pl1033), (27, (nI ((nd + 1) + 1))), (31, (nI wr701)), (64, (nI at727)), (65, (nI ne)), (66, (nI lk))]) (V := [(nI fa728), pl1033, (nI ((nd + 1) + 1)), (nI wr701), (nI at727), (nI ne), (nI lk), (nI fa728), pl1033, (nI ((nd + 1) + 1)), (nI wr701), (nI at727), (nI ne), (nI lk)]) rfl rfl (show (updA (updA (stR (stR X966 12 nd (nI (nd + 1))) 13 (nd + 1) 0) 2 K) 15 (upd ((stR (stR X966 12 nd (nI (nd + 1))) 13 (nd + 1) 0) 15) nd 0)) = (updA (stR (stR (stR X966 12 nd (nI (nd + 1))) 13 (nd + 1) 0) 15 nd 0) 2 K) from updsA_eq2 (F := X966) (l1 := [(12, (upd (X966 12) nd (nI (nd + 1)))), (13, (upd ((stR X966 12 nd (nI (nd + 1))) 13) (nd + 1) 0)), (2, K), (15, (upd ((stR (stR X966 12 nd (nI (nd + 1))) 13 (nd + 1) 0) 15) nd 0))]) (l2 := [(12, (upd (X966 12) nd (nI (nd + 1)))), (13, (upd ((stR X966 12 nd (nI (nd + 1))) 13) (nd + 1) 0)), (15, (upd ((stR (stR X966 12 nd (nI (nd + 1))) 13 (nd + 1) 0) 15) nd 0)), (2, K)]) (V := [(upd (X966 12) nd (nI (nd + 1))), (upd ((stR X966 12 nd (nI (nd + 1))) 13) (nd + 1) 0), K, (upd ((stR (stR X966 12 nd (nI (nd + 1))) 13 (nd + 1) 0) 15) nd 0), (upd (X966 12) nd (nI (nd + 1))), (upd ((stR X966 12 nd (nI (nd + 1))) 13) (nd + 1) 0), (upd ((stR (stR X966 12 nd (nI (nd + 1))) 13 (nd + 1) 0) 15) nd 0), K]) rfl rfl) hP
            have hD : va_D A (mW G h0 a (upd (upd (upd (upd (upd (upd (upd F 15 (nI fa728)) 16 pl1033) 27 (nI ((nd + 1) + 1))) 31 (nI wr701)) 64 (nI at727)) 65 (nI ne)) 66 (nI lk)) (updA (stR (stR (stR X966 12 nd (nI (nd + 1))) 13 (nd + 1) 0) 15 nd 0) 2 K)) := mW_D hD
            have hkp1047 : Kp B (stR (stR (stR X966 12 nd (nI (nd + 1))) 13 (nd + 1) 0) 15 nd 0) wr701 T := (Kp.row hkp991 (by omega))
            refine lv_iload_n hx hb dX12_loop_235 rfl (lv_at hl 3 rfl) ?_
            have hz1048 : at0 ≤ at727 := (by omega)
            have hz1049 : at727 ≤ T := (by omega)
            have hz1050 : fa728 ≤ 100 := (by omega)
            have hz1051 : nd ≤ ((nd + 1) + 1) := (by omega)
            have hz1052 : ((nd + 1) + 1) + 2 * at0 ≤ nd + 2 * at727 + 100000 * fa728 := (by omega)
            have hz1053 : ((nd + 1) + 1) + 2 * at0 ≤ nd + 2 * at727 + (60 * (21 - ne) + 40) := (by omega)
            have hz1054 : wr ≤ wr701 := (by omega)
            have hz1055 : wr701 + at0 ≤ wr + at727 := (by omega)
            have hz1056 : lk ≤ lk := (by omega)
            have hz1057 : lk ≤ 60 + 100 * fa728 := (by omega)
            have hz1058 : at0 + 1 ≤ at727 + fa728 := (by omega)
            have hz1059 : nd ≤ ((nd + 1) + 1) := (by omega)
            have hz1060 : Kp B (stR (stR (stR X966 12 nd (nI (nd + 1))) 13 (nd + 1) 0) 15 nd 0) wr701 T := hkp1047
            have hz1061 : If (fa728 = 0) (Low B (stR (stR (stR X966 12 nd (nI (nd + 1))) 13 (nd + 1) 0) 15 nd 0) nd wr ∧ Frs K T wr701 (stR (stR (stR X966 12 nd (nI (nd + 1))) 13 (nd + 1) 0) 15 nd 0) nd ((nd + 1) + 1) 20000 [(nd, (280 + 4 * (21 - ne)))] ∧ kcl 3 ((stR (stR (stR X966 12 nd (nI (nd + 1))) 13 (nd + 1) 0) 15 nd 0) 9 nd) = true) := (fun e => absurd e (by omega))
            have hP : va_P G.1 pCl (mW G h0 a (upd (upd (upd (upd (upd (upd (upd F 15 (nI fa728)) 16 pl1033) 27 (nI ((nd + 1) + 1))) 31 (nI wr701)) 64 (nI at727)) 65 (nI ne)) 66 (nI lk)) (updA (stR (stR (stR X966 12 nd (nI (nd + 1))) 13 (nd + 1) 0) 15 nd 0) 2 K)) _ := hP
            have hD : va_D A (mW G h0 a (upd (upd (upd (upd (upd (upd (upd F 15 (nI fa728)) 16 pl1033) 27 (nI ((nd + 1) + 1))) 31 (nI wr701)) 64 (nI at727)) 65 (nI ne)) 66 (nI lk)) (updA (stR (stR (stR X966 12 nd (nI (nd + 1))) 13 (nd + 1) 0) 15 nd 0) 2 K)) := mW_D hD
            exact W.iret (v := (nI nd)) hx hb hr (fun t9 ht9 hW9 => ⟨⟨_, (at727, fa728, pl1033, ((nd + 1) + 1), lk, wr701, nd, (stR (stR (stR X966 12 nd (nI (nd + 1))) 13 (nd + 1) 0) 15 nd 0)), rfl, ⟨rfl, hz1048, hz1049, hz1050, hz1051, hz1052, hz1053, hz1054, hz1055, hz1056, hz1057, hz1058, hz1059, hz1060, hz1061⟩, by rw [ht9]; exact hP, hD⟩, hS.F ht9⟩) hS.2.2 dX12_loop_236
        · have e720 := e720
          refine lv_istore_n (lv' := [(3, .int (nI r702)), (2, .int (nI at17)), (1, .int (nI nd)), (0, .ref h0)]) hx hb dX12_loop_65 rfl hl (by decide) rfl (fun ls hl => ?_)
          refine lv_aload_n hx hb dX12_loop_66 rfl (lv_at hl 3 rfl) ?_
          have hP : va_P G.1 pCl (mW G h0 a (upd (upd (upd (upd (upd (upd (upd (upd (upd F 15 (nI fa699)) 16 pl700) 27 (nI (nd + 1))) 31 (nI wr701)) 64 (nI at698)) 65 (nI ne)) 66 (nI lk)) 15 (nI fa699)) 64 (nI at698)) (updA (updA (updA (updA X6 19 yt703) 20 yr704) 2 K) 2 K)) _ := mW_to (F := F) (l1 := [(15, (nI fa699)), (16, pl700), (27, (nI (nd + 1))), (31, (nI wr701)), (64, (nI at698)), (65, (nI ne)), (66, (nI lk))]) (l2 := [(15, (nI fa699)), (16, pl700), (27, (nI (nd + 1))), (31, (nI wr701)), (64, (nI at698)), (65, (nI ne)), (66, (nI lk)), (15, (nI fa699)), (64, (nI at698))]) (V := [(nI fa699), pl700, (nI (nd + 1)), (nI wr701), (nI at698), (nI ne), (nI lk), (nI fa699), pl700, (nI (nd + 1)), (nI wr701), (nI at698), (nI ne), (nI lk), (nI fa699), (nI at698)]) rfl rfl (show (updA (updA (updA X6 19 yt703) 20 yr704) 2 K) = (updA (updA (updA (updA X6 19 yt703) 20 yr704) 2 K) 2 K) from updsA_eq2 (F := X6) (l1 := [(19, yt703), (20, yr704), (2, K)]) (l2 := [(19, yt703), (20, yr704), (2, K), (2, K)]) (V := [yt703, yr704, K, yt703, yr704, K, K]) rfl rfl) hP
          have hD : va_D A (mW G h0 a (upd (upd (upd (upd (upd (upd (upd (upd (upd F 15 (nI fa699)) 16 pl700) 27 (nI (nd + 1))) 31 (nI wr701)) 64 (nI at698)) 65 (nI ne)) 66 (nI lk)) 15 (nI fa699)) 64 (nI at698)) (updA (updA (updA (updA X6 19 yt703) 20 yr704) 2 K) 2 K)) := mW_D hD
          refine pc_V0 (G := G) (As := []) (rest := []) hx hb hml hown hq hE hX pX0_al hP hD hS hA hl.1 (R_name l G h0 a (upd (upd (upd (upd (upd (upd (upd F 15 (nI fa699)) 16 pl700) 27 (nI (nd + 1))) 31 (nI wr701)) 64 (nI at698)) 65 (nI ne)) 66 (nI lk)) (updA (updA (updA X6 19 yt703) 20 yr704) 2 K) at698 T fa699 K (by omega) (by omega) hK (by omega)) (gV pw_1618 pw_1619 pw_1620 pw_1523 pw_1613) hV_X12_name 0 9 rfl rfl rfl rfl (Nat.le_of_ble_eq_true rfl) dX12_loop_67 ⟨Nat.le_of_ble_eq_true rfl, Nat.le_of_ble_eq_true rfl⟩ ⟨(by show 5 + 1 ≤ (26 * n + 43); omega), (by show 8 + (2 + 11) + 124 ≤ (2000 * n + 4300); omega)⟩ (fun v1064 u1062 H locs hw1063 hP hD hS => ?_)
          obtain ⟨at1065, fa1066, pl1067⟩ := u1062
          obtain ⟨hw1063, h1068, h1069, h1070, h1071, h1072, h1073, h1074, h1075⟩ := hw1063
          have h1068 : at698 ≤ at1065 := h1068
          have h1069 : at1065 ≤ T := h1069
          have h1070 : fa699 ≤ fa1066 := h1070
          have h1071 : fa1066 ≤ 100 := h1071
          have h1072 : If (0 < fa699) (at1065 = at698 ∧ fa1066 = fa699) := h1072
          have h1073 : at1065 ≤ at698 + 1 := h1073
          have h1074 : at698 + 1 ≤ at1065 + fa1066 := h1074
          have h1075 : If (fa1066 = 0) (K at698 = 1) := h1075
          obtain rfl : v1064 = some (.int (nI at698)) := hw1063
          have hP : va_P G.1 pCl (mW G h0 a (upd (upd (upd (upd (upd (upd (upd F 15 (nI fa1066)) 16 pl1067) 27 (nI (nd + 1))) 31 (nI wr701)) 64 (nI at1065)) 65 (nI ne)) 66 (nI lk)) (updA (updA (updA X6 19 yt703) 20 yr704) 2 K)) _ := mW_to (F := F) (l1 := [(15, (nI fa699)), (16, pl700), (27, (nI (nd + 1))), (31, (nI wr701)), (64, (nI at698)), (65, (nI ne)), (66, (nI lk)), (15, (nI fa1066)), (16, pl1067), (64, (nI at1065))]) (l2 := [(15, (nI fa1066)), (16, pl1067), (27, (nI (nd + 1))), (31, (nI wr701)), (64, (nI at1065)), (65, (nI ne)), (66, (nI lk))]) (V := [(nI fa1066), pl1067, (nI (nd + 1)), (nI wr701), (nI at1065), (nI ne), (nI lk), (nI fa1066), pl1067, (nI at1065), (nI fa1066), pl1067, (nI (nd + 1)), (nI wr701), (nI at1065), (nI ne), (nI lk)]) rfl rfl (show (updA (updA (updA (updA X6 19 yt703) 20 yr704) 2 K) 2 K) = (updA (updA (updA X6 19 yt703) 20 yr704) 2 K) from updsA_eq2 (F := X6) (l1 := [(19, yt703), (20, yr704), (2, K), (2, K)]) (l2 := [(19, yt703), (20, yr704), (2, K)]) (V := [yt703, yr704, K, K, yt703, yr704, K]) rfl rfl) hP
          have hD : va_D A (mW G h0 a (upd (upd (upd (upd (upd (upd (upd F 15 (nI fa1066)) 16 pl1067) 27 (nI (nd + 1))) 31 (nI wr701)) 64 (nI at1065)) 65 (nI ne)) 66 (nI lk)) (updA (updA (updA X6 19 yt703) 20 yr704) 2 K)) := mW_D hD
          refine W.widen (k := 0) (n := 0) (Nat.le_of_ble_eq_true rfl) (Nat.le_of_ble_eq_true rfl) ?_
          refine W.eq (g2 := F0 m 70 ls [.int (nI at698)]) rfl ?_
          obtain ⟨n1077, n1076⟩ := h1072 e720
          replace n1077 := n1077.symm
          subst n1077
          replace n1076 := n1076.symm
          subst n1076
          refine lv_istore (lv' := [(4, .int (nI at698)), (3, .int (nI r702)), (2, .int (nI at17)), (1, .int (nI nd)), (0, .ref h0)]) hx hb dX12_loop_70 hl (by decide) rfl (fun ls hl => ?_)
          refine lv_aload_n hx hb dX12_loop_72 rfl (lv_at hl 4 rfl) ?_
          refine r_get (v := .ref (a 12)) hx hb hown hq hE hP 20 47 tFX12_20 (by decide) pw_1442 rfl dX12_loop_73 ?_
          refine lv_iload_n hx hb dX12_loop_76 rfl (lv_at hl 3 rfl) ?_
          refine lv_aload_n hx hb dX12_loop_77 rfl (lv_at hl 4 rfl) ?_
          refine lv_bipush (v := 30) hx hb dX12_loop_78 (by decide) ?_
          refine lv_iload_n hx hb dX12_loop_80 rfl (lv_at hl 2 rfl) ?_
          refine lv_iload hx hb dX12_loop_81 (lv_at hl 0 rfl) ?_
          refine lv_iload_n hx hb dX12_loop_83 rfl (lv_at hl 1 rfl) ?_
          refine lv_iconst (v := (-1)) hx hb dX12_loop_84 (by decide) ?_
          have hP : va_P G.1 pCl (mW G h0 a (upd (upd (upd (upd (upd (upd (upd (upd F 15 (nI fa699)) 16 pl1067) 27 (nI (nd + 1))) 31 (nI wr701)) 64 (nI at698)) 65 (nI ne)) 66 (nI lk)) 27 (nI (nd + 1))) (updA (updA (updA X6 19 yt703) 20 yr704) 2 K)) _ := hP
          have hD : va_D A (mW G h0 a (upd (upd (upd (upd (upd (upd (upd (upd F 15 (nI fa699)) 16 pl1067) 27 (nI (nd + 1))) 31 (nI wr701)) 64 (nI at698)) 65 (nI ne)) 66 (nI lk)) 27 (nI (nd + 1))) (updA (updA (updA X6 19 yt703) 20 yr704) 2 K)) := mW_D hD
          refine pc_V0 (G := G) (As := [.int 30, .int (nI at17), .int (nI at698), .int (nI r702), .int (-1)]) (rest := [.int (nI nd), .ref (a 12)]) hx hb hml hown hq hE hX pX0_al hP hD hS hA hl.1 (R_nodeB l G h0 a (upd (upd (upd (upd (upd (upd (upd F 15 (nI fa699)) 16 pl1067) 27 (nI (nd + 1))) 31 (nI wr701)) 64 (nI at698)) 65 (nI ne)) 66 (nI lk)) (updA (updA X6 19 yt703) 20 yr704) 30 (nI at17) (nI at698) (nI r702) (-1) (nd + 1) K (by omega)) (gV pw_1650 pw_1651 pw_1652 pw_1523 pw_1589) hV_X12_node 0 9 rfl rfl rfl rfl (Nat.le_of_ble_eq_true rfl) dX12_loop_85 ⟨Nat.le_of_ble_eq_true rfl, Nat.le_of_ble_eq_true rfl⟩ ⟨(by show 2 + 1 ≤ (26 * n + 43); omega), (by show 8 + (7 + 11) + 60 ≤ (2000 * n + 4300); omega)⟩ (fun v1080 u1078 H locs hw1079 hP hD hS => ?_)
          obtain ⟨X1081, rfl⟩ : ∃ z, z = u1078 := ⟨_, rfl⟩
          obtain ⟨hw1079, h1082⟩ := hw1079
          have h1082 : NewN (updA (updA X6 19 yt703) 20 yr704) X1081 (nd + 1) 30 (nI at17) (nI at698) (nI r702) (-1) := h1082
          obtain rfl : v1080 = some (.int (nI (nd + 1))) := hw1079
          have hP : va_P G.1 pCl (mW G h0 a (upd (upd (upd (upd (upd (upd (upd F 15 (nI fa699)) 16 pl1067) 27 (nI ((nd + 1) + 1))) 31 (nI wr701)) 64 (nI at698)) 65 (nI ne)) 66 (nI lk)) (updA X1081 2 K)) _ := mW_to (F := F) (l1 := [(15, (nI fa699)), (16, pl1067), (27, (nI (nd + 1))), (31, (nI wr701)), (64, (nI at698)), (65, (nI ne)), (66, (nI lk)), (27, (nI ((nd + 1) + 1)))]) (l2 := [(15, (nI fa699)), (16, pl1067), (27, (nI ((nd + 1) + 1))), (31, (nI wr701)), (64, (nI at698)), (65, (nI ne)), (66, (nI lk))]) (V := [(nI fa699), pl1067, (nI ((nd + 1) + 1)), (nI wr701), (nI at698), (nI ne), (nI lk), (nI ((nd + 1) + 1)), (nI fa699), pl1067, (nI ((nd + 1) + 1)), (nI wr701), (nI at698), (nI ne), (nI lk)]) rfl rfl rfl hP
          have hD : va_D A (mW G h0 a (upd (upd (upd (upd (upd (upd (upd F 15 (nI fa699)) 16 pl1067) 27 (nI ((nd + 1) + 1))) 31 (nI wr701)) 64 (nI at698)) 65 (nI ne)) 66 (nI lk)) (updA X1081 2 K)) := mW_D hD
          refine W.widen (k := 0) (n := 0) (Nat.le_of_ble_eq_true rfl) (Nat.le_of_ble_eq_true rfl) ?_
          refine W.eq (g2 := F0 m 88 ls [.int (nI (nd + 1)), .int (nI nd), .ref (a 12)]) rfl ?_
          have hkp1083 : Kp B X1081 wr701 T := (Kp.new hkp719 h1082)
          refine r_sti (f := (X1081 12)) (j := nd) hx hb hE hP hD hS 12 (ma_12 G a _) rfl (mas_12 G a _) (by omega) (by decide) dX12_loop_88 (fun H locs hP hD hS => ?_)
          have hP : va_P G.1 pCl (mW G h0 a (upd (upd (upd (upd (upd (upd (upd F 15 (nI fa699)) 16 pl1067) 27 (nI ((nd + 1) + 1))) 31 (nI wr701)) 64 (nI at698)) 65 (nI ne)) 66 (nI lk)) (updA (stR X1081 12 nd (nI (nd + 1))) 2 K)) _ := mW_to (F := F) (l1 := [(15, (nI fa699)), (16, pl1067), (27, (nI ((nd + 1) + 1))), (31, (nI wr701)), (64, (nI at698)), (65, (nI ne)), (66, (nI lk))]) (l2 := [(15, (nI fa699)), (16, pl1067), (27, (nI ((nd + 1) + 1))), (31, (nI wr701)), (64, (nI at698)), (65, (nI ne)), (66, (nI lk))]) (V := [(nI fa699), pl1067, (nI ((nd + 1) + 1)), (nI wr701), (nI at698), (nI ne), (nI lk), (nI fa699), pl1067, (nI ((nd + 1) + 1)), (nI wr701), (nI at698), (nI ne), (nI lk)]) rfl rfl (show (updA (updA X1081 2 K) 12 (upd (X1081 12) nd (nI (nd + 1)))) = (updA (stR X1081 12 nd (nI (nd + 1))) 2 K) from updsA_eq2 (F := X1081) (l1 := [(2, K), (12, (upd (X1081 12) nd (nI (nd + 1))))]) (l2 := [(12, (upd (X1081 12) nd (nI (nd + 1)))), (2, K)]) (V := [K, (upd (X1081 12) nd (nI (nd + 1))), (upd (X1081 12) nd (nI (nd + 1))), K]) rfl rfl) hP
          have hD : va_D A (mW G h0 a (upd (upd (upd (upd (upd (upd (upd F 15 (nI fa699)) 16 pl1067) 27 (nI ((nd + 1) + 1))) 31 (nI wr701)) 64 (nI at698)) 65 (nI ne)) 66 (nI lk)) (updA (stR X1081 12 nd (nI (nd + 1))) 2 K)) := mW_D hD
          have hkp1084 : Kp B (stR X1081 12 nd (nI (nd + 1))) wr701 T := (Kp.row hkp1083 (by omega))
          refine lv_aload_n hx hb dX12_loop_89 rfl (lv_at hl 4 rfl) ?_
          refine lv_bipush (v := 61) hx hb dX12_loop_90 (by decide) ?_
          have hP : va_P G.1 pCl (mW G h0 a (upd (upd (upd (upd (upd (upd (upd (upd (upd F 15 (nI fa699)) 16 pl1067) 27 (nI ((nd + 1) + 1))) 31 (nI wr701)) 64 (nI at698)) 65 (nI ne)) 66 (nI lk)) 15 (nI fa699)) 64 (nI at698)) (updA (updA (stR X1081 12 nd (nI (nd + 1))) 2 K) 2 K)) _ := mW_to (F := F) (l1 := [(15, (nI fa699)), (16, pl1067), (27, (nI ((nd + 1) + 1))), (31, (nI wr701)), (64, (nI at698)), (65, (nI ne)), (66, (nI lk))]) (l2 := [(15, (nI fa699)), (16, pl1067), (27, (nI ((nd + 1) + 1))), (31, (nI wr701)), (64, (nI at698)), (65, (nI ne)), (66, (nI lk)), (15, (nI fa699)), (64, (nI at698))]) (V := [(nI fa699), pl1067, (nI ((nd + 1) + 1)), (nI wr701), (nI at698), (nI ne), (nI lk), (nI fa699), pl1067, (nI ((nd + 1) + 1)), (nI wr701), (nI at698), (nI ne), (nI lk), (nI fa699), (nI at698)]) rfl rfl (show (updA (stR X1081 12 nd (nI (nd + 1))) 2 K) = (updA (updA (stR X1081 12 nd (nI (nd + 1))) 2 K) 2 K) from updsA_eq2 (F := X1081) (l1 := [(12, (upd (X1081 12) nd (nI (nd + 1)))), (2, K)]) (l2 := [(12, (upd (X1081 12) nd (nI (nd + 1)))), (2, K), (2, K)]) (V := [(upd (X1081 12) nd (nI (nd + 1))), K, (upd (X1081 12) nd (nI (nd + 1))), K, K]) rfl rfl) hP
          have hD : va_D A (mW G h0 a (upd (upd (upd (upd (upd (upd (upd (upd (upd F 15 (nI fa699)) 16 pl1067) 27 (nI ((nd + 1) + 1))) 31 (nI wr701)) 64 (nI at698)) 65 (nI ne)) 66 (nI lk)) 15 (nI fa699)) 64 (nI at698)) (updA (updA (stR X1081 12 nd (nI (nd + 1))) 2 K) 2 K)) := mW_D hD
          refine pc_V0 (G := G) (As := [.int 61]) (rest := []) hx hb hml hown hq hE hX pX0_al hP hD hS hA hl.1 (R_take l G h0 a (upd (upd (upd (upd (upd (upd (upd F 15 (nI fa699)) 16 pl1067) 27 (nI ((nd + 1) + 1))) 31 (nI wr701)) 64 (nI at698)) 65 (nI ne)) 66 (nI lk)) (updA (stR X1081 12 nd (nI (nd + 1))) 2 K) at698 T fa699 K 61 (by omega) (by omega) hK (by omega) (by decide) (by decide)) (gV pw_1614 pw_1615 pw_1616 pw_1523 pw_1601) hV_X12_take 0 9 rfl rfl rfl rfl (Nat.le_of_ble_eq_true rfl) dX12_loop_92 ⟨Nat.le_of_ble_eq_true rfl, Nat.le_of_ble_eq_true rfl⟩ ⟨(by show 4 + 1 ≤ (26 * n + 43); omega), (by show 8 + (2 + 11) + 103 ≤ (2000 * n + 4300); omega)⟩ (fun v1087 u1085 H locs hw1086 hP hD hS => ?_)
          obtain ⟨at1088, fa1089, pl1090⟩ := u1085
          obtain ⟨hw1086, h1091, h1092, h1093, h1094, h1095, h1096, h1097, h1098⟩ := hw1086
          have h1091 : at698 ≤ at1088 := h1091
          have h1092 : at1088 ≤ T := h1092
          have h1093 : fa699 ≤ fa1089 := h1093
          have h1094 : fa1089 ≤ 100 := h1094
          have h1095 : If (0 < fa699) (at1088 = at698 ∧ fa1089 = fa699) := h1095
          have h1096 : at1088 ≤ at698 + 1 := h1096
          have h1097 : at698 + 1 ≤ at1088 + fa1089 := h1097
          have h1098 : If (fa1089 = 0) (K at698 = 61) := h1098
          obtain rfl : v1087 = none := hw1086
          have hP : va_P G.1 pCl (mW G h0 a (upd (upd (upd (upd (upd (upd (upd F 15 (nI fa1089)) 16 pl1090) 27 (nI ((nd + 1) + 1))) 31 (nI wr701)) 64 (nI at1088)) 65 (nI ne)) 66 (nI lk)) (updA (stR X1081 12 nd (nI (nd + 1))) 2 K)) _ := mW_to (F := F) (l1 := [(15, (nI fa699)), (16, pl1067), (27, (nI ((nd + 1) + 1))), (31, (nI wr701)), (64, (nI at698)), (65, (nI ne)), (66, (nI lk)), (15, (nI fa1089)), (16, pl1090), (64, (nI at1088))]) (l2 := [(15, (nI fa1089)), (16, pl1090), (27, (nI ((nd + 1) + 1))), (31, (nI wr701)), (64, (nI at1088)), (65, (nI ne)), (66, (nI lk))]) (V := [(nI fa1089), pl1090, (nI ((nd + 1) + 1)), (nI wr701), (nI at1088), (nI ne), (nI lk), (nI fa1089), pl1090, (nI at1088), (nI fa1089), pl1090, (nI ((nd + 1) + 1)), (nI wr701), (nI at1088), (nI ne), (nI lk)]) rfl rfl (show (updA (updA (stR X1081 12 nd (nI (nd + 1))) 2 K) 2 K) = (updA (stR X1081 12 nd (nI (nd + 1))) 2 K) from updsA_eq2 (F := X1081) (l1 := [(12, (upd (X1081 12) nd (nI (nd + 1)))), (2, K), (2, K)]) (l2 := [(12, (upd (X1081 12) nd (nI (nd + 1)))), (2, K)]) (V := [(upd (X1081 12) nd (nI (nd + 1))), K, K, (upd (X1081 12) nd (nI (nd + 1))), K]) rfl rfl) hP
          have hD : va_D A (mW G h0 a (upd (upd (upd (upd (upd (upd (upd F 15 (nI fa1089)) 16 pl1090) 27 (nI ((nd + 1) + 1))) 31 (nI wr701)) 64 (nI at1088)) 65 (nI ne)) 66 (nI lk)) (updA (stR X1081 12 nd (nI (nd + 1))) 2 K)) := mW_D hD
          refine W.widen (k := 0) (n := 0) (Nat.le_of_ble_eq_true rfl) (Nat.le_of_ble_eq_true rfl) ?_
          refine W.eq (g2 := F0 m 95 ls []) rfl ?_
          obtain ⟨n1100, n1099⟩ := h1095 e720
          replace n1100 := n1100.symm
          subst n1100
          replace n1099 := n1099.symm
          subst n1099
          refine lv_aload_n hx hb dX12_loop_95 rfl (lv_at hl 4 rfl) ?_
          refine r_get (v := .ref (a 13)) hx hb hown hq hE hP 21 50 tFX12_21 (by decide) pw_1443 rfl dX12_loop_96 ?_
          refine lv_aload_n hx hb dX12_loop_99 rfl (lv_at hl 4 rfl) ?_
          refine r_get (v := .ref (a 12)) hx hb hown hq hE hP 20 47 tFX12_20 (by decide) pw_1442 rfl dX12_loop_100 ?_
          refine lv_iload_n hx hb dX12_loop_103 rfl (lv_at hl 3 rfl) ?_
          refine r_ldi (f := ((stR X1081 12 nd (nI (nd + 1))) 12)) (j := nd) hx hb hE hP 12 (ma_12 G a _) rfl (by omega) (by decide) dX12_loop_104 ?_
          refine lv_topi (fun x1101 e1102 => ?_)
          obtain rfl : x1101 = nI (nd + 1) := e1102.trans st_eq
          refine lv_aload_n hx hb dX12_loop_105 rfl (lv_at hl 4 rfl) ?_
          have hP : va_P G.1 pCl (mW G h0 a (upd (upd (upd (upd (upd (upd (upd (upd (upd F 15 (nI fa699)) 16 pl1090) 27 (nI ((nd + 1) + 1))) 31 (nI wr701)) 64 (nI at698)) 65 (nI ne)) 66 (nI lk)) 15 (nI fa699)) 64 (nI at698)) (updA (updA (stR X1081 12 nd (nI (nd + 1))) 2 K) 2 K)) _ := hP
          have hD : va_D A (mW G h0 a (upd (upd (upd (upd (upd (upd (upd (upd (upd F 15 (nI fa699)) 16 pl1090) 27 (nI ((nd + 1) + 1))) 31 (nI wr701)) 64 (nI at698)) 65 (nI ne)) 66 (nI lk)) 15 (nI fa699)) 64 (nI at698)) (updA (updA (stR X1081 12 nd (nI (nd + 1))) 2 K) 2 K)) := mW_D hD
          refine pc_V0 (G := G) (As := []) (rest := [.int (nI (nd + 1)), .ref (a 13)]) hx hb hml hown hq hE hX pX0_al hP hD hS hA hl.1 (RF_choice l G h0 a (upd (upd (upd (upd (upd (upd (upd F 15 (nI fa699)) 16 pl1090) 27 (nI ((nd + 1) + 1))) 31 (nI wr701)) 64 (nI at698)) 65 (nI ne)) 66 (nI lk)) (updA (stR X1081 12 nd (nI (nd + 1))) 2 K) at698 T fa699 K (by omega) (by omega) hK (by omega) e720) (gV pw_1640 pw_1641 pw_1642 pw_1523 pw_1656) hV_X12_choice 0 9 rfl rfl rfl rfl (Nat.le_of_ble_eq_true rfl) dX12_loop_106 ⟨Nat.le_of_ble_eq_true rfl, Nat.le_of_ble_eq_true rfl⟩ ⟨(by show 16 + 1 ≤ (26 * n + 43); omega), (by show 8 + (4 + 11) + 405 ≤ (2000 * n + 4300); omega)⟩ (fun v1105 u1103 H locs hw1104 hP hD hS => ?_)
          obtain rfl : v1105 = some (.int 0) := hw1104
          have hP : va_P G.1 pCl (mW G h0 a (upd (upd (upd (upd (upd (upd (upd F 15 (nI fa699)) 16 pl1090) 27 (nI ((nd + 1) + 1))) 31 (nI wr701)) 64 (nI at698)) 65 (nI ne)) 66 (nI lk)) (updA (stR X1081 12 nd (nI (nd + 1))) 2 K)) _ := mW_to (F := F) (l1 := [(15, (nI fa699)), (16, pl1090), (27, (nI ((nd + 1) + 1))), (31, (nI wr701)), (64, (nI at698)), (65, (nI ne)), (66, (nI lk)), (15, (nI fa699)), (64, (nI at698))]) (l2 := [(15, (nI fa699)), (16, pl1090), (27, (nI ((nd + 1) + 1))), (31, (nI wr701)), (64, (nI at698)), (65, (nI ne)), (66, (nI lk))]) (V := [(nI fa699), pl1090, (nI ((nd + 1) + 1)), (nI wr701), (nI at698), (nI ne), (nI lk), (nI fa699), (nI at698), (nI fa699), pl1090, (nI ((nd + 1) + 1)), (nI wr701), (nI at698), (nI ne), (nI lk)]) rfl rfl (show (updA (updA (stR X1081 12 nd (nI (nd + 1))) 2 K) 2 K) = (updA (stR X1081 12 nd (nI (nd + 1))) 2 K) from updsA_eq2 (F := X1081) (l1 := [(12, (upd (X1081 12) nd (nI (nd + 1)))), (2, K), (2, K)]) (l2 := [(12, (upd (X1081 12) nd (nI (nd + 1)))), (2, K)]) (V := [(upd (X1081 12) nd (nI (nd + 1))), K, K, (upd (X1081 12) nd (nI (nd + 1))), K]) rfl rfl) hP
          have hD : va_D A (mW G h0 a (upd (upd (upd (upd (upd (upd (upd F 15 (nI fa699)) 16 pl1090) 27 (nI ((nd + 1) + 1))) 31 (nI wr701)) 64 (nI at698)) 65 (nI ne)) 66 (nI lk)) (updA (stR X1081 12 nd (nI (nd + 1))) 2 K)) := mW_D hD
          refine W.widen (k := 0) (n := 0) (Nat.le_of_ble_eq_true rfl) (Nat.le_of_ble_eq_true rfl) ?_
          refine W.eq (g2 := F0 m 109 ls [.int 0, .int (nI (nd + 1)), .ref (a 13)]) rfl ?_
          refine r_sti (f := ((stR X1081 12 nd (nI (nd + 1))) 13)) (j := (nd + 1)) hx hb hE hP hD hS 13 (ma_13 G a _) rfl (mas_13 G a _) (by omega) (by decide) dX12_loop_109 (fun H locs hP hD hS => ?_)
          have hP : va_P G.1 pCl (mW G h0 a (upd (upd (upd (upd (upd (upd (upd F 15 (nI fa699)) 16 pl1090) 27 (nI ((nd + 1) + 1))) 31 (nI wr701)) 64 (nI at698)) 65 (nI ne)) 66 (nI lk)) (updA (stR (stR X1081 12 nd (nI (nd + 1))) 13 (nd + 1) 0) 2 K)) _ := mW_to (F := F) (l1 := [(15, (nI fa699)), (16, pl1090), (27, (nI ((nd + 1) + 1))), (31, (nI wr701)), (64, (nI at698)), (65, (nI ne)), (66, (nI lk))]) (l2 := [(15, (nI fa699)), (16, pl1090), (27, (nI ((nd + 1) + 1))), (31, (nI wr701)), (64, (nI at698)), (65, (nI ne)), (66, (nI lk))]) (V := [(nI fa699), pl1090, (nI ((nd + 1) + 1)), (nI wr701), (nI at698), (nI ne), (nI lk), (nI fa699), pl1090, (nI ((nd + 1) + 1)), (nI wr701), (nI at698), (nI ne), (nI lk)]) rfl rfl (show (updA (updA (stR X1081 12 nd (nI (nd + 1))) 2 K) 13 (upd ((stR X1081 12 nd (nI (nd + 1))) 13) (nd + 1) 0)) = (updA (stR (stR X1081 12 nd (nI (nd + 1))) 13 (nd + 1) 0) 2 K) from updsA_eq2 (F := X1081) (l1 := [(12, (upd (X1081 12) nd (nI (nd + 1)))), (2, K), (13, (upd ((stR X1081 12 nd (nI (nd + 1))) 13) (nd + 1) 0))]) (l2 := [(12, (upd (X1081 12) nd (nI (nd + 1)))), (13, (upd ((stR X1081 12 nd (nI (nd + 1))) 13) (nd + 1) 0)), (2, K)]) (V := [(upd (X1081 12) nd (nI (nd + 1))), K, (upd ((stR X1081 12 nd (nI (nd + 1))) 13) (nd + 1) 0), (upd (X1081 12) nd (nI (nd + 1))), (upd ((stR X1081 12 nd (nI (nd + 1))) 13) (nd + 1) 0), K]) rfl rfl) hP
          have hD : va_D A (mW G h0 a (upd (upd (upd (upd (upd (upd (upd F 15 (nI fa699)) 16 pl1090) 27 (nI ((nd + 1) + 1))) 31 (nI wr701)) 64 (nI at698)) 65 (nI ne)) 66 (nI lk)) (updA (stR (stR X1081 12 nd (nI (nd + 1))) 13 (nd + 1) 0) 2 K)) := mW_D hD
          have hkp1106 : Kp B (stR (stR X1081 12 nd (nI (nd + 1))) 13 (nd + 1) 0) wr701 T := (Kp.row hkp1084 (by omega))
          refine lv_goto (tgt := 139) hx hb dX12_loop_110 (by decide) ?_
          refine lv_aload_n hx hb dX12_loop_139 rfl (lv_at hl 4 rfl) ?_
          refine lv_bipush (v := 59) hx hb dX12_loop_140 (by decide) ?_
          have hP : va_P G.1 pCl (mW G h0 a (upd (upd (upd (upd (upd (upd (upd (upd (upd F 15 (nI fa699)) 16 pl1090) 27 (nI ((nd + 1) + 1))) 31 (nI wr701)) 64 (nI at698)) 65 (nI ne)) 66 (nI lk)) 15 (nI fa699)) 64 (nI at698)) (updA (updA (stR (stR X1081 12 nd (nI (nd + 1))) 13 (nd + 1) 0) 2 K) 2 K)) _ := mW_to (F := F) (l1 := [(15, (nI fa699)), (16, pl1090), (27, (nI ((nd + 1) + 1))), (31, (nI wr701)), (64, (nI at698)), (65, (nI ne)), (66, (nI lk))]) (l2 := [(15, (nI fa699)), (16, pl1090), (27, (nI ((nd + 1) + 1))), (31, (nI wr701)), (64, (nI at698)), (65, (nI ne)), (66, (nI lk)), (15, (nI fa699)), (64, (nI at698))]) (V := [(nI fa699), pl1090, (nI ((nd + 1) + 1)), (nI wr701), (nI at698), (nI ne), (nI lk), (nI fa699), pl1090, (nI ((nd + 1) + 1)), (nI wr701), (nI at698), (nI ne), (nI lk), (nI fa699), (nI at698)]) rfl rfl (show (updA (stR (stR X1081 12 nd (nI (nd + 1))) 13 (nd + 1) 0) 2 K) = (updA (updA (stR (stR X1081 12 nd (nI (nd + 1))) 13 (nd + 1) 0) 2 K) 2 K) from updsA_eq2 (F := X1081) (l1 := [(12, (upd (X1081 12) nd (nI (nd + 1)))), (13, (upd ((stR X1081 12 nd (nI (nd + 1))) 13) (nd + 1) 0)), (2, K)]) (l2 := [(12, (upd (X1081 12) nd (nI (nd + 1)))), (13, (upd ((stR X1081 12 nd (nI (nd + 1))) 13) (nd + 1) 0)), (2, K), (2, K)]) (V := [(upd (X1081 12) nd (nI (nd + 1))), (upd ((stR X1081 12 nd (nI (nd + 1))) 13) (nd + 1) 0), K, (upd (X1081 12) nd (nI (nd + 1))), (upd ((stR X1081 12 nd (nI (nd + 1))) 13) (nd + 1) 0), K, K]) rfl rfl) hP
          have hD : va_D A (mW G h0 a (upd (upd (upd (upd (upd (upd (upd (upd (upd F 15 (nI fa699)) 16 pl1090) 27 (nI ((nd + 1) + 1))) 31 (nI wr701)) 64 (nI at698)) 65 (nI ne)) 66 (nI lk)) 15 (nI fa699)) 64 (nI at698)) (updA (updA (stR (stR X1081 12 nd (nI (nd + 1))) 13 (nd + 1) 0) 2 K) 2 K)) := mW_D hD
          refine pc_V0 (G := G) (As := [.int 59]) (rest := []) hx hb hml hown hq hE hX pX0_al hP hD hS hA hl.1 (R_take l G h0 a (upd (upd (upd (upd (upd (upd (upd F 15 (nI fa699)) 16 pl1090) 27 (nI ((nd + 1) + 1))) 31 (nI wr701)) 64 (nI at698)) 65 (nI ne)) 66 (nI lk)) (updA (stR (stR X1081 12 nd (nI (nd + 1))) 13 (nd + 1) 0) 2 K) at698 T fa699 K 59 (by omega) (by omega) hK (by omega) (by decide) (by decide)) (gV pw_1614 pw_1615 pw_1616 pw_1523 pw_1601) hV_X12_take 0 9 rfl rfl rfl rfl (Nat.le_of_ble_eq_true rfl) dX12_loop_142 ⟨Nat.le_of_ble_eq_true rfl, Nat.le_of_ble_eq_true rfl⟩ ⟨(by show 4 + 1 ≤ (26 * n + 43); omega), (by show 8 + (2 + 11) + 103 ≤ (2000 * n + 4300); omega)⟩ (fun v1109 u1107 H locs hw1108 hP hD hS => ?_)
          obtain ⟨at1110, fa1111, pl1112⟩ := u1107
          obtain ⟨hw1108, h1113, h1114, h1115, h1116, h1117, h1118, h1119, h1120⟩ := hw1108
          have h1113 : at698 ≤ at1110 := h1113
          have h1114 : at1110 ≤ T := h1114
          have h1115 : fa699 ≤ fa1111 := h1115
          have h1116 : fa1111 ≤ 100 := h1116
          have h1117 : If (0 < fa699) (at1110 = at698 ∧ fa1111 = fa699) := h1117
          have h1118 : at1110 ≤ at698 + 1 := h1118
          have h1119 : at698 + 1 ≤ at1110 + fa1111 := h1119
          have h1120 : If (fa1111 = 0) (K at698 = 59) := h1120
          obtain rfl : v1109 = none := hw1108
          have hP : va_P G.1 pCl (mW G h0 a (upd (upd (upd (upd (upd (upd (upd F 15 (nI fa1111)) 16 pl1112) 27 (nI ((nd + 1) + 1))) 31 (nI wr701)) 64 (nI at1110)) 65 (nI ne)) 66 (nI lk)) (updA (stR (stR X1081 12 nd (nI (nd + 1))) 13 (nd + 1) 0) 2 K)) _ := mW_to (F := F) (l1 := [(15, (nI fa699)), (16, pl1090), (27, (nI ((nd + 1) + 1))), (31, (nI wr701)), (64, (nI at698)), (65, (nI ne)), (66, (nI lk)), (15, (nI fa1111)), (16, pl1112), (64, (nI at1110))]) (l2 := [(15, (nI fa1111)), (16, pl1112), (27, (nI ((nd + 1) + 1))), (31, (nI wr701)), (64, (nI at1110)), (65, (nI ne)), (66, (nI lk))]) (V := [(nI fa1111), pl1112, (nI ((nd + 1) + 1)), (nI wr701), (nI at1110), (nI ne), (nI lk), (nI fa1111), pl1112, (nI at1110), (nI fa1111), pl1112, (nI ((nd + 1) + 1)), (nI wr701), (nI at1110), (nI ne), (nI lk)]) rfl rfl (show (updA (updA (stR (stR X1081 12 nd (nI (nd + 1))) 13 (nd + 1) 0) 2 K) 2 K) = (updA (stR (stR X1081 12 nd (nI (nd + 1))) 13 (nd + 1) 0) 2 K) from updsA_eq2 (F := X1081) (l1 := [(12, (upd (X1081 12) nd (nI (nd + 1)))), (13, (upd ((stR X1081 12 nd (nI (nd + 1))) 13) (nd + 1) 0)), (2, K), (2, K)]) (l2 := [(12, (upd (X1081 12) nd (nI (nd + 1)))), (13, (upd ((stR X1081 12 nd (nI (nd + 1))) 13) (nd + 1) 0)), (2, K)]) (V := [(upd (X1081 12) nd (nI (nd + 1))), (upd ((stR X1081 12 nd (nI (nd + 1))) 13) (nd + 1) 0), K, K, (upd (X1081 12) nd (nI (nd + 1))), (upd ((stR X1081 12 nd (nI (nd + 1))) 13) (nd + 1) 0), K]) rfl rfl) hP
          have hD : va_D A (mW G h0 a (upd (upd (upd (upd (upd (upd (upd F 15 (nI fa1111)) 16 pl1112) 27 (nI ((nd + 1) + 1))) 31 (nI wr701)) 64 (nI at1110)) 65 (nI ne)) 66 (nI lk)) (updA (stR (stR X1081 12 nd (nI (nd + 1))) 13 (nd + 1) 0) 2 K)) := mW_D hD
          refine W.widen (k := 0) (n := 0) (Nat.le_of_ble_eq_true rfl) (Nat.le_of_ble_eq_true rfl) ?_
          refine W.eq (g2 := F0 m 145 ls []) rfl ?_
          obtain ⟨n1122, n1121⟩ := h1117 e720
          replace n1122 := n1122.symm
          subst n1122
          replace n1121 := n1121.symm
          subst n1121
          refine lv_aload_n hx hb dX12_loop_145 rfl (lv_at hl 4 rfl) ?_
          refine r_get (v := .int (nI fa699)) hx hb hown hq hE hP 15 350 tFX12_15 (by decide) pw_1594 rfl dX12_loop_146 ?_
          refine lv_if_ne (tgt := 171) hx hb dX12_loop_149 (by decide) (fun c1123 => ?_) (fun c1123 => (by have n1124 : fa699 = 0 := (nI_eq (a := fa699) (b := 0) (by omega) (by omega)).mp c1123; omega))
          refine lv_aload_n hx hb dX12_loop_171 rfl (lv_at hl 4 rfl) ?_
          refine lv_bipush (v := 59) hx hb dX12_loop_172 (by decide) ?_
          have hP : va_P G.1 pCl (mW G h0 a (upd (upd (upd (upd (upd (upd (upd (upd (upd F 15 (nI fa699)) 16 pl1112) 27 (nI ((nd + 1) + 1))) 31 (nI wr701)) 64 (nI at698)) 65 (nI ne)) 66 (nI lk)) 15 (nI fa699)) 64 (nI at698)) (updA (updA (stR (stR X1081 12 nd (nI (nd + 1))) 13 (nd + 1) 0) 2 K) 2 K)) _ := hP
          have hD : va_D A (mW G h0 a (upd (upd (upd (upd (upd (upd (upd (upd (upd F 15 (nI fa699)) 16 pl1112) 27 (nI ((nd + 1) + 1))) 31 (nI wr701)) 64 (nI at698)) 65 (nI ne)) 66 (nI lk)) 15 (nI fa699)) 64 (nI at698)) (updA (updA (stR (stR X1081 12 nd (nI (nd + 1))) 13 (nd + 1) 0) 2 K) 2 K)) := mW_D hD
          refine pc_V0 (G := G) (As := [.int 59]) (rest := []) hx hb hml hown hq hE hX pX0_al hP hD hS hA hl.1 (R_take l G h0 a (upd (upd (upd (upd (upd (upd (upd F 15 (nI fa699)) 16 pl1112) 27 (nI ((nd + 1) + 1))) 31 (nI wr701)) 64 (nI at698)) 65 (nI ne)) 66 (nI lk)) (updA (stR (stR X1081 12 nd (nI (nd + 1))) 13 (nd + 1) 0) 2 K) at698 T fa699 K 59 (by omega) (by omega) hK (by omega) (by decide) (by decide)) (gV pw_1614 pw_1615 pw_1616 pw_1523 pw_1601) hV_X12_take 0 9 rfl rfl rfl rfl (Nat.le_of_ble_eq_true rfl) dX12_loop_174 ⟨Nat.le_of_ble_eq_true rfl, Nat.le_of_ble_eq_true rfl⟩ ⟨(by show 4 + 1 ≤ (26 * n + 43); omega), (by show 8 + (2 + 11) + 103 ≤ (2000 * n + 4300); omega)⟩ (fun v1127 u1125 H locs hw1126 hP hD hS => ?_)
          obtain ⟨at1128, fa1129, pl1130⟩ := u1125
          obtain ⟨hw1126, h1131, h1132, h1133, h1134, h1135, h1136, h1137, h1138⟩ := hw1126
          have h1131 : at698 ≤ at1128 := h1131
          have h1132 : at1128 ≤ T := h1132
          have h1133 : fa699 ≤ fa1129 := h1133
          have h1134 : fa1129 ≤ 100 := h1134
          have h1135 : If (0 < fa699) (at1128 = at698 ∧ fa1129 = fa699) := h1135
          have h1136 : at1128 ≤ at698 + 1 := h1136
          have h1137 : at698 + 1 ≤ at1128 + fa1129 := h1137
          have h1138 : If (fa1129 = 0) (K at698 = 59) := h1138
          obtain rfl : v1127 = none := hw1126
          have hP : va_P G.1 pCl (mW G h0 a (upd (upd (upd (upd (upd (upd (upd F 15 (nI fa1129)) 16 pl1130) 27 (nI ((nd + 1) + 1))) 31 (nI wr701)) 64 (nI at1128)) 65 (nI ne)) 66 (nI lk)) (updA (stR (stR X1081 12 nd (nI (nd + 1))) 13 (nd + 1) 0) 2 K)) _ := mW_to (F := F) (l1 := [(15, (nI fa699)), (16, pl1112), (27, (nI ((nd + 1) + 1))), (31, (nI wr701)), (64, (nI at698)), (65, (nI ne)), (66, (nI lk)), (15, (nI fa1129)), (16, pl1130), (64, (nI at1128))]) (l2 := [(15, (nI fa1129)), (16, pl1130), (27, (nI ((nd + 1) + 1))), (31, (nI wr701)), (64, (nI at1128)), (65, (nI ne)), (66, (nI lk))]) (V := [(nI fa1129), pl1130, (nI ((nd + 1) + 1)), (nI wr701), (nI at1128), (nI ne), (nI lk), (nI fa1129), pl1130, (nI at1128), (nI fa1129), pl1130, (nI ((nd + 1) + 1)), (nI wr701), (nI at1128), (nI ne), (nI lk)]) rfl rfl (show (updA (updA (stR (stR X1081 12 nd (nI (nd + 1))) 13 (nd + 1) 0) 2 K) 2 K) = (updA (stR (stR X1081 12 nd (nI (nd + 1))) 13 (nd + 1) 0) 2 K) from updsA_eq2 (F := X1081) (l1 := [(12, (upd (X1081 12) nd (nI (nd + 1)))), (13, (upd ((stR X1081 12 nd (nI (nd + 1))) 13) (nd + 1) 0)), (2, K), (2, K)]) (l2 := [(12, (upd (X1081 12) nd (nI (nd + 1)))), (13, (upd ((stR X1081 12 nd (nI (nd + 1))) 13) (nd + 1) 0)), (2, K)]) (V := [(upd (X1081 12) nd (nI (nd + 1))), (upd ((stR X1081 12 nd (nI (nd + 1))) 13) (nd + 1) 0), K, K, (upd (X1081 12) nd (nI (nd + 1))), (upd ((stR X1081 12 nd (nI (nd + 1))) 13) (nd + 1) 0), K]) rfl rfl) hP
          have hD : va_D A (mW G h0 a (upd (upd (upd (upd (upd (upd (upd F 15 (nI fa1129)) 16 pl1130) 27 (nI ((nd + 1) + 1))) 31 (nI wr701)) 64 (nI at1128)) 65 (nI ne)) 66 (nI lk)) (updA (stR (stR X1081 12 nd (nI (nd + 1))) 13 (nd + 1) 0) 2 K)) := mW_D hD
          refine W.widen (k := 0) (n := 0) (Nat.le_of_ble_eq_true rfl) (Nat.le_of_ble_eq_true rfl) ?_
          refine W.eq (g2 := F0 m 177 ls []) rfl ?_
          obtain ⟨n1140, n1139⟩ := h1135 e720
          replace n1140 := n1140.symm
          subst n1140
          replace n1139 := n1139.symm
          subst n1139
          refine lv_aload_n hx hb dX12_loop_177 rfl (lv_at hl 4 rfl) ?_
          refine r_get (v := .int (nI fa699)) hx hb hown hq hE hP 15 350 tFX12_15 (by decide) pw_1594 rfl dX12_loop_178 ?_
          refine lv_if_ne (tgt := 219) hx hb dX12_loop_181 (by decide) (fun c1141 => ?_) (fun c1141 => (by have n1142 : fa699 = 0 := (nI_eq (a := fa699) (b := 0) (by omega) (by omega)).mp c1141; omega))
          refine lv_aload_n hx hb dX12_loop_219 rfl (lv_at hl 4 rfl) ?_
          refine lv_bipush (v := 41) hx hb dX12_loop_220 (by decide) ?_
          have hP : va_P G.1 pCl (mW G h0 a (upd (upd (upd (upd (upd (upd (upd (upd (upd F 15 (nI fa699)) 16 pl1130) 27 (nI ((nd + 1) + 1))) 31 (nI wr701)) 64 (nI at698)) 65 (nI ne)) 66 (nI lk)) 15 (nI fa699)) 64 (nI at698)) (updA (updA (stR (stR X1081 12 nd (nI (nd + 1))) 13 (nd + 1) 0) 2 K) 2 K)) _ := hP
          have hD : va_D A (mW G h0 a (upd (upd (upd (upd (upd (upd (upd (upd (upd F 15 (nI fa699)) 16 pl1130) 27 (nI ((nd + 1) + 1))) 31 (nI wr701)) 64 (nI at698)) 65 (nI ne)) 66 (nI lk)) 15 (nI fa699)) 64 (nI at698)) (updA (updA (stR (stR X1081 12 nd (nI (nd + 1))) 13 (nd + 1) 0) 2 K) 2 K)) := mW_D hD
          refine pc_V0 (G := G) (As := [.int 41]) (rest := []) hx hb hml hown hq hE hX pX0_al hP hD hS hA hl.1 (R_take l G h0 a (upd (upd (upd (upd (upd (upd (upd F 15 (nI fa699)) 16 pl1130) 27 (nI ((nd + 1) + 1))) 31 (nI wr701)) 64 (nI at698)) 65 (nI ne)) 66 (nI lk)) (updA (stR (stR X1081 12 nd (nI (nd + 1))) 13 (nd + 1) 0) 2 K) at698 T fa699 K 41 (by omega) (by omega) hK (by omega) (by decide) (by decide)) (gV pw_1614 pw_1615 pw_1616 pw_1523 pw_1601) hV_X12_take 0 9 rfl rfl rfl rfl (Nat.le_of_ble_eq_true rfl) dX12_loop_222 ⟨Nat.le_of_ble_eq_true rfl, Nat.le_of_ble_eq_true rfl⟩ ⟨(by show 4 + 1 ≤ (26 * n + 43); omega), (by show 8 + (2 + 11) + 103 ≤ (2000 * n + 4300); omega)⟩ (fun v1145 u1143 H locs hw1144 hP hD hS => ?_)
          obtain ⟨at1146, fa1147, pl1148⟩ := u1143
          obtain ⟨hw1144, h1149, h1150, h1151, h1152, h1153, h1154, h1155, h1156⟩ := hw1144
          have h1149 : at698 ≤ at1146 := h1149
          have h1150 : at1146 ≤ T := h1150
          have h1151 : fa699 ≤ fa1147 := h1151
          have h1152 : fa1147 ≤ 100 := h1152
          have h1153 : If (0 < fa699) (at1146 = at698 ∧ fa1147 = fa699) := h1153
          have h1154 : at1146 ≤ at698 + 1 := h1154
          have h1155 : at698 + 1 ≤ at1146 + fa1147 := h1155
          have h1156 : If (fa1147 = 0) (K at698 = 41) := h1156
          obtain rfl : v1145 = none := hw1144
          have hP : va_P G.1 pCl (mW G h0 a (upd (upd (upd (upd (upd (upd (upd F 15 (nI fa1147)) 16 pl1148) 27 (nI ((nd + 1) + 1))) 31 (nI wr701)) 64 (nI at1146)) 65 (nI ne)) 66 (nI lk)) (updA (stR (stR X1081 12 nd (nI (nd + 1))) 13 (nd + 1) 0) 2 K)) _ := mW_to (F := F) (l1 := [(15, (nI fa699)), (16, pl1130), (27, (nI ((nd + 1) + 1))), (31, (nI wr701)), (64, (nI at698)), (65, (nI ne)), (66, (nI lk)), (15, (nI fa1147)), (16, pl1148), (64, (nI at1146))]) (l2 := [(15, (nI fa1147)), (16, pl1148), (27, (nI ((nd + 1) + 1))), (31, (nI wr701)), (64, (nI at1146)), (65, (nI ne)), (66, (nI lk))]) (V := [(nI fa1147), pl1148, (nI ((nd + 1) + 1)), (nI wr701), (nI at1146), (nI ne), (nI lk), (nI fa1147), pl1148, (nI at1146), (nI fa1147), pl1148, (nI ((nd + 1) + 1)), (nI wr701), (nI at1146), (nI ne), (nI lk)]) rfl rfl (show (updA (updA (stR (stR X1081 12 nd (nI (nd + 1))) 13 (nd + 1) 0) 2 K) 2 K) = (updA (stR (stR X1081 12 nd (nI (nd + 1))) 13 (nd + 1) 0) 2 K) from updsA_eq2 (F := X1081) (l1 := [(12, (upd (X1081 12) nd (nI (nd + 1)))), (13, (upd ((stR X1081 12 nd (nI (nd + 1))) 13) (nd + 1) 0)), (2, K), (2, K)]) (l2 := [(12, (upd (X1081 12) nd (nI (nd + 1)))), (13, (upd ((stR X1081 12 nd (nI (nd + 1))) 13) (nd + 1) 0)), (2, K)]) (V := [(upd (X1081 12) nd (nI (nd + 1))), (upd ((stR X1081 12 nd (nI (nd + 1))) 13) (nd + 1) 0), K, K, (upd (X1081 12) nd (nI (nd + 1))), (upd ((stR X1081 12 nd (nI (nd + 1))) 13) (nd + 1) 0), K]) rfl rfl) hP
          have hD : va_D A (mW G h0 a (upd (upd (upd (upd (upd (upd (upd F 15 (nI fa1147)) 16 pl1148) 27 (nI ((nd + 1) + 1))) 31 (nI wr701)) 64 (nI at1146)) 65 (nI ne)) 66 (nI lk)) (updA (stR (stR X1081 12 nd (nI (nd + 1))) 13 (nd + 1) 0) 2 K)) := mW_D hD
          refine W.widen (k := 0) (n := 0) (Nat.le_of_ble_eq_true rfl) (Nat.le_of_ble_eq_true rfl) ?_
          refine W.eq (g2 := F0 m 225 ls []) rfl ?_
          obtain ⟨n1158, n1157⟩ := h1153 e720
          replace n1158 := n1158.symm
          subst n1158
          replace n1157 := n1157.symm
          subst n1157
          refine lv_aload_n hx hb dX12_loop_225 rfl (lv_at hl 4 rfl) ?_
          refine r_get (v := .ref (a 15)) hx hb hown hq hE hP 23 56 tFX12_23 (by decide) pw_1445 rfl dX12_loop_226 ?_
          refine lv_iload_n hx hb dX12_loop_229 rfl (lv_at hl 3 rfl) ?_
          refine lv_aload_n hx hb dX12_loop_230 rfl (lv_at hl 4 rfl) ?_
          have hP : va_P G.1 pCl (mW G h0 a (upd (upd (upd (upd (upd (upd (upd (upd (upd F 15 (nI fa699)) 16 pl1148) 27 (nI ((nd + 1) + 1))) 31 (nI wr701)) 64 (nI at698)) 65 (nI ne)) 66 (nI lk)) 15 (nI fa699)) 64 (nI at698)) (updA (updA (stR (stR X1081 12 nd (nI (nd + 1))) 13 (nd + 1) 0) 2 K) 2 K)) _ := hP
          have hD : va_D A (mW G h0 a (upd (upd (upd (upd (upd (upd (upd (upd (upd F 15 (nI fa699)) 16 pl1148) 27 (nI ((nd + 1) + 1))) 31 (nI wr701)) 64 (nI at698)) 65 (nI ne)) 66 (nI lk)) 15 (nI fa699)) 64 (nI at698)) (updA (updA (stR (stR X1081 12 nd (nI (nd + 1))) 13 (nd + 1) 0) 2 K) 2 K)) := mW_D hD
          refine pc_V0 (G := G) (As := []) (rest := [.int (nI nd), .ref (a 15)]) hx hb hml hown hq hE hX pX0_al hP hD hS hA hl.1 (RF_statement l G h0 a (upd (upd (upd (upd (upd (upd (upd F 15 (nI fa699)) 16 pl1148) 27 (nI ((nd + 1) + 1))) 31 (nI wr701)) 64 (nI at698)) 65 (nI ne)) 66 (nI lk)) (updA (stR (stR X1081 12 nd (nI (nd + 1))) 13 (nd + 1) 0) 2 K) at698 T fa699 K (by omega) (by omega) hK (by omega) e720) (gV pw_1699 pw_1700 pw_1701 pw_1523 pw_1706) hV_X12_statement 0 9 rfl rfl rfl rfl (Nat.le_of_ble_eq_true rfl) dX12_loop_231 ⟨Nat.le_of_ble_eq_true rfl, Nat.le_of_ble_eq_true rfl⟩ ⟨(by show 2 + 1 ≤ (26 * n + 43); omega), (by show 8 + (3 + 11) + 60 ≤ (2000 * n + 4300); omega)⟩ (fun v1161 u1159 H locs hw1160 hP hD hS => ?_)
          obtain rfl : v1161 = some (.int 0) := hw1160
          have hP : va_P G.1 pCl (mW G h0 a (upd (upd (upd (upd (upd (upd (upd F 15 (nI fa699)) 16 pl1148) 27 (nI ((nd + 1) + 1))) 31 (nI wr701)) 64 (nI at698)) 65 (nI ne)) 66 (nI lk)) (updA (stR (stR X1081 12 nd (nI (nd + 1))) 13 (nd + 1) 0) 2 K)) _ := mW_to (F := F) (l1 := [(15, (nI fa699)), (16, pl1148), (27, (nI ((nd + 1) + 1))), (31, (nI wr701)), (64, (nI at698)), (65, (nI ne)), (66, (nI lk)), (15, (nI fa699)), (64, (nI at698))]) (l2 := [(15, (nI fa699)), (16, pl1148), (27, (nI ((nd + 1) + 1))), (31, (nI wr701)), (64, (nI at698)), (65, (nI ne)), (66, (nI lk))]) (V := [(nI fa699), pl1148, (nI ((nd + 1) + 1)), (nI wr701), (nI at698), (nI ne), (nI lk), (nI fa699), (nI at698), (nI fa699), pl1148, (nI ((nd + 1) + 1)), (nI wr701), (nI at698), (nI ne), (nI lk)]) rfl rfl (show (updA (updA (stR (stR X1081 12 nd (nI (nd + 1))) 13 (nd + 1) 0) 2 K) 2 K) = (updA (stR (stR X1081 12 nd (nI (nd + 1))) 13 (nd + 1) 0) 2 K) from updsA_eq2 (F := X1081) (l1 := [(12, (upd (X1081 12) nd (nI (nd + 1)))), (13, (upd ((stR X1081 12 nd (nI (nd + 1))) 13) (nd + 1) 0)), (2, K), (2, K)]) (l2 := [(12, (upd (X1081 12) nd (nI (nd + 1)))), (13, (upd ((stR X1081 12 nd (nI (nd + 1))) 13) (nd + 1) 0)), (2, K)]) (V := [(upd (X1081 12) nd (nI (nd + 1))), (upd ((stR X1081 12 nd (nI (nd + 1))) 13) (nd + 1) 0), K, K, (upd (X1081 12) nd (nI (nd + 1))), (upd ((stR X1081 12 nd (nI (nd + 1))) 13) (nd + 1) 0), K]) rfl rfl) hP
          have hD : va_D A (mW G h0 a (upd (upd (upd (upd (upd (upd (upd F 15 (nI fa699)) 16 pl1148) 27 (nI ((nd + 1) + 1))) 31 (nI wr701)) 64 (nI at698)) 65 (nI ne)) 66 (nI lk)) (updA (stR (stR X1081 12 nd (nI (nd + 1))) 13 (nd + 1) 0) 2 K)) := mW_D hD
          refine W.widen (k := 0) (n := 0) (Nat.le_of_ble_eq_true rfl) (Nat.le_of_ble_eq_true rfl) ?_
          refine W.eq (g2 := F0 m 234 ls [.int 0, .int (nI nd), .ref (a 15)]) rfl ?_
          refine r_sti (f := ((stR (stR X1081 12 nd (nI (nd + 1))) 13 (nd + 1) 0) 15)) (j := nd) hx hb hE hP hD hS 15 (ma_15 G a _) rfl (mas_15 G a _) (by omega) (by decide) dX12_loop_234 (fun H locs hP hD hS => ?_)
          have hP : va_P G.1 pCl (mW G h0 a (upd (upd (upd (upd (upd (upd (upd F 15 (nI fa699)) 16 pl1148) 27 (nI ((nd + 1) + 1))) 31 (nI wr701)) 64 (nI at698)) 65 (nI ne)) 66 (nI lk)) (updA (stR (stR (stR X1081 12 nd (nI (nd + 1))) 13 (nd + 1) 0) 15 nd 0) 2 K)) _ := mW_to (F := F) (l1 := [(15, (nI fa699)), (16, pl1148), (27, (nI ((nd + 1) + 1))), (31, (nI wr701)), (64, (nI at698)), (65, (nI ne)), (66, (nI lk))]) (l2 := [(15, (nI fa699)), (16, pl1148), (27, (nI ((nd + 1) + 1))), (31, (nI wr701)), (64, (nI at698)), (65, (nI ne)), (66, (nI lk))]) (V := [(nI fa699), pl1148, (nI ((nd + 1) + 1)), (nI wr701), (nI at698), (nI ne), (nI lk), (nI fa699), pl1148, (nI ((nd + 1) + 1)), (nI wr701), (nI at698), (nI ne), (nI lk)]) rfl rfl (show (updA (updA (stR (stR X1081 12 nd (nI (nd + 1))) 13 (nd + 1) 0) 2 K) 15 (upd ((stR (stR X1081 12 nd (nI (nd + 1))) 13 (nd + 1) 0) 15) nd 0)) = (updA (stR (stR (stR X1081 12 nd (nI (nd + 1))) 13 (nd + 1) 0) 15 nd 0) 2 K) from updsA_eq2 (F := X1081) (l1 := [(12, (upd (X1081 12) nd (nI (nd + 1)))), (13, (upd ((stR X1081 12 nd (nI (nd + 1))) 13) (nd + 1) 0)), (2, K), (15, (upd ((stR (stR X1081 12 nd (nI (nd + 1))) 13 (nd + 1) 0) 15) nd 0))]) (l2 := [(12, (upd (X1081 12) nd (nI (nd + 1)))), (13, (upd ((stR X1081 12 nd (nI (nd + 1))) 13) (nd + 1) 0)), (15, (upd ((stR (stR X1081 12 nd (nI (nd + 1))) 13 (nd + 1) 0) 15) nd 0)), (2, K)]) (V := [(upd (X1081 12) nd (nI (nd + 1))), (upd ((stR X1081 12 nd (nI (nd + 1))) 13) (nd + 1) 0), K, (upd ((stR (stR X1081 12 nd (nI (nd + 1))) 13 (nd + 1) 0) 15) nd 0), (upd (X1081 12) nd (nI (nd + 1))), (upd ((stR X1081 12 nd (nI (nd + 1))) 13) (nd + 1) 0), (upd ((stR (stR X1081 12 nd (nI (nd + 1))) 13 (nd + 1) 0) 15) nd 0), K]) rfl rfl) hP
          have hD : va_D A (mW G h0 a (upd (upd (upd (upd (upd (upd (upd F 15 (nI fa699)) 16 pl1148) 27 (nI ((nd + 1) + 1))) 31 (nI wr701)) 64 (nI at698)) 65 (nI ne)) 66 (nI lk)) (updA (stR (stR (stR X1081 12 nd (nI (nd + 1))) 13 (nd + 1) 0) 15 nd 0) 2 K)) := mW_D hD
          have hkp1162 : Kp B (stR (stR (stR X1081 12 nd (nI (nd + 1))) 13 (nd + 1) 0) 15 nd 0) wr701 T := (Kp.row hkp1106 (by omega))
          refine lv_iload_n hx hb dX12_loop_235 rfl (lv_at hl 3 rfl) ?_
          have hz1163 : at0 ≤ at698 := (by omega)
          have hz1164 : at698 ≤ T := (by omega)
          have hz1165 : fa699 ≤ 100 := (by omega)
          have hz1166 : nd ≤ ((nd + 1) + 1) := (by omega)
          have hz1167 : ((nd + 1) + 1) + 2 * at0 ≤ nd + 2 * at698 + 100000 * fa699 := (by omega)
          have hz1168 : ((nd + 1) + 1) + 2 * at0 ≤ nd + 2 * at698 + (60 * (21 - ne) + 40) := (by omega)
          have hz1169 : wr ≤ wr701 := (by omega)
          have hz1170 : wr701 + at0 ≤ wr + at698 := (by omega)
          have hz1171 : lk ≤ lk := (by omega)
          have hz1172 : lk ≤ 60 + 100 * fa699 := (by omega)
          have hz1173 : at0 + 1 ≤ at698 + fa699 := (by omega)
          have hz1174 : nd ≤ ((nd + 1) + 1) := (by omega)
          have hz1175 : Kp B (stR (stR (stR X1081 12 nd (nI (nd + 1))) 13 (nd + 1) 0) 15 nd 0) wr701 T := hkp1162
          have hz1176 : If (fa699 = 0) (Low B (stR (stR (stR X1081 12 nd (nI (nd + 1))) 13 (nd + 1) 0) 15 nd 0) nd wr ∧ Frs K T wr701 (stR (stR (stR X1081 12 nd (nI (nd + 1))) 13 (nd + 1) 0) 15 nd 0) nd ((nd + 1) + 1) 20000 [(nd, (280 + 4 * (21 - ne)))] ∧ kcl 3 ((stR (stR (stR X1081 12 nd (nI (nd + 1))) 13 (nd + 1) 0) 15 nd 0) 9 nd) = true) := (fun e => absurd e (by omega))
          have hP : va_P G.1 pCl (mW G h0 a (upd (upd (upd (upd (upd (upd (upd F 15 (nI fa699)) 16 pl1148) 27 (nI ((nd + 1) + 1))) 31 (nI wr701)) 64 (nI at698)) 65 (nI ne)) 66 (nI lk)) (updA (stR (stR (stR X1081 12 nd (nI (nd + 1))) 13 (nd + 1) 0) 15 nd 0) 2 K)) _ := hP
          have hD : va_D A (mW G h0 a (upd (upd (upd (upd (upd (upd (upd F 15 (nI fa699)) 16 pl1148) 27 (nI ((nd + 1) + 1))) 31 (nI wr701)) 64 (nI at698)) 65 (nI ne)) 66 (nI lk)) (updA (stR (stR (stR X1081 12 nd (nI (nd + 1))) 13 (nd + 1) 0) 15 nd 0) 2 K)) := mW_D hD
          exact W.iret (v := (nI nd)) hx hb hr (fun t9 ht9 hW9 => ⟨⟨_, (at698, fa699, pl1148, ((nd + 1) + 1), lk, wr701, nd, (stR (stR (stR X1081 12 nd (nI (nd + 1))) 13 (nd + 1) 0) 15 nd 0)), rfl, ⟨rfl, hz1163, hz1164, hz1165, hz1166, hz1167, hz1168, hz1169, hz1170, hz1171, hz1172, hz1173, hz1174, hz1175, hz1176⟩, by rw [ht9]; exact hP, hD⟩, hS.F ht9⟩) hS.2.2 dX12_loop_236
  · have e28 := e28
    refine lv_aload_n hx hb dX12_loop_33 rfl (lv_at hl 1 rfl) ?_
    refine r_get (v := .int (nI fa18)) hx hb hown hq hE hP 15 350 tFX12_15 (by decide) pw_1594 rfl dX12_loop_34 ?_
    refine lv_if_ne (tgt := 139) hx hb dX12_loop_37 (by decide) (fun c1177 => ?_) (fun c1177 => (by have n1178 : fa18 = 0 := (nI_eq (a := fa18) (b := 0) (by omega) (by omega)).mp c1177; omega))
    refine lv_aload_n hx hb dX12_loop_139 rfl (lv_at hl 1 rfl) ?_
    refine lv_bipush (v := 59) hx hb dX12_loop_140 (by decide) ?_
    have hP : va_P G.1 pCl (mW G h0 a (upd (upd (upd (upd (upd (upd (upd (upd (upd F 15 (nI fa18)) 16 pl19) 27 (nI (nd + 1))) 31 (nI wr)) 64 (nI at17)) 65 (nI ne)) 66 (nI lk)) 15 (nI fa18)) 64 (nI at17)) (updA (updA X6 2 K) 2 K)) _ := mW_to (F := F) (l1 := [(15, (nI fa18)), (16, pl19), (27, (nI (nd + 1))), (31, (nI wr)), (64, (nI at17)), (65, (nI ne)), (66, (nI lk))]) (l2 := [(15, (nI fa18)), (16, pl19), (27, (nI (nd + 1))), (31, (nI wr)), (64, (nI at17)), (65, (nI ne)), (66, (nI lk)), (15, (nI fa18)), (64, (nI at17))]) (V := [(nI fa18), pl19, (nI (nd + 1)), (nI wr), (nI at17), (nI ne), (nI lk), (nI fa18), pl19, (nI (nd + 1)), (nI wr), (nI at17), (nI ne), (nI lk), (nI fa18), (nI at17)]) rfl rfl (show (updA X6 2 K) = (updA (updA X6 2 K) 2 K) from updsA_eq2 (F := X6) (l1 := [(2, K)]) (l2 := [(2, K), (2, K)]) (V := [K, K, K]) rfl rfl) hP
    have hD : va_D A (mW G h0 a (upd (upd (upd (upd (upd (upd (upd (upd (upd F 15 (nI fa18)) 16 pl19) 27 (nI (nd + 1))) 31 (nI wr)) 64 (nI at17)) 65 (nI ne)) 66 (nI lk)) 15 (nI fa18)) 64 (nI at17)) (updA (updA X6 2 K) 2 K)) := mW_D hD
    refine pc_V0 (G := G) (As := [.int 59]) (rest := []) hx hb hml hown hq hE hX pX0_al hP hD hS hA hl.1 (R_take l G h0 a (upd (upd (upd (upd (upd (upd (upd F 15 (nI fa18)) 16 pl19) 27 (nI (nd + 1))) 31 (nI wr)) 64 (nI at17)) 65 (nI ne)) 66 (nI lk)) (updA X6 2 K) at17 T fa18 K 59 (by omega) (by omega) hK (by omega) (by decide) (by decide)) (gV pw_1614 pw_1615 pw_1616 pw_1523 pw_1601) hV_X12_take 0 9 rfl rfl rfl rfl (Nat.le_of_ble_eq_true rfl) dX12_loop_142 ⟨Nat.le_of_ble_eq_true rfl, Nat.le_of_ble_eq_true rfl⟩ ⟨(by show 4 + 1 ≤ (26 * n + 43); omega), (by show 8 + (2 + 11) + 103 ≤ (2000 * n + 4300); omega)⟩ (fun v1181 u1179 H locs hw1180 hP hD hS => ?_)
    obtain ⟨at1182, fa1183, pl1184⟩ := u1179
    obtain ⟨hw1180, h1185, h1186, h1187, h1188, h1189, h1190, h1191, h1192⟩ := hw1180
    have h1185 : at17 ≤ at1182 := h1185
    have h1186 : at1182 ≤ T := h1186
    have h1187 : fa18 ≤ fa1183 := h1187
    have h1188 : fa1183 ≤ 100 := h1188
    have h1189 : If (0 < fa18) (at1182 = at17 ∧ fa1183 = fa18) := h1189
    have h1190 : at1182 ≤ at17 + 1 := h1190
    have h1191 : at17 + 1 ≤ at1182 + fa1183 := h1191
    have h1192 : If (fa1183 = 0) (K at17 = 59) := h1192
    obtain rfl : v1181 = none := hw1180
    have hP : va_P G.1 pCl (mW G h0 a (upd (upd (upd (upd (upd (upd (upd F 15 (nI fa1183)) 16 pl1184) 27 (nI (nd + 1))) 31 (nI wr)) 64 (nI at1182)) 65 (nI ne)) 66 (nI lk)) (updA X6 2 K)) _ := mW_to (F := F) (l1 := [(15, (nI fa18)), (16, pl19), (27, (nI (nd + 1))), (31, (nI wr)), (64, (nI at17)), (65, (nI ne)), (66, (nI lk)), (15, (nI fa1183)), (16, pl1184), (64, (nI at1182))]) (l2 := [(15, (nI fa1183)), (16, pl1184), (27, (nI (nd + 1))), (31, (nI wr)), (64, (nI at1182)), (65, (nI ne)), (66, (nI lk))]) (V := [(nI fa1183), pl1184, (nI (nd + 1)), (nI wr), (nI at1182), (nI ne), (nI lk), (nI fa1183), pl1184, (nI at1182), (nI fa1183), pl1184, (nI (nd + 1)), (nI wr), (nI at1182), (nI ne), (nI lk)]) rfl rfl (show (updA (updA X6 2 K) 2 K) = (updA X6 2 K) from updsA_eq2 (F := X6) (l1 := [(2, K), (2, K)]) (l2 := [(2, K)]) (V := [K, K, K]) rfl rfl) hP
    have hD : va_D A (mW G h0 a (upd (upd (upd (upd (upd (upd (upd F 15 (nI fa1183)) 16 pl1184) 27 (nI (nd + 1))) 31 (nI wr)) 64 (nI at1182)) 65 (nI ne)) 66 (nI lk)) (updA X6 2 K)) := mW_D hD
    refine W.widen (k := 0) (n := 0) (Nat.le_of_ble_eq_true rfl) (Nat.le_of_ble_eq_true rfl) ?_
    refine W.eq (g2 := F0 m 145 ls []) rfl ?_
    obtain ⟨n1194, n1193⟩ := h1189 e28
    replace n1194 := n1194.symm
    subst n1194
    replace n1193 := n1193.symm
    subst n1193
    refine lv_aload_n hx hb dX12_loop_145 rfl (lv_at hl 1 rfl) ?_
    refine r_get (v := .int (nI fa18)) hx hb hown hq hE hP 15 350 tFX12_15 (by decide) pw_1594 rfl dX12_loop_146 ?_
    refine lv_if_ne (tgt := 171) hx hb dX12_loop_149 (by decide) (fun c1195 => ?_) (fun c1195 => (by have n1196 : fa18 = 0 := (nI_eq (a := fa18) (b := 0) (by omega) (by omega)).mp c1195; omega))
    refine lv_aload_n hx hb dX12_loop_171 rfl (lv_at hl 1 rfl) ?_
    refine lv_bipush (v := 59) hx hb dX12_loop_172 (by decide) ?_
    have hP : va_P G.1 pCl (mW G h0 a (upd (upd (upd (upd (upd (upd (upd (upd (upd F 15 (nI fa18)) 16 pl1184) 27 (nI (nd + 1))) 31 (nI wr)) 64 (nI at17)) 65 (nI ne)) 66 (nI lk)) 15 (nI fa18)) 64 (nI at17)) (updA (updA X6 2 K) 2 K)) _ := hP
    have hD : va_D A (mW G h0 a (upd (upd (upd (upd (upd (upd (upd (upd (upd F 15 (nI fa18)) 16 pl1184) 27 (nI (nd + 1))) 31 (nI wr)) 64 (nI at17)) 65 (nI ne)) 66 (nI lk)) 15 (nI fa18)) 64 (nI at17)) (updA (updA X6 2 K) 2 K)) := mW_D hD
    refine pc_V0 (G := G) (As := [.int 59]) (rest := []) hx hb hml hown hq hE hX pX0_al hP hD hS hA hl.1 (R_take l G h0 a (upd (upd (upd (upd (upd (upd (upd F 15 (nI fa18)) 16 pl1184) 27 (nI (nd + 1))) 31 (nI wr)) 64 (nI at17)) 65 (nI ne)) 66 (nI lk)) (updA X6 2 K) at17 T fa18 K 59 (by omega) (by omega) hK (by omega) (by decide) (by decide)) (gV pw_1614 pw_1615 pw_1616 pw_1523 pw_1601) hV_X12_take 0 9 rfl rfl rfl rfl (Nat.le_of_ble_eq_true rfl) dX12_loop_174 ⟨Nat.le_of_ble_eq_true rfl, Nat.le_of_ble_eq_true rfl⟩ ⟨(by show 4 + 1 ≤ (26 * n + 43); omega), (by show 8 + (2 + 11) + 103 ≤ (2000 * n + 4300); omega)⟩ (fun v1199 u1197 H locs hw1198 hP hD hS => ?_)
    obtain ⟨at1200, fa1201, pl1202⟩ := u1197
    obtain ⟨hw1198, h1203, h1204, h1205, h1206, h1207, h1208, h1209, h1210⟩ := hw1198
    have h1203 : at17 ≤ at1200 := h1203
    have h1204 : at1200 ≤ T := h1204
    have h1205 : fa18 ≤ fa1201 := h1205
    have h1206 : fa1201 ≤ 100 := h1206
    have h1207 : If (0 < fa18) (at1200 = at17 ∧ fa1201 = fa18) := h1207
    have h1208 : at1200 ≤ at17 + 1 := h1208
    have h1209 : at17 + 1 ≤ at1200 + fa1201 := h1209
    have h1210 : If (fa1201 = 0) (K at17 = 59) := h1210
    obtain rfl : v1199 = none := hw1198
    have hP : va_P G.1 pCl (mW G h0 a (upd (upd (upd (upd (upd (upd (upd F 15 (nI fa1201)) 16 pl1202) 27 (nI (nd + 1))) 31 (nI wr)) 64 (nI at1200)) 65 (nI ne)) 66 (nI lk)) (updA X6 2 K)) _ := mW_to (F := F) (l1 := [(15, (nI fa18)), (16, pl1184), (27, (nI (nd + 1))), (31, (nI wr)), (64, (nI at17)), (65, (nI ne)), (66, (nI lk)), (15, (nI fa1201)), (16, pl1202), (64, (nI at1200))]) (l2 := [(15, (nI fa1201)), (16, pl1202), (27, (nI (nd + 1))), (31, (nI wr)), (64, (nI at1200)), (65, (nI ne)), (66, (nI lk))]) (V := [(nI fa1201), pl1202, (nI (nd + 1)), (nI wr), (nI at1200), (nI ne), (nI lk), (nI fa1201), pl1202, (nI at1200), (nI fa1201), pl1202, (nI (nd + 1)), (nI wr), (nI at1200), (nI ne), (nI lk)]) rfl rfl (show (updA (updA X6 2 K) 2 K) = (updA X6 2 K) from updsA_eq2 (F := X6) (l1 := [(2, K), (2, K)]) (l2 := [(2, K)]) (V := [K, K, K]) rfl rfl) hP
    have hD : va_D A (mW G h0 a (upd (upd (upd (upd (upd (upd (upd F 15 (nI fa1201)) 16 pl1202) 27 (nI (nd + 1))) 31 (nI wr)) 64 (nI at1200)) 65 (nI ne)) 66 (nI lk)) (updA X6 2 K)) := mW_D hD
    refine W.widen (k := 0) (n := 0) (Nat.le_of_ble_eq_true rfl) (Nat.le_of_ble_eq_true rfl) ?_
    refine W.eq (g2 := F0 m 177 ls []) rfl ?_
    obtain ⟨n1212, n1211⟩ := h1207 e28
    replace n1212 := n1212.symm
    subst n1212
    replace n1211 := n1211.symm
    subst n1211
    refine lv_aload_n hx hb dX12_loop_177 rfl (lv_at hl 1 rfl) ?_
    refine r_get (v := .int (nI fa18)) hx hb hown hq hE hP 15 350 tFX12_15 (by decide) pw_1594 rfl dX12_loop_178 ?_
    refine lv_if_ne (tgt := 219) hx hb dX12_loop_181 (by decide) (fun c1213 => ?_) (fun c1213 => (by have n1214 : fa18 = 0 := (nI_eq (a := fa18) (b := 0) (by omega) (by omega)).mp c1213; omega))
    refine lv_aload_n hx hb dX12_loop_219 rfl (lv_at hl 1 rfl) ?_
    refine lv_bipush (v := 41) hx hb dX12_loop_220 (by decide) ?_
    have hP : va_P G.1 pCl (mW G h0 a (upd (upd (upd (upd (upd (upd (upd (upd (upd F 15 (nI fa18)) 16 pl1202) 27 (nI (nd + 1))) 31 (nI wr)) 64 (nI at17)) 65 (nI ne)) 66 (nI lk)) 15 (nI fa18)) 64 (nI at17)) (updA (updA X6 2 K) 2 K)) _ := hP
    have hD : va_D A (mW G h0 a (upd (upd (upd (upd (upd (upd (upd (upd (upd F 15 (nI fa18)) 16 pl1202) 27 (nI (nd + 1))) 31 (nI wr)) 64 (nI at17)) 65 (nI ne)) 66 (nI lk)) 15 (nI fa18)) 64 (nI at17)) (updA (updA X6 2 K) 2 K)) := mW_D hD
    refine pc_V0 (G := G) (As := [.int 41]) (rest := []) hx hb hml hown hq hE hX pX0_al hP hD hS hA hl.1 (R_take l G h0 a (upd (upd (upd (upd (upd (upd (upd F 15 (nI fa18)) 16 pl1202) 27 (nI (nd + 1))) 31 (nI wr)) 64 (nI at17)) 65 (nI ne)) 66 (nI lk)) (updA X6 2 K) at17 T fa18 K 41 (by omega) (by omega) hK (by omega) (by decide) (by decide)) (gV pw_1614 pw_1615 pw_1616 pw_1523 pw_1601) hV_X12_take 0 9 rfl rfl rfl rfl (Nat.le_of_ble_eq_true rfl) dX12_loop_222 ⟨Nat.le_of_ble_eq_true rfl, Nat.le_of_ble_eq_true rfl⟩ ⟨(by show 4 + 1 ≤ (26 * n + 43); omega), (by show 8 + (2 + 11) + 103 ≤ (2000 * n + 4300); omega)⟩ (fun v1217 u1215 H locs hw1216 hP hD hS => ?_)
    obtain ⟨at1218, fa1219, pl1220⟩ := u1215
    obtain ⟨hw1216, h1221, h1222, h1223, h1224, h1225, h1226, h1227, h1228⟩ := hw1216
    have h1221 : at17 ≤ at1218 := h1221
    have h1222 : at1218 ≤ T := h1222
    have h1223 : fa18 ≤ fa1219 := h1223
    have h1224 : fa1219 ≤ 100 := h1224
    have h1225 : If (0 < fa18) (at1218 = at17 ∧ fa1219 = fa18) := h1225
    have h1226 : at1218 ≤ at17 + 1 := h1226
    have h1227 : at17 + 1 ≤ at1218 + fa1219 := h1227
    have h1228 : If (fa1219 = 0) (K at17 = 41) := h1228
    obtain rfl : v1217 = none := hw1216
    have hP : va_P G.1 pCl (mW G h0 a (upd (upd (upd (upd (upd (upd (upd F 15 (nI fa1219)) 16 pl1220) 27 (nI (nd + 1))) 31 (nI wr)) 64 (nI at1218)) 65 (nI ne)) 66 (nI lk)) (updA X6 2 K)) _ := mW_to (F := F) (l1 := [(15, (nI fa18)), (16, pl1202), (27, (nI (nd + 1))), (31, (nI wr)), (64, (nI at17)), (65, (nI ne)), (66, (nI lk)), (15, (nI fa1219)), (16, pl1220), (64, (nI at1218))]) (l2 := [(15, (nI fa1219)), (16, pl1220), (27, (nI (nd + 1))), (31, (nI wr)), (64, (nI at1218)), (65, (nI ne)), (66, (nI lk))]) (V := [(nI fa1219), pl1220, (nI (nd + 1)), (nI wr), (nI at1218), (nI ne), (nI lk), (nI fa1219), pl1220, (nI at1218), (nI fa1219), pl1220, (nI (nd + 1)), (nI wr), (nI at1218), (nI ne), (nI lk)]) rfl rfl (show (updA (updA X6 2 K) 2 K) = (updA X6 2 K) from updsA_eq2 (F := X6) (l1 := [(2, K), (2, K)]) (l2 := [(2, K)]) (V := [K, K, K]) rfl rfl) hP
    have hD : va_D A (mW G h0 a (upd (upd (upd (upd (upd (upd (upd F 15 (nI fa1219)) 16 pl1220) 27 (nI (nd + 1))) 31 (nI wr)) 64 (nI at1218)) 65 (nI ne)) 66 (nI lk)) (updA X6 2 K)) := mW_D hD
    refine W.widen (k := 0) (n := 0) (Nat.le_of_ble_eq_true rfl) (Nat.le_of_ble_eq_true rfl) ?_
    refine W.eq (g2 := F0 m 225 ls []) rfl ?_
    obtain ⟨n1230, n1229⟩ := h1225 e28
    replace n1230 := n1230.symm
    subst n1230
    replace n1229 := n1229.symm
    subst n1229
    refine lv_aload_n hx hb dX12_loop_225 rfl (lv_at hl 1 rfl) ?_
    refine r_get (v := .ref (a 15)) hx hb hown hq hE hP 23 56 tFX12_23 (by decide) pw_1445 rfl dX12_loop_226 ?_
    refine lv_iload_n hx hb dX12_loop_229 rfl (lv_at hl 0 rfl) ?_
    refine lv_aload_n hx hb dX12_loop_230 rfl (lv_at hl 1 rfl) ?_
    have hP : va_P G.1 pCl (mW G h0 a (upd (upd (upd (upd (upd (upd (upd (upd (upd F 15 (nI fa18)) 16 pl1220) 27 (nI (nd + 1))) 31 (nI wr)) 64 (nI at17)) 65 (nI ne)) 66 (nI lk)) 15 (nI fa18)) 64 (nI at17)) (updA (updA X6 2 K) 2 K)) _ := hP
    have hD : va_D A (mW G h0 a (upd (upd (upd (upd (upd (upd (upd (upd (upd F 15 (nI fa18)) 16 pl1220) 27 (nI (nd + 1))) 31 (nI wr)) 64 (nI at17)) 65 (nI ne)) 66 (nI lk)) 15 (nI fa18)) 64 (nI at17)) (updA (updA X6 2 K) 2 K)) := mW_D hD
    refine pc_V0 (G := G) (As := []) (rest := [.int (nI nd), .ref (a 15)]) hx hb hml hown hq hE hX pX0_al hP hD hS hA hl.1 (RF_statement l G h0 a (upd (upd (upd (upd (upd (upd (upd F 15 (nI fa18)) 16 pl1220) 27 (nI (nd + 1))) 31 (nI wr)) 64 (nI at17)) 65 (nI ne)) 66 (nI lk)) (updA X6 2 K) at17 T fa18 K (by omega) (by omega) hK (by omega) e28) (gV pw_1699 pw_1700 pw_1701 pw_1523 pw_1706) hV_X12_statement 0 9 rfl rfl rfl rfl (Nat.le_of_ble_eq_true rfl) dX12_loop_231 ⟨Nat.le_of_ble_eq_true rfl, Nat.le_of_ble_eq_true rfl⟩ ⟨(by show 2 + 1 ≤ (26 * n + 43); omega), (by show 8 + (3 + 11) + 60 ≤ (2000 * n + 4300); omega)⟩ (fun v1233 u1231 H locs hw1232 hP hD hS => ?_)
    obtain rfl : v1233 = some (.int 0) := hw1232
    have hP : va_P G.1 pCl (mW G h0 a (upd (upd (upd (upd (upd (upd (upd F 15 (nI fa18)) 16 pl1220) 27 (nI (nd + 1))) 31 (nI wr)) 64 (nI at17)) 65 (nI ne)) 66 (nI lk)) (updA X6 2 K)) _ := mW_to (F := F) (l1 := [(15, (nI fa18)), (16, pl1220), (27, (nI (nd + 1))), (31, (nI wr)), (64, (nI at17)), (65, (nI ne)), (66, (nI lk)), (15, (nI fa18)), (64, (nI at17))]) (l2 := [(15, (nI fa18)), (16, pl1220), (27, (nI (nd + 1))), (31, (nI wr)), (64, (nI at17)), (65, (nI ne)), (66, (nI lk))]) (V := [(nI fa18), pl1220, (nI (nd + 1)), (nI wr), (nI at17), (nI ne), (nI lk), (nI fa18), (nI at17), (nI fa18), pl1220, (nI (nd + 1)), (nI wr), (nI at17), (nI ne), (nI lk)]) rfl rfl (show (updA (updA X6 2 K) 2 K) = (updA X6 2 K) from updsA_eq2 (F := X6) (l1 := [(2, K), (2, K)]) (l2 := [(2, K)]) (V := [K, K, K]) rfl rfl) hP
    have hD : va_D A (mW G h0 a (upd (upd (upd (upd (upd (upd (upd F 15 (nI fa18)) 16 pl1220) 27 (nI (nd + 1))) 31 (nI wr)) 64 (nI at17)) 65 (nI ne)) 66 (nI lk)) (updA X6 2 K)) := mW_D hD
    refine W.widen (k := 0) (n := 0) (Nat.le_of_ble_eq_true rfl) (Nat.le_of_ble_eq_true rfl) ?_
    refine W.eq (g2 := F0 m 234 ls [.int 0, .int (nI nd), .ref (a 15)]) rfl ?_
    refine r_sti (f := (X6 15)) (j := nd) hx hb hE hP hD hS 15 (ma_15 G a _) rfl (mas_15 G a _) (by omega) (by decide) dX12_loop_234 (fun H locs hP hD hS => ?_)
    have hP : va_P G.1 pCl (mW G h0 a (upd (upd (upd (upd (upd (upd (upd F 15 (nI fa18)) 16 pl1220) 27 (nI (nd + 1))) 31 (nI wr)) 64 (nI at17)) 65 (nI ne)) 66 (nI lk)) (updA (stR X6 15 nd 0) 2 K)) _ := mW_to (F := F) (l1 := [(15, (nI fa18)), (16, pl1220), (27, (nI (nd + 1))), (31, (nI wr)), (64, (nI at17)), (65, (nI ne)), (66, (nI lk))]) (l2 := [(15, (nI fa18)), (16, pl1220), (27, (nI (nd + 1))), (31, (nI wr)), (64, (nI at17)), (65, (nI ne)), (66, (nI lk))]) (V := [(nI fa18), pl1220, (nI (nd + 1)), (nI wr), (nI at17), (nI ne), (nI lk), (nI fa18), pl1220, (nI (nd + 1)), (nI wr), (nI at17), (nI ne), (nI lk)]) rfl rfl (show (updA (updA X6 2 K) 15 (upd (X6 15) nd 0)) = (updA (stR X6 15 nd 0) 2 K) from updsA_eq2 (F := X6) (l1 := [(2, K), (15, (upd (X6 15) nd 0))]) (l2 := [(15, (upd (X6 15) nd 0)), (2, K)]) (V := [K, (upd (X6 15) nd 0), (upd (X6 15) nd 0), K]) rfl rfl) hP
    have hD : va_D A (mW G h0 a (upd (upd (upd (upd (upd (upd (upd F 15 (nI fa18)) 16 pl1220) 27 (nI (nd + 1))) 31 (nI wr)) 64 (nI at17)) 65 (nI ne)) 66 (nI lk)) (updA (stR X6 15 nd 0) 2 K)) := mW_D hD
    have hkp1234 : Kp B (stR X6 15 nd 0) wr T := (Kp.row hkp8 (by omega))
    refine lv_iload_n hx hb dX12_loop_235 rfl (lv_at hl 0 rfl) ?_
    have hz1235 : at0 ≤ at17 := (by omega)
    have hz1236 : at17 ≤ T := (by omega)
    have hz1237 : fa18 ≤ 100 := (by omega)
    have hz1238 : nd ≤ (nd + 1) := (by omega)
    have hz1239 : (nd + 1) + 2 * at0 ≤ nd + 2 * at17 + 100000 * fa18 := (by omega)
    have hz1240 : (nd + 1) + 2 * at0 ≤ nd + 2 * at17 + (60 * (21 - ne) + 40) := (by omega)
    have hz1241 : wr ≤ wr := (by omega)
    have hz1242 : wr + at0 ≤ wr + at17 := (by omega)
    have hz1243 : lk ≤ lk := (by omega)
    have hz1244 : lk ≤ 60 + 100 * fa18 := (by omega)
    have hz1245 : at0 + 1 ≤ at17 + fa18 := (by omega)
    have hz1246 : nd ≤ (nd + 1) := (by omega)
    have hz1247 : Kp B (stR X6 15 nd 0) wr T := hkp1234
    have hz1248 : If (fa18 = 0) (Low B (stR X6 15 nd 0) nd wr ∧ Frs K T wr (stR X6 15 nd 0) nd (nd + 1) 20000 [(nd, (280 + 4 * (21 - ne)))] ∧ kcl 3 ((stR X6 15 nd 0) 9 nd) = true) := (fun e => absurd e (by omega))
    have hP : va_P G.1 pCl (mW G h0 a (upd (upd (upd (upd (upd (upd (upd F 15 (nI fa18)) 16 pl1220) 27 (nI (nd + 1))) 31 (nI wr)) 64 (nI at17)) 65 (nI ne)) 66 (nI lk)) (updA (stR X6 15 nd 0) 2 K)) _ := hP
    have hD : va_D A (mW G h0 a (upd (upd (upd (upd (upd (upd (upd F 15 (nI fa18)) 16 pl1220) 27 (nI (nd + 1))) 31 (nI wr)) 64 (nI at17)) 65 (nI ne)) 66 (nI lk)) (updA (stR X6 15 nd 0) 2 K)) := mW_D hD
    exact W.iret (v := (nI nd)) hx hb hr (fun t9 ht9 hW9 => ⟨⟨_, (at17, fa18, pl1220, (nd + 1), lk, wr, nd, (stR X6 15 nd 0)), rfl, ⟨rfl, hz1235, hz1236, hz1237, hz1238, hz1239, hz1240, hz1241, hz1242, hz1243, hz1244, hz1245, hz1246, hz1247, hz1248⟩, by rw [ht9]; exact hP, hD⟩, hS.F ht9⟩) hS.2.2 dX12_loop_236

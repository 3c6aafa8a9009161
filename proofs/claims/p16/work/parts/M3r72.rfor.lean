theorem dX12_lookFor_0 : decode cX12_lookFor 0 = .ok (.aload_n 0, 1) := by decide +kernel
theorem dX12_lookFor_1 : decode cX12_lookFor 1 = .ok (.getfield 537, 3) := by decide +kernel
theorem dX12_lookFor_4 : decode cX12_lookFor 4 = .ok (.istore_n 2, 1) := by decide +kernel
theorem dX12_lookFor_5 : decode cX12_lookFor 5 = .ok (.aload_n 0, 1) := by decide +kernel
theorem dX12_lookFor_6 : decode cX12_lookFor 6 = .ok (.getfield 65, 3) := by decide +kernel
theorem dX12_lookFor_9 : decode cX12_lookFor 9 = .ok (.iload_n 1, 1) := by decide +kernel
theorem dX12_lookFor_10 : decode cX12_lookFor 10 = .ok (.aload_n 0, 1) := by decide +kernel
theorem dX12_lookFor_11 : decode cX12_lookFor 11 = .ok (.getfield 537, 3) := by decide +kernel
theorem dX12_lookFor_14 : decode cX12_lookFor 14 = .ok (.iastore, 1) := by decide +kernel
theorem dX12_lookFor_15 : decode cX12_lookFor 15 = .ok (.aload_n 0, 1) := by decide +kernel
theorem dX12_lookFor_16 : decode cX12_lookFor 16 = .ok (.getfield 633, 3) := by decide +kernel
theorem dX12_lookFor_19 : decode cX12_lookFor 19 = .ok (.istore_n 3, 1) := by decide +kernel
theorem dX12_lookFor_20 : decode cX12_lookFor 20 = .ok (.aload_n 0, 1) := by decide +kernel
theorem dX12_lookFor_21 : decode cX12_lookFor 21 = .ok (.getfield 636, 3) := by decide +kernel
theorem dX12_lookFor_24 : decode cX12_lookFor 24 = .ok (.istore 4, 2) := by decide +kernel
theorem dX12_lookFor_46 : decode cX12_lookFor 46 = .ok (.iconst (-1), 1) := by decide +kernel
theorem dX12_lookFor_47 : decode cX12_lookFor 47 = .ok (.istore 5, 2) := by decide +kernel
theorem dX12_lookFor_90 : decode cX12_lookFor 90 = .ok (.aload_n 0, 1) := by decide +kernel
theorem dX12_lookFor_91 : decode cX12_lookFor 91 = .ok (.iconst (-1), 1) := by decide +kernel
theorem dX12_lookFor_92 : decode cX12_lookFor 92 = .ok (.putfield 633, 3) := by decide +kernel
theorem dX12_lookFor_95 : decode cX12_lookFor 95 = .ok (.aload_n 0, 1) := by decide +kernel
theorem dX12_lookFor_96 : decode cX12_lookFor 96 = .ok (.iconst (-1), 1) := by decide +kernel
theorem dX12_lookFor_97 : decode cX12_lookFor 97 = .ok (.putfield 636, 3) := by decide +kernel
theorem dX12_lookFor_100 : decode cX12_lookFor 100 = .ok (.aload_n 0, 1) := by decide +kernel
theorem dX12_lookFor_101 : decode cX12_lookFor 101 = .ok (.dup, 1) := by decide +kernel
theorem dX12_lookFor_102 : decode cX12_lookFor 102 = .ok (.getfield 630, 3) := by decide +kernel
theorem dX12_lookFor_105 : decode cX12_lookFor 105 = .ok (.iconst 1, 1) := by decide +kernel
theorem dX12_lookFor_106 : decode cX12_lookFor 106 = .ok (.iadd, 1) := by decide +kernel
theorem dX12_lookFor_107 : decode cX12_lookFor 107 = .ok (.putfield 630, 3) := by decide +kernel
theorem dX12_lookFor_110 : decode cX12_lookFor 110 = .ok (.aload_n 0, 1) := by decide +kernel
theorem dX12_lookFor_111 : decode cX12_lookFor 111 = .ok (.getfield 350, 3) := by decide +kernel
theorem dX12_lookFor_114 : decode cX12_lookFor 114 = .ok (.ifCond .ne 13, 3) := by decide +kernel
theorem dX12_lookFor_127 : decode cX12_lookFor 127 = .ok (.aload_n 0, 1) := by decide +kernel
theorem dX12_lookFor_128 : decode cX12_lookFor 128 = .ok (.dup, 1) := by decide +kernel
theorem dX12_lookFor_129 : decode cX12_lookFor 129 = .ok (.getfield 630, 3) := by decide +kernel
theorem dX12_lookFor_132 : decode cX12_lookFor 132 = .ok (.iconst 1, 1) := by decide +kernel
theorem dX12_lookFor_133 : decode cX12_lookFor 133 = .ok (.isub, 1) := by decide +kernel
theorem dX12_lookFor_134 : decode cX12_lookFor 134 = .ok (.putfield 630, 3) := by decide +kernel
theorem dX12_lookFor_137 : decode cX12_lookFor 137 = .ok (.aload_n 0, 1) := by decide +kernel
theorem dX12_lookFor_138 : decode cX12_lookFor 138 = .ok (.dup, 1) := by decide +kernel
theorem dX12_lookFor_139 : decode cX12_lookFor 139 = .ok (.getfield 544, 3) := by decide +kernel
theorem dX12_lookFor_142 : decode cX12_lookFor 142 = .ok (.aload_n 0, 1) := by decide +kernel
theorem dX12_lookFor_143 : decode cX12_lookFor 143 = .ok (.getfield 636, 3) := by decide +kernel
theorem dX12_lookFor_146 : decode cX12_lookFor 146 = .ok (.iand, 1) := by decide +kernel
theorem dX12_lookFor_147 : decode cX12_lookFor 147 = .ok (.putfield 544, 3) := by decide +kernel
theorem dX12_lookFor_150 : decode cX12_lookFor 150 = .ok (.aload_n 0, 1) := by decide +kernel
theorem dX12_lookFor_151 : decode cX12_lookFor 151 = .ok (.getfield 53, 3) := by decide +kernel
theorem dX12_lookFor_154 : decode cX12_lookFor 154 = .ok (.iload_n 1, 1) := by decide +kernel
theorem dX12_lookFor_155 : decode cX12_lookFor 155 = .ok (.iaload, 1) := by decide +kernel
theorem dX12_lookFor_156 : decode cX12_lookFor 156 = .ok (.iconst (-1), 1) := by decide +kernel
theorem dX12_lookFor_157 : decode cX12_lookFor 157 = .ok (.if_icmp .eq 20, 3) := by decide +kernel
theorem dX12_lookFor_177 : decode cX12_lookFor 177 = .ok (.aload_n 0, 1) := by decide +kernel
theorem dX12_lookFor_178 : decode cX12_lookFor 178 = .ok (.iload 5, 2) := by decide +kernel
theorem dX12_lookFor_180 : decode cX12_lookFor 180 = .ok (.aload_n 0, 1) := by decide +kernel
theorem dX12_lookFor_181 : decode cX12_lookFor 181 = .ok (.getfield 633, 3) := by decide +kernel
theorem dX12_lookFor_184 : decode cX12_lookFor 184 = .ok (.iand, 1) := by decide +kernel
theorem dX12_lookFor_185 : decode cX12_lookFor 185 = .ok (.putfield 544, 3) := by decide +kernel
theorem dX12_lookFor_188 : decode cX12_lookFor 188 = .ok (.aload_n 0, 1) := by decide +kernel
theorem dX12_lookFor_189 : decode cX12_lookFor 189 = .ok (.iload_n 3, 1) := by decide +kernel
theorem dX12_lookFor_190 : decode cX12_lookFor 190 = .ok (.putfield 633, 3) := by decide +kernel
theorem dX12_lookFor_193 : decode cX12_lookFor 193 = .ok (.aload_n 0, 1) := by decide +kernel
theorem dX12_lookFor_194 : decode cX12_lookFor 194 = .ok (.iload 4, 2) := by decide +kernel
theorem dX12_lookFor_196 : decode cX12_lookFor 196 = .ok (.putfield 636, 3) := by decide +kernel
theorem dX12_lookFor_199 : decode cX12_lookFor 199 = .ok (.aload_n 0, 1) := by decide +kernel
theorem dX12_lookFor_200 : decode cX12_lookFor 200 = .ok (.iload_n 2, 1) := by decide +kernel
theorem dX12_lookFor_201 : decode cX12_lookFor 201 = .ok (.putfield 537, 3) := by decide +kernel
theorem dX12_lookFor_204 : decode cX12_lookFor 204 = .ok (.return_, 1) := by decide +kernel
theorem dX12_lookFor_160 : decode cX12_lookFor 160 = .ok (.aload_n 0, 1) := by decide +kernel
theorem dX12_lookFor_161 : decode cX12_lookFor 161 = .ok (.getfield 350, 3) := by decide +kernel
theorem dX12_lookFor_164 : decode cX12_lookFor 164 = .ok (.ifCond .ne 13, 3) := by decide +kernel
theorem dX12_lookFor_117 : decode cX12_lookFor 117 = .ok (.aload_n 0, 1) := by decide +kernel
theorem dX12_lookFor_118 : decode cX12_lookFor 118 = .ok (.aload_n 0, 1) := by decide +kernel
theorem dX12_lookFor_119 : decode cX12_lookFor 119 = .ok (.getfield 56, 3) := by decide +kernel
theorem dX12_lookFor_122 : decode cX12_lookFor 122 = .ok (.iload_n 1, 1) := by decide +kernel
theorem dX12_lookFor_123 : decode cX12_lookFor 123 = .ok (.iaload, 1) := by decide +kernel
theorem dX12_lookFor_124 : decode cX12_lookFor 124 = .ok (.invokevirtual 606, 3) := by decide +kernel
theorem dX12_lookFor_167 : decode cX12_lookFor 167 = .ok (.aload_n 0, 1) := by decide +kernel
theorem dX12_lookFor_168 : decode cX12_lookFor 168 = .ok (.aload_n 0, 1) := by decide +kernel
theorem dX12_lookFor_169 : decode cX12_lookFor 169 = .ok (.getfield 53, 3) := by decide +kernel
theorem dX12_lookFor_172 : decode cX12_lookFor 172 = .ok (.iload_n 1, 1) := by decide +kernel
theorem dX12_lookFor_173 : decode cX12_lookFor 173 = .ok (.iaload, 1) := by decide +kernel
theorem dX12_lookFor_174 : decode cX12_lookFor 174 = .ok (.invokevirtual 606, 3) := by decide +kernel
theorem dX12_lookFor_49 : decode cX12_lookFor 49 = .ok (.aload_n 0, 1) := by decide +kernel
theorem dX12_lookFor_50 : decode cX12_lookFor 50 = .ok (.getfield 50, 3) := by decide +kernel
theorem dX12_lookFor_53 : decode cX12_lookFor 53 = .ok (.iload_n 1, 1) := by decide +kernel
theorem dX12_lookFor_54 : decode cX12_lookFor 54 = .ok (.iaload, 1) := by decide +kernel
theorem dX12_lookFor_55 : decode cX12_lookFor 55 = .ok (.iconst (-1), 1) := by decide +kernel
theorem dX12_lookFor_56 : decode cX12_lookFor 56 = .ok (.if_icmp .eq 34, 3) := by decide +kernel
theorem dX12_lookFor_59 : decode cX12_lookFor 59 = .ok (.aload_n 0, 1) := by decide +kernel
theorem dX12_lookFor_60 : decode cX12_lookFor 60 = .ok (.getfield 350, 3) := by decide +kernel
theorem dX12_lookFor_63 : decode cX12_lookFor 63 = .ok (.ifCond .ne 27, 3) := by decide +kernel
theorem dX12_lookFor_66 : decode cX12_lookFor 66 = .ok (.aload_n 0, 1) := by decide +kernel
theorem dX12_lookFor_67 : decode cX12_lookFor 67 = .ok (.aload_n 0, 1) := by decide +kernel
theorem dX12_lookFor_68 : decode cX12_lookFor 68 = .ok (.getfield 50, 3) := by decide +kernel
theorem dX12_lookFor_71 : decode cX12_lookFor 71 = .ok (.iload_n 1, 1) := by decide +kernel
theorem dX12_lookFor_72 : decode cX12_lookFor 72 = .ok (.iaload, 1) := by decide +kernel
theorem dX12_lookFor_73 : decode cX12_lookFor 73 = .ok (.invokevirtual 618, 3) := by decide +kernel
theorem dX12_lookFor_76 : decode cX12_lookFor 76 = .ok (.aload_n 0, 1) := by decide +kernel
theorem dX12_lookFor_77 : decode cX12_lookFor 77 = .ok (.getfield 554, 3) := by decide +kernel
theorem dX12_lookFor_80 : decode cX12_lookFor 80 = .ok (.istore 5, 2) := by decide +kernel
theorem dX12_lookFor_82 : decode cX12_lookFor 82 = .ok (.aload_n 0, 1) := by decide +kernel
theorem dX12_lookFor_83 : decode cX12_lookFor 83 = .ok (.aload_n 0, 1) := by decide +kernel
theorem dX12_lookFor_84 : decode cX12_lookFor 84 = .ok (.getfield 551, 3) := by decide +kernel
theorem dX12_lookFor_87 : decode cX12_lookFor 87 = .ok (.putfield 544, 3) := by decide +kernel
theorem dX12_lookFor_26 : decode cX12_lookFor 26 = .ok (.aload_n 0, 1) := by decide +kernel
theorem dX12_lookFor_27 : decode cX12_lookFor 27 = .ok (.getfield 47, 3) := by decide +kernel
theorem dX12_lookFor_30 : decode cX12_lookFor 30 = .ok (.iload_n 1, 1) := by decide +kernel
theorem dX12_lookFor_31 : decode cX12_lookFor 31 = .ok (.iaload, 1) := by decide +kernel
theorem dX12_lookFor_32 : decode cX12_lookFor 32 = .ok (.iconst (-1), 1) := by decide +kernel
theorem dX12_lookFor_33 : decode cX12_lookFor 33 = .ok (.if_icmp .eq 13, 3) := by decide +kernel
theorem dX12_lookFor_36 : decode cX12_lookFor 36 = .ok (.aload_n 0, 1) := by decide +kernel
theorem dX12_lookFor_37 : decode cX12_lookFor 37 = .ok (.aload_n 0, 1) := by decide +kernel
theorem dX12_lookFor_38 : decode cX12_lookFor 38 = .ok (.getfield 47, 3) := by decide +kernel
theorem dX12_lookFor_41 : decode cX12_lookFor 41 = .ok (.iload_n 1, 1) := by decide +kernel
theorem dX12_lookFor_42 : decode cX12_lookFor 42 = .ok (.iaload, 1) := by decide +kernel
theorem dX12_lookFor_43 : decode cX12_lookFor 43 = .ok (.invokevirtual 606, 3) := by decide +kernel
set_option maxHeartbeats 16000000 in
set_option maxRecDepth 100000 in
/-- lookFor(n) -/
theorem L_lookFor (l : Launch) (G : pT) (h0 : Nat) (a : Nat → Nat) (F : Nat → Int32) (B : Nat → Nat → Int32) (n9 : Nat) (z9 : Nat) (fa : Nat) (sc : Nat) (il : Nat) (k9 : Nat) (rs : Nat) (nd : Nat) (T : Nat) (nm : Nat) (wr : Nat) (lz : Nat) (dc : Nat) (fd : Nat) (md : Nat) (pr : Nat) (bk : Nat) (gh : Nat → Nat → Nat) (dn : Int32) (wt : Int32) (wf : Int32) (ab : Int32) (ac : Int32) (nc : Nat → Int32) (ty : Nat → Int32) (mn : Nat → Int32) (vn : Nat → Int32) (vt : Nat → Int32) (ev : Nat → Int32) (hst : St B gh nd T nm wr lz dc fd md pr bk) (hnm : nd ≤ 12000 ∧ T ≤ 5000 ∧ wr ≤ 5000 ∧ 7 ≤ dc ∧ dc ≤ 37 ∧ fd ≤ 620 ∧ md ≤ 920 ∧ pr ≤ 5000) (hn9 : n9 < nd) (hz : gh 1 n9 < z9) (hfa : fa ≤ 15) (hsc : sc ≤ 30) (hk9 : 7 ≤ k9 ∧ k9 < dc) (hnc : ∀ i : Nat, i < nd → ¬ B 9 i = 44 → nc i = B 14 i) (hmn : mnN B nd mn) (hil : il + z9 ≤ 1000) (hrs : TyC dc rs) (hrs5 : rs ≤ 2050) (hmc : mnC B nd n9 mn) (hvt : ∀ i : Nat, i < sc → tyOK dc (vt i)) (hve : ∀ i : Nat, i < sc → vt i = ev i) (hkd : B 9 n9 = nI 36) (ihS : PlookStatement l G (z9 - 1)) : PM l G pX0 yX12_lookFor cX12_lookFor 6 none ({ frames := (4 * z9 + 13), cells := 0, slots := 0, locals := (160 * z9 + 1660) }) [.ref h0, .int (nI n9)] (mW G h0 a (upd (upd (upd (upd (upd (upd (upd (upd (upd (upd (upd (upd F 15 (nI fa)) 44 (nI fd)) 49 (nI md)) 73 (nI sc)) 74 (nI k9)) 75 (nI rs)) 76 (nI il)) 77 dn) 78 wt) 79 wf) 80 ab) 81 ac) (updA (updA (updA (updA (updA B 14 nc) 17 ty) 18 mn) 48 vn) 49 vt)) (fun (v : Option Value) (u : Nat × Nat × Int32 × Int32 × Int32 × Int32 × Int32 × Int32 × (Nat → Int32) × (Nat → Int32) × (Nat → Int32) × (Nat → Int32) × (Nat → Int32)) => v = none ∧ (fa ≤ u.1) ∧ (u.1 ≤ 15) ∧ (sc ≤ u.2.1) ∧ (u.2.1 ≤ 30) ∧ (ChS B nd n9 ty u.2.2.2.2.2.2.2.2.2.1 mn u.2.2.2.2.2.2.2.2.2.2.1 nc u.2.2.2.2.2.2.2.2.1) ∧ (mnN B nd u.2.2.2.2.2.2.2.2.2.2.1) ∧ (∀ i : Nat, i < nd → ¬ (B) 9 i = 44 → u.2.2.2.2.2.2.2.2.1 i = (B) 14 i) ∧ (∀ i : Nat, i < sc → u.2.2.2.2.2.2.2.2.2.2.2.2 i = vt i) ∧ (If (u.1 = 0) (TyS B dc fd md nd u.2.2.2.2.2.2.2.2.2.1 u.2.2.2.2.2.2.2.2.2.2.1 u.2.2.2.2.2.2.2.2.1 k9 rs n9 (sc, il, ev) ∧ u.2.1 = (aft B n9 (sc, il, ev)).1 ∧ ∀ i : Nat, i < u.2.1 → u.2.2.2.2.2.2.2.2.2.2.2.2 i = (aft B n9 (sc, il, ev)).2.2 i ∧ tyOK dc (u.2.2.2.2.2.2.2.2.2.2.2.2 i)))) (fun u => (mW G h0 a (upd (upd (upd (upd (upd (upd (upd (upd (upd (upd (upd (upd (upd F 15 (nI u.1)) 16 u.2.2.1) 44 (nI fd)) 49 (nI md)) 73 (nI u.2.1)) 74 (nI k9)) 75 (nI rs)) 76 (nI il)) 77 u.2.2.2.1) 78 u.2.2.2.2.1) 79 u.2.2.2.2.2.1) 80 u.2.2.2.2.2.2.1) 81 u.2.2.2.2.2.2.2.1) (updA (updA (updA (updA (updA B 14 u.2.2.2.2.2.2.2.2.1) 17 u.2.2.2.2.2.2.2.2.2.1) 18 u.2.2.2.2.2.2.2.2.2.2.1) 48 u.2.2.2.2.2.2.2.2.2.2.2.1) 49 u.2.2.2.2.2.2.2.2.2.2.2.2))) := by
  intro sz
  refine Met.ofW (cc := cX12_lookFor) (maxL := 6) (ret := none) (by decide) rfl ?_
  intro p e s m args below meth c s₁ B9 hml hv
  obtain ⟨rfl, hsz, hP, hD0, hE, hX⟩ := hv
  have hx := B9.exec
  have hb := B9.bytes
  have hr := B9.returns
  have hts := atoms_spec (ws := Cond.code yX12_lookFor cX12_lookFor 6 none :: pw) B9.pre
  have hq : ∀ w ∈ pw, w.before _ s = true := fun w h => hts w (List.mem_cons_of_mem _ h)
  have hown : s.vm.findClass RX12 = some m.cls := findClass_of_methodNamed B9.named
  have hlocks := B9.notSynchronized
  subst hsz
  have hD := hD0.self (sz := s.heap.size)
  have hA : ∀ q : Nat, s.heap.size ≤ q → va_A (mW G h0 a (upd (upd (upd (upd (upd (upd (upd (upd (upd (upd (upd (upd F 15 (nI fa)) 44 (nI fd)) 49 (nI md)) 73 (nI sc)) 74 (nI k9)) 75 (nI rs)) 76 (nI il)) 77 dn) 78 wt) 79 wf) 80 ab) 81 ac) (updA (updA (updA (updA (updA B 14 nc) 17 ty) 18 mn) 48 vn) 49 vt)) s.heap.size q := fun q h => Or.inr h
  have hP : va_P G.1 pCl (mW G h0 a (upd (upd (upd (upd (upd (upd (upd (upd (upd (upd (upd (upd F 15 (nI fa)) 44 (nI fd)) 49 (nI md)) 73 (nI sc)) 74 (nI k9)) 75 (nI rs)) 76 (nI il)) 77 dn) 78 wt) 79 wf) 80 ab) 81 ac) (updA (updA (updA (updA (updA B 14 nc) 17 ty) 18 mn) 48 vn) 49 vt)) s.heap := hP
  generalize va_A (mW G h0 a (upd (upd (upd (upd (upd (upd (upd (upd (upd (upd (upd (upd F 15 (nI fa)) 44 (nI fd)) 49 (nI md)) 73 (nI sc)) 74 (nI k9)) 75 (nI rs)) 76 (nI il)) 77 dn) 78 wt) 79 wf) 80 ab) 81 ac) (updA (updA (updA (updA (updA B 14 nc) 17 ty) 18 mn) 48 vn) 49 vt)) s.heap.size = A at hD hE hA ⊢
  have hS : va_S A s.heap s.heap [] := va_S.rf
  have hl := lv_entry ([.ref h0, .int (nI n9)]) (n := 6) (Nat.le_of_ble_eq_true rfl)
  rw [lg_entry_eq]
  generalize (lg_sl ([.ref h0, .int (nI n9)]) ++ List.replicate (6 - (lg_sl ([.ref h0, .int (nI n9)])).length) Slot.unset).toArray = ls at hl ⊢
  have hl : lv_has ls 6 [(0, .ref h0), (1, .int (nI n9))] := hl
  have hF := hst.1
  have hPS := hst.2.1
  have hBI := hst.2.2.1
  have hRK := hst.2.2.2.1
  have hTY := hst.2.2.2.2.1
  have hNW := hst.2.2.2.2.2.1
  have hTK := hst.2.2.2.2.2.2
  refine lv_aload_n hx hb dX12_lookFor_0 rfl (lv_at hl 0 rfl) ?_
  refine r_get (v := .int (nI sc)) hx hb hown hq hE hP 73 537 tFX12_73 (by decide) pw_1795 rfl dX12_lookFor_1 ?_
  refine lv_istore_n (lv' := [(2, .int (nI sc)), (0, .ref h0), (1, .int (nI n9))]) hx hb dX12_lookFor_4 rfl hl (by decide) rfl (fun ls hl => ?_)
  refine lv_aload_n hx hb dX12_lookFor_5 rfl (lv_at hl 1 rfl) ?_
  refine r_get (v := .ref (a 18)) hx hb hown hq hE hP 26 65 tFX12_26 (by decide) pw_1448 rfl dX12_lookFor_6 ?_
  refine lv_iload_n hx hb dX12_lookFor_9 rfl (lv_at hl 2 rfl) ?_
  refine lv_aload_n hx hb dX12_lookFor_10 rfl (lv_at hl 1 rfl) ?_
  refine r_get (v := .int (nI sc)) hx hb hown hq hE hP 73 537 tFX12_73 (by decide) pw_1795 rfl dX12_lookFor_11 ?_
  refine r_sti (f := mn) (j := n9) hx hb hE hP hD hS 18 (ma_18 G a _) rfl (mas_18 G a _) (by omega) (by decide) dX12_lookFor_14 (fun H locs hP hD hS => ?_)
  have hch1 : ChS B nd n9 ty ty mn (upd mn n9 (nI sc)) nc nc := (ChS.trans ChS.rfl (ChS.setM sub.rfl))
  have hmn2 : mnN B nd (upd mn n9 (nI sc)) := (mnN.up hmn (by rw [hkd]; decide))
  refine lv_aload_n hx hb dX12_lookFor_15 rfl (lv_at hl 1 rfl) ?_
  refine r_get (v := .int ab) hx hb hown hq hE hP 80 633 tFX12_80 (by decide) pw_1878 rfl dX12_lookFor_16 ?_
  refine lv_istore_n (lv' := [(3, .int ab), (2, .int (nI sc)), (0, .ref h0), (1, .int (nI n9))]) hx hb dX12_lookFor_19 rfl hl (by decide) rfl (fun ls hl => ?_)
  refine lv_aload_n hx hb dX12_lookFor_20 rfl (lv_at hl 2 rfl) ?_
  refine r_get (v := .int ac) hx hb hown hq hE hP 81 636 tFX12_81 (by decide) pw_1879 rfl dX12_lookFor_21 ?_
  refine lv_istore (lv' := [(4, .int ac), (3, .int ab), (2, .int (nI sc)), (0, .ref h0), (1, .int (nI n9))]) hx hb dX12_lookFor_24 hl (by decide) rfl (fun ls hl => ?_)
  have cut_f : ∀ (fa2 : Nat) (sc2 : Nat) (pl2 : Int32) (dn2 : Int32) (wt2 : Int32) (wf2 : Int32) (ab2 : Int32) (ac2 : Int32) (nc2 : Nat → Int32) (ty2 : Nat → Int32) (mn2 : Nat → Int32) (vn2 : Nat → Int32) (vt2 : Nat → Int32) (H : Heap) (locs : List Loc) (ls : Array Slot), (fa ≤ fa2) → (fa2 ≤ 15) → (sc ≤ sc2) → (sc2 ≤ 30) → (ChS B nd n9 ty ty2 mn mn2 nc nc2) → (mnN B nd mn2) → (∀ i : Nat, i < nd → ¬ B 9 i = 44 → nc2 i = B 14 i) → (∀ i : Nat, i < sc → vt2 i = vt i) → (mn2 n9 = nI sc) → (If (fa2 = 0) (slP B n9 (sc, il, ev) (fun c e9 => TyS B dc fd md nd ty2 mn2 nc2 k9 rs c e9) 36 1)) → (If (fa2 = 0) (sc2 = (forE B n9 (sc, il, ev)).1 ∧ ∀ i : Nat, i < sc2 → vt2 i = (forE B n9 (sc, il, ev)).2.2 i ∧ tyOK dc (vt2 i))) → (∀ c : Nat, c < nd → pch B n9 c → ¬ gh 0 c = 8 * n9 + 1 → mnC B nd c mn2) → va_P G.1 pCl (mW G h0 a (upd (upd (upd (upd (upd (upd (upd (upd (upd (upd (upd (upd (upd F 15 (nI fa2)) 16 pl2) 44 (nI fd)) 49 (nI md)) 73 (nI sc2)) 74 (nI k9)) 75 (nI rs)) 76 (nI il)) 77 dn2) 78 wt2) 79 wf2) 80 ab2) 81 ac2) (updA (updA (updA (updA (updA B 14 nc2) 17 ty2) 18 mn2) 48 vn2) 49 vt2)) H → va_D A (mW G h0 a (upd (upd (upd (upd (upd (upd (upd (upd (upd (upd (upd (upd (upd F 15 (nI fa2)) 16 pl2) 44 (nI fd)) 49 (nI md)) 73 (nI sc2)) 74 (nI k9)) 75 (nI rs)) 76 (nI il)) 77 dn2) 78 wt2) 79 wf2) 80 ab2) 81 ac2) (updA (updA (updA (updA (updA B 14 nc2) 17 ty2) 18 mn2) 48 vn2) 49 vt2)) → va_S A s.heap H locs → lv_has ls 6 [(4, .int ac), (3, .int ab), (2, .int (nI sc)), (1, .int (nI n9)), (0, .ref h0)] → W p l e (headSpec (Cond.code yX12_lookFor cX12_lookFor 6 none :: pw) ({ frames := (4 * z9 + 13), cells := 0, slots := 0, locals := (160 * z9 + 1660) } : Room)).room s m ([.ref h0, .int (nI n9)] : List Value).toArray below meth c H locs 0 0 (MQ below (pQ G A (fun (v : Option Value) (u : Nat × Nat × Int32 × Int32 × Int32 × Int32 × Int32 × Int32 × (Nat → Int32) × (Nat → Int32) × (Nat → Int32) × (Nat → Int32) × (Nat → Int32)) => v = none ∧ (fa ≤ u.1) ∧ (u.1 ≤ 15) ∧ (sc ≤ u.2.1) ∧ (u.2.1 ≤ 30) ∧ (ChS B nd n9 ty u.2.2.2.2.2.2.2.2.2.1 mn u.2.2.2.2.2.2.2.2.2.2.1 nc u.2.2.2.2.2.2.2.2.1) ∧ (mnN B nd u.2.2.2.2.2.2.2.2.2.2.1) ∧ (∀ i : Nat, i < nd → ¬ (B) 9 i = 44 → u.2.2.2.2.2.2.2.2.1 i = (B) 14 i) ∧ (∀ i : Nat, i < sc → u.2.2.2.2.2.2.2.2.2.2.2.2 i = vt i) ∧ (If (u.1 = 0) (TyS B dc fd md nd u.2.2.2.2.2.2.2.2.2.1 u.2.2.2.2.2.2.2.2.2.2.1 u.2.2.2.2.2.2.2.2.1 k9 rs n9 (sc, il, ev) ∧ u.2.1 = (aft B n9 (sc, il, ev)).1 ∧ ∀ i : Nat, i < u.2.1 → u.2.2.2.2.2.2.2.2.2.2.2.2 i = (aft B n9 (sc, il, ev)).2.2 i ∧ tyOK dc (u.2.2.2.2.2.2.2.2.2.2.2.2 i)))) (fun u => (mW G h0 a (upd (upd (upd (upd (upd (upd (upd (upd (upd (upd (upd (upd (upd F 15 (nI u.1)) 16 u.2.2.1) 44 (nI fd)) 49 (nI md)) 73 (nI u.2.1)) 74 (nI k9)) 75 (nI rs)) 76 (nI il)) 77 u.2.2.2.1) 78 u.2.2.2.2.1) 79 u.2.2.2.2.2.1) 80 u.2.2.2.2.2.2.1) 81 u.2.2.2.2.2.2.2.1) (updA (updA (updA (updA (updA B 14 u.2.2.2.2.2.2.2.2.1) 17 u.2.2.2.2.2.2.2.2.2.1) 18 u.2.2.2.2.2.2.2.2.2.2.1) 48 u.2.2.2.2.2.2.2.2.2.2.2.1) 49 u.2.2.2.2.2.2.2.2.2.2.2.2)))) ([.ref h0, .int (nI n9)] : List Value).toArray s ({ frames := (4 * z9 + 13), cells := 0, slots := 0, locals := (160 * z9 + 1660) } : Room).cells ({ frames := (4 * z9 + 13), cells := 0, slots := 0, locals := (160 * z9 + 1660) } : Room).slots A) (F0 m 46 ls []) := by
    intro fa2 sc2 pl2 dn2 wt2 wf2 ab2 ac2 nc2 ty2 mn2 vn2 vt2 H locs ls hl1 hl2 hl3 hl4 hch2 hmn2 hnc2 hq82 hown2 hs1 hsc2 hmc2 hP hD hS hl
    refine lv_iconst (v := (-1)) hx hb dX12_lookFor_46 (by decide) ?_
    refine lv_istore (lv' := [(5, .int (-1)), (4, .int ac), (3, .int ab), (2, .int (nI sc)), (1, .int (nI n9)), (0, .ref h0)]) hx hb dX12_lookFor_47 hl (by decide) rfl (fun ls hl => ?_)
    have cut_g : ∀ (fa3 : Nat) (pl3 : Int32) (dn3 : Int32) (wt3 : Int32) (wf3 : Int32) (no3 : Int32) (ty3 : Nat → Int32) (mn3 : Nat → Int32) (H : Heap) (locs : List Loc) (ls : Array Slot), (fa2 ≤ fa3) → (fa3 ≤ 15) → (ChS B nd n9 ty ty3 mn mn3 nc nc2) → (mnN B nd mn3) → (mn3 n9 = nI sc) → (If (fa3 = 0) (slP B n9 (sc, il, ev) (fun c e9 => TyS B dc fd md nd ty3 mn3 nc2 k9 rs c e9) 36 1)) → (If (fa3 = 0) (slP B n9 (sc, il, ev) (fun c e9 => TyS B dc fd md nd ty3 mn3 nc2 k9 rs c e9) 36 2)) → (If (fa3 = 0) (∀ c : Nat, c < 20000 → B 13 n9 = nI c → ty3 c = 2)) → (∀ c : Nat, c < nd → pch B n9 c → ¬ gh 0 c = 8 * n9 + 1 → ¬ gh 0 c = 8 * n9 + 2 → mnC B nd c mn3) → va_P G.1 pCl (mW G h0 a (upd (upd (upd (upd (upd (upd (upd (upd (upd (upd (upd (upd (upd F 15 (nI fa3)) 16 pl3) 44 (nI fd)) 49 (nI md)) 73 (nI sc2)) 74 (nI k9)) 75 (nI rs)) 76 (nI il)) 77 dn3) 78 wt3) 79 wf3) 80 ab2) 81 ac2) (updA (updA (updA (updA (updA B 14 nc2) 17 ty3) 18 mn3) 48 vn2) 49 vt2)) H → va_D A (mW G h0 a (upd (upd (upd (upd (upd (upd (upd (upd (upd (upd (upd (upd (upd F 15 (nI fa3)) 16 pl3) 44 (nI fd)) 49 (nI md)) 73 (nI sc2)) 74 (nI k9)) 75 (nI rs)) 76 (nI il)) 77 dn3) 78 wt3) 79 wf3) 80 ab2) 81 ac2) (updA (updA (updA (updA (updA B 14 nc2) 17 ty3) 18 mn3) 48 vn2) 49 vt2)) → va_S A s.heap H locs → lv_has ls 6 [(5, .int no3), (4, .int ac), (3, .int ab), (2, .int (nI sc)), (1, .int (nI n9)), (0, .ref h0)] → W p l e (headSpec (Cond.code yX12_lookFor cX12_lookFor 6 none :: pw) ({ frames := (4 * z9 + 13), cells := 0, slots := 0, locals := (160 * z9 + 1660) } : Room)).room s m ([.ref h0, .int (nI n9)] : List Value).toArray below meth c H locs 0 0 (MQ below (pQ G A (fun (v : Option Value) (u : Nat × Nat × Int32 × Int32 × Int32 × Int32 × Int32 × Int32 × (Nat → Int32) × (Nat → Int32) × (Nat → Int32) × (Nat → Int32) × (Nat → Int32)) => v = none ∧ (fa ≤ u.1) ∧ (u.1 ≤ 15) ∧ (sc ≤ u.2.1) ∧ (u.2.1 ≤ 30) ∧ (ChS B nd n9 ty u.2.2.2.2.2.2.2.2.2.1 mn u.2.2.2.2.2.2.2.2.2.2.1 nc u.2.2.2.2.2.2.2.2.1) ∧ (mnN B nd u.2.2.2.2.2.2.2.2.2.2.1) ∧ (∀ i : Nat, i < nd → ¬ (B) 9 i = 44 → u.2.2.2.2.2.2.2.2.1 i = (B) 14 i) ∧ (∀ i : Nat, i < sc → u.2.2.2.2.2.2.2.2.2.2.2.2 i = vt i) ∧ (If (u.1 = 0) (TyS B dc fd md nd u.2.2.2.2.2.2.2.2.2.1 u.2.2.2.2.2.2.2.2.2.2.1 u.2.2.2.2.2.2.2.2.1 k9 rs n9 (sc, il, ev) ∧ u.2.1 = (aft B n9 (sc, il, ev)).1 ∧ ∀ i : Nat, i < u.2.1 → u.2.2.2.2.2.2.2.2.2.2.2.2 i = (aft B n9 (sc, il, ev)).2.2 i ∧ tyOK dc (u.2.2.2.2.2.2.2.2.2.2.2.2 i)))) (fun u => (mW G h0 a (upd (upd (upd (upd (upd (upd (upd (upd (upd (upd (upd (upd (upd F 15 (nI u.1)) 16 u.2.2.1) 44 (nI fd)) 49 (nI md)) 73 (nI u.2.1)) 74 (nI k9)) 75 (nI rs)) 76 (nI il)) 77 u.2.2.2.1) 78 u.2.2.2.2.1) 79 u.2.2.2.2.2.1) 80 u.2.2.2.2.2.2.1) 81 u.2.2.2.2.2.2.2.1) (updA (updA (updA (updA (updA B 14 u.2.2.2.2.2.2.2.2.1) 17 u.2.2.2.2.2.2.2.2.2.1) 18 u.2.2.2.2.2.2.2.2.2.2.1) 48 u.2.2.2.2.2.2.2.2.2.2.2.1) 49 u.2.2.2.2.2.2.2.2.2.2.2.2)))) ([.ref h0, .int (nI n9)] : List Value).toArray s ({ frames := (4 * z9 + 13), cells := 0, slots := 0, locals := (160 * z9 + 1660) } : Room).cells ({ frames := (4 * z9 + 13), cells := 0, slots := 0, locals := (160 * z9 + 1660) } : Room).slots A) (F0 m 90 ls []) := by
      intro fa3 pl3 dn3 wt3 wf3 no3 ty3 mn3 H locs ls hm1 hm2 hch3 hmn3 hown3 hs13 hs23 hbt hmc3 hP hD hS hl
      refine lv_aload_n hx hb dX12_lookFor_90 rfl (lv_at hl 5 rfl) ?_
      refine lv_iconst (v := (-1)) hx hb dX12_lookFor_91 (by decide) ?_
      refine r_put (v := (-1)) (ty := .int) hx hb hown hq hE hP hD hS 80 633 tFX12_80 (by decide) pw_1878 (by decide) rfl rfl (ms_80 a _ _) dX12_lookFor_92 (fun H locs hP hD hS => ?_)
      refine lv_aload_n hx hb dX12_lookFor_95 rfl (lv_at hl 5 rfl) ?_
      refine lv_iconst (v := (-1)) hx hb dX12_lookFor_96 (by decide) ?_
      refine r_put (v := (-1)) (ty := .int) hx hb hown hq hE hP hD hS 81 636 tFX12_81 (by decide) pw_1879 (by decide) rfl rfl (ms_81 a _ _) dX12_lookFor_97 (fun H locs hP hD hS => ?_)
      refine lv_aload_n hx hb dX12_lookFor_100 rfl (lv_at hl 5 rfl) ?_
      refine lv_dup hx hb dX12_lookFor_101 rfl ?_
      refine r_get (v := .int (nI il)) hx hb hown hq hE hP 76 630 tFX12_76 (by decide) pw_1880 rfl dX12_lookFor_102 ?_
      refine lv_iconst (v := 1) hx hb dX12_lookFor_105 (by decide) ?_
      refine lv_iadd hx hb dX12_lookFor_106 ?_
      refine lv_topi (fun x3 e4 => ?_)
      obtain rfl : x3 = nI (il + 1) := e4.trans (nI_add (il) (1))
      refine r_put (v := (nI (il + 1))) (ty := .int) hx hb hown hq hE hP hD hS 76 630 tFX12_76 (by decide) pw_1880 (by decide) rfl rfl (ms_76 a _ _) dX12_lookFor_107 (fun H locs hP hD hS => ?_)
      refine lv_aload_n hx hb dX12_lookFor_110 rfl (lv_at hl 5 rfl) ?_
      refine r_get (v := .int (nI fa3)) hx hb hown hq hE hP 15 350 tFX12_15 (by decide) pw_1594 rfl dX12_lookFor_111 ?_
      refine lv_if_ne (tgt := 127) hx hb dX12_lookFor_114 (by decide) (fun c5 => ?_) (fun c5 => ?_)
      · have n6 : ¬ (fa3 = 0) := fun h9 => c5 ((nI_eq (a := fa3) (b := 0) (by omega) (by omega)).mpr h9)
        refine lv_aload_n hx hb dX12_lookFor_127 rfl (lv_at hl 5 rfl) ?_
        refine lv_dup hx hb dX12_lookFor_128 rfl ?_
        refine r_get (v := .int (nI (il + 1))) hx hb hown hq hE hP 76 630 tFX12_76 (by decide) pw_1880 rfl dX12_lookFor_129 ?_
        refine lv_iconst (v := 1) hx hb dX12_lookFor_132 (by decide) ?_
        refine lv_isub hx hb dX12_lookFor_133 ?_
        refine lv_topi (fun x7 e8 => ?_)
        obtain rfl : x7 = nI ((il + 1) - 1) := e8.trans (nI_subN (a := 1) (b := (il + 1)) (by omega))
        refine lv_topi (fun x9 e10 => ?_)
        obtain rfl : x9 = nI il := e10.trans (congrArg nI (by omega))
        refine r_put (v := (nI il)) (ty := .int) hx hb hown hq hE hP hD hS 76 630 tFX12_76 (by decide) pw_1880 (by decide) rfl rfl (ms_76 a _ _) dX12_lookFor_134 (fun H locs hP hD hS => ?_)
        refine lv_aload_n hx hb dX12_lookFor_137 rfl (lv_at hl 5 rfl) ?_
        refine lv_dup hx hb dX12_lookFor_138 rfl ?_
        refine r_get (v := .int dn3) hx hb hown hq hE hP 77 544 tFX12_77 (by decide) pw_1796 rfl dX12_lookFor_139 ?_
        refine lv_aload_n hx hb dX12_lookFor_142 rfl (lv_at hl 5 rfl) ?_
        refine r_get (v := .int (-1)) hx hb hown hq hE hP 81 636 tFX12_81 (by decide) pw_1879 rfl dX12_lookFor_143 ?_
        refine lv_iand hx hb dX12_lookFor_146 ?_
        refine lv_topi (fun x11 e12 => ?_)
        refine r_put (v := x11) (ty := .int) hx hb hown hq hE hP hD hS 77 544 tFX12_77 (by decide) pw_1796 (by decide) rfl rfl (ms_77 a _ _) dX12_lookFor_147 (fun H locs hP hD hS => ?_)
        refine lv_aload_n hx hb dX12_lookFor_150 rfl (lv_at hl 5 rfl) ?_
        refine r_get (v := .ref (a 14)) hx hb hown hq hE hP 22 53 tFX12_22 (by decide) pw_1444 rfl dX12_lookFor_151 ?_
        refine lv_iload_n hx hb dX12_lookFor_154 rfl (lv_at hl 4 rfl) ?_
        refine r_ldi (f := nc2) (j := n9) hx hb hE hP 14 (ma_14 G a _) rfl (by omega) (by decide) dX12_lookFor_155 ?_
        rcases Fs2.kidO (kk := 36) (s := 3) hF hn9 hkd (by decide) (by decide) (by decide) (by decide) (by omega) with e21 | ⟨c13, e14, h15, hp16, h17, hc18, hh19, hg20⟩
        · refine lv_topi (fun x22 e23 => ?_)
          obtain rfl : x22 = (-1) := e23.trans ((hnc2 n9 hn9 (by rw [hkd]; decide)).trans e21)
          refine lv_iconst (v := (-1)) hx hb dX12_lookFor_156 (by decide) ?_
          refine lv_icmp_eq (tgt := 177) hx hb dX12_lookFor_157 (by decide) (fun c24 => ?_) (fun c24 => absurd c24 (by decide))
          refine lv_aload_n hx hb dX12_lookFor_177 rfl (lv_at hl 5 rfl) ?_
          refine lv_iload hx hb dX12_lookFor_178 (lv_at hl 0 rfl) ?_
          refine lv_aload_n hx hb dX12_lookFor_180 rfl (lv_at hl 5 rfl) ?_
          refine r_get (v := .int (-1)) hx hb hown hq hE hP 80 633 tFX12_80 (by decide) pw_1878 rfl dX12_lookFor_181 ?_
          refine lv_iand hx hb dX12_lookFor_184 ?_
          refine lv_topi (fun x25 e26 => ?_)
          refine r_put (v := x25) (ty := .int) hx hb hown hq hE hP hD hS 77 544 tFX12_77 (by decide) pw_1796 (by decide) rfl rfl (ms_77 a _ _) dX12_lookFor_185 (fun H locs hP hD hS => ?_)
          refine lv_aload_n hx hb dX12_lookFor_188 rfl (lv_at hl 5 rfl) ?_
          refine lv_iload_n hx hb dX12_lookFor_189 rfl (lv_at hl 2 rfl) ?_
          refine r_put (v := ab) (ty := .int) hx hb hown hq hE hP hD hS 80 633 tFX12_80 (by decide) pw_1878 (by decide) rfl rfl (ms_80 a _ _) dX12_lookFor_190 (fun H locs hP hD hS => ?_)
          refine lv_aload_n hx hb dX12_lookFor_193 rfl (lv_at hl 5 rfl) ?_
          refine lv_iload hx hb dX12_lookFor_194 (lv_at hl 1 rfl) ?_
          refine r_put (v := ac) (ty := .int) hx hb hown hq hE hP hD hS 81 636 tFX12_81 (by decide) pw_1879 (by decide) rfl rfl (ms_81 a _ _) dX12_lookFor_196 (fun H locs hP hD hS => ?_)
          refine lv_aload_n hx hb dX12_lookFor_199 rfl (lv_at hl 5 rfl) ?_
          refine lv_iload_n hx hb dX12_lookFor_200 rfl (lv_at hl 3 rfl) ?_
          refine r_put (v := (nI sc)) (ty := .int) hx hb hown hq hE hP hD hS 73 537 tFX12_73 (by decide) pw_1795 (by decide) rfl rfl (ms_73 a _ _) dX12_lookFor_201 (fun H locs hP hD hS => ?_)
          have hz27 : fa ≤ fa3 := (by omega)
          have hz28 : fa3 ≤ 15 := (by omega)
          have hz29 : sc ≤ sc := (by omega)
          have hz30 : sc ≤ 30 := (by omega)
          have hz31 : ChS B nd n9 ty ty3 mn mn3 nc nc2 := hch3
          have hz32 : mnN B nd mn3 := hmn3
          have hz33 : ∀ i : Nat, i < nd → ¬ (B) 9 i = 44 → nc2 i = (B) 14 i := hnc2
          have hz34 : ∀ i : Nat, i < sc → vt2 i = vt i := hq82
          have hz35 : If (fa3 = 0) (TyS B dc fd md nd ty3 mn3 nc2 k9 rs n9 (sc, il, ev) ∧ sc = (aft B n9 (sc, il, ev)).1 ∧ ∀ i : Nat, i < sc → vt2 i = (aft B n9 (sc, il, ev)).2.2 i ∧ tyOK dc (vt2 i)) := (fun e => absurd e (by omega))
          have hP : va_P G.1 pCl (mW G h0 a (upd (upd (upd (upd (upd (upd (upd (upd (upd (upd (upd (upd (upd F 15 (nI fa3)) 16 pl3) 44 (nI fd)) 49 (nI md)) 73 (nI sc)) 74 (nI k9)) 75 (nI rs)) 76 (nI il)) 77 x25) 78 wt3) 79 wf3) 80 ab) 81 ac) (updA (updA (updA (updA (updA B 14 nc2) 17 ty3) 18 mn3) 48 vn2) 49 vt2)) _ := mW_to (F := F) (l1 := [(15, (nI fa3)), (16, pl3), (44, (nI fd)), (49, (nI md)), (73, (nI sc2)), (74, (nI k9)), (75, (nI rs)), (76, (nI il)), (77, dn3), (78, wt3), (79, wf3), (80, ab2), (81, ac2), (80, (-1)), (81, (-1)), (76, (nI (il + 1))), (76, (nI il)), (77, x11), (77, x25), (80, ab), (81, ac), (73, (nI sc))]) (l2 := [(15, (nI fa3)), (16, pl3), (44, (nI fd)), (49, (nI md)), (73, (nI sc)), (74, (nI k9)), (75, (nI rs)), (76, (nI il)), (77, x25), (78, wt3), (79, wf3), (80, ab), (81, ac)]) (V := [(nI fa3), pl3, (nI fd), (nI md), (nI sc), (nI k9), (nI rs), (nI il), x25, wt3, wf3, ab, ac, ab, ac, (nI il), (nI il), x25, x25, ab, ac, (nI sc), (nI fa3), pl3, (nI fd), (nI md), (nI sc), (nI k9), (nI rs), (nI il), x25, wt3, wf3, ab, ac]) rfl rfl rfl hP
          have hD : va_D A (mW G h0 a (upd (upd (upd (upd (upd (upd (upd (upd (upd (upd (upd (upd (upd F 15 (nI fa3)) 16 pl3) 44 (nI fd)) 49 (nI md)) 73 (nI sc)) 74 (nI k9)) 75 (nI rs)) 76 (nI il)) 77 x25) 78 wt3) 79 wf3) 80 ab) 81 ac) (updA (updA (updA (updA (updA B 14 nc2) 17 ty3) 18 mn3) 48 vn2) 49 vt2)) := mW_D hD
          exact W.vret hx hb hr (fun t9 ht9 hW9 => ⟨⟨_, (fa3, sc, pl3, x25, wt3, wf3, ab, ac, nc2, ty3, mn3, vn2, vt2), rfl, ⟨rfl, hz27, hz28, hz29, hz30, hz31, hz32, hz33, hz34, hz35⟩, by rw [ht9]; exact hP, hD⟩, hS.F ht9⟩) hS.2.2 dX12_lookFor_204
        · refine lv_topi (fun x36 e37 => ?_)
          obtain rfl : x36 = nI c13 := e37.trans ((hnc2 n9 hn9 (by rw [hkd]; decide)).trans e14)
          refine lv_iconst (v := (-1)) hx hb dX12_lookFor_156 (by decide) ?_
          refine lv_icmp_eq (tgt := 177) hx hb dX12_lookFor_157 (by decide) (fun c38 => absurd c38 (nI_m1 (by omega))) (fun c38 => ?_)
          refine lv_aload_n hx hb dX12_lookFor_160 rfl (lv_at hl 5 rfl) ?_
          refine r_get (v := .int (nI fa3)) hx hb hown hq hE hP 15 350 tFX12_15 (by decide) pw_1594 rfl dX12_lookFor_161 ?_
          refine lv_if_ne (tgt := 177) hx hb dX12_lookFor_164 (by decide) (fun c39 => ?_) (fun c39 => (by have n40 : fa3 = 0 := (nI_eq (a := fa3) (b := 0) (by omega) (by omega)).mp c39; omega))
          refine lv_aload_n hx hb dX12_lookFor_177 rfl (lv_at hl 5 rfl) ?_
          refine lv_iload hx hb dX12_lookFor_178 (lv_at hl 0 rfl) ?_
          refine lv_aload_n hx hb dX12_lookFor_180 rfl (lv_at hl 5 rfl) ?_
          refine r_get (v := .int (-1)) hx hb hown hq hE hP 80 633 tFX12_80 (by decide) pw_1878 rfl dX12_lookFor_181 ?_
          refine lv_iand hx hb dX12_lookFor_184 ?_
          refine lv_topi (fun x41 e42 => ?_)
          refine r_put (v := x41) (ty := .int) hx hb hown hq hE hP hD hS 77 544 tFX12_77 (by decide) pw_1796 (by decide) rfl rfl (ms_77 a _ _) dX12_lookFor_185 (fun H locs hP hD hS => ?_)
          refine lv_aload_n hx hb dX12_lookFor_188 rfl (lv_at hl 5 rfl) ?_
          refine lv_iload_n hx hb dX12_lookFor_189 rfl (lv_at hl 2 rfl) ?_
          refine r_put (v := ab) (ty := .int) hx hb hown hq hE hP hD hS 80 633 tFX12_80 (by decide) pw_1878 (by decide) rfl rfl (ms_80 a _ _) dX12_lookFor_190 (fun H locs hP hD hS => ?_)
          refine lv_aload_n hx hb dX12_lookFor_193 rfl (lv_at hl 5 rfl) ?_
          refine lv_iload hx hb dX12_lookFor_194 (lv_at hl 1 rfl) ?_
          refine r_put (v := ac) (ty := .int) hx hb hown hq hE hP hD hS 81 636 tFX12_81 (by decide) pw_1879 (by decide) rfl rfl (ms_81 a _ _) dX12_lookFor_196 (fun H locs hP hD hS => ?_)
          refine lv_aload_n hx hb dX12_lookFor_199 rfl (lv_at hl 5 rfl) ?_
          refine lv_iload_n hx hb dX12_lookFor_200 rfl (lv_at hl 3 rfl) ?_
          refine r_put (v := (nI sc)) (ty := .int) hx hb hown hq hE hP hD hS 73 537 tFX12_73 (by decide) pw_1795 (by decide) rfl rfl (ms_73 a _ _) dX12_lookFor_201 (fun H locs hP hD hS => ?_)
          have hz43 : fa ≤ fa3 := (by omega)
          have hz44 : fa3 ≤ 15 := (by omega)
          have hz45 : sc ≤ sc := (by omega)
          have hz46 : sc ≤ 30 := (by omega)
          have hz47 : ChS B nd n9 ty ty3 mn mn3 nc nc2 := hch3
          have hz48 : mnN B nd mn3 := hmn3
          have hz49 : ∀ i : Nat, i < nd → ¬ (B) 9 i = 44 → nc2 i = (B) 14 i := hnc2
          have hz50 : ∀ i : Nat, i < sc → vt2 i = vt i := hq82
          have hz51 : If (fa3 = 0) (TyS B dc fd md nd ty3 mn3 nc2 k9 rs n9 (sc, il, ev) ∧ sc = (aft B n9 (sc, il, ev)).1 ∧ ∀ i : Nat, i < sc → vt2 i = (aft B n9 (sc, il, ev)).2.2 i ∧ tyOK dc (vt2 i)) := (fun e => absurd e (by omega))
          have hP : va_P G.1 pCl (mW G h0 a (upd (upd (upd (upd (upd (upd (upd (upd (upd (upd (upd (upd (upd F 15 (nI fa3)) 16 pl3) 44 (nI fd)) 49 (nI md)) 73 (nI sc)) 74 (nI k9)) 75 (nI rs)) 76 (nI il)) 77 x41) 78 wt3) 79 wf3) 80 ab) 81 ac) (updA (updA (updA (updA (updA B 14 nc2) 17 ty3) 18 mn3) 48 vn2) 49 vt2)) _ := mW_to (F := F) (l1 := [(15, (nI fa3)), (16, pl3), (44, (nI fd)), (49, (nI md)), (73, (nI sc2)), (74, (nI k9)), (75, (nI rs)), (76, (nI il)), (77, dn3), (78, wt3), (79, wf3), (80, ab2), (81, ac2), (80, (-1)), (81, (-1)), (76, (nI (il + 1))), (76, (nI il)), (77, x11), (77, x41), (80, ab), (81, ac), (73, (nI sc))]) (l2 := [(15, (nI fa3)), (16, pl3), (44, (nI fd)), (49, (nI md)), (73, (nI sc)), (74, (nI k9)), (75, (nI rs)), (76, (nI il)), (77, x41), (78, wt3), (79, wf3), (80, ab), (81, ac)]) (V := [(nI fa3), pl3, (nI fd), (nI md), (nI sc), (nI k9), (nI rs), (nI il), x41, wt3, wf3, ab, ac, ab, ac, (nI il), (nI il), x41, x41, ab, ac, (nI sc), (nI fa3), pl3, (nI fd), (nI md), (nI sc), (nI k9), (nI rs), (nI il), x41, wt3, wf3, ab, ac]) rfl rfl rfl hP
          have hD : va_D A (mW G h0 a (upd (upd (upd (upd (upd (upd (upd (upd (upd (upd (upd (upd (upd F 15 (nI fa3)) 16 pl3) 44 (nI fd)) 49 (nI md)) 73 (nI sc)) 74 (nI k9)) 75 (nI rs)) 76 (nI il)) 77 x41) 78 wt3) 79 wf3) 80 ab) 81 ac) (updA (updA (updA (updA (updA B 14 nc2) 17 ty3) 18 mn3) 48 vn2) 49 vt2)) := mW_D hD
          exact W.vret hx hb hr (fun t9 ht9 hW9 => ⟨⟨_, (fa3, sc, pl3, x41, wt3, wf3, ab, ac, nc2, ty3, mn3, vn2, vt2), rfl, ⟨rfl, hz43, hz44, hz45, hz46, hz47, hz48, hz49, hz50, hz51⟩, by rw [ht9]; exact hP, hD⟩, hS.F ht9⟩) hS.2.2 dX12_lookFor_204
      · have n52 : fa3 = 0 := (nI_eq (a := fa3) (b := 0) (by omega) (by omega)).mp c5
        obtain ⟨hz1, hz2⟩ := hsc2 (by omega)
        have hemk := En.mk3 (sc := sc2) (il := il) (e := (forE B n9 (sc, il, ev))) hz1 (forE_il (X := B) (n := n9) (e := (sc, il, ev))).symm
        have hlmk := lup_mk (sc := sc2) (il := il) (e := (forE B n9 (sc, il, ev))) hz1 (forE_il (X := B) (n := n9) (e := (sc, il, ev))).symm
        refine lv_aload_n hx hb dX12_lookFor_117 rfl (lv_at hl 5 rfl) ?_
        refine lv_aload_n hx hb dX12_lookFor_118 rfl (lv_at hl 5 rfl) ?_
        refine r_get (v := .ref (a 15)) hx hb hown hq hE hP 23 56 tFX12_23 (by decide) pw_1445 rfl dX12_lookFor_119 ?_
        refine lv_iload_n hx hb dX12_lookFor_122 rfl (lv_at hl 4 rfl) ?_
        refine r_ldi (f := (B 15)) (j := n9) hx hb hE hP 15 (ma_15 G a _) rfl (by omega) (by decide) dX12_lookFor_123 ?_
        obtain ⟨c53, e54, h55, hp56, h57, hc58, hh59, hg60⟩ := Fs2.kid (kk := 36) (s := 4) hF hn9 hkd (by decide) (by decide) (by decide) (by decide) (by omega)
        refine lv_topi (fun x61 e62 => ?_)
        obtain rfl : x61 = nI c53 := e62.trans e54
        have hP : va_P G.1 pCl (mW G h0 a (upd (upd (upd (upd (upd (upd (upd (upd (upd (upd (upd (upd (upd (upd (upd (upd (upd (upd (upd (upd (upd (upd (upd (upd (upd F 15 (nI fa3)) 16 pl3) 44 (nI fd)) 49 (nI md)) 73 (nI sc2)) 74 (nI k9)) 75 (nI rs)) 76 (nI (il + 1))) 77 dn3) 78 wt3) 79 wf3) 80 (-1)) 81 (-1)) 15 (nI fa3)) 44 (nI fd)) 49 (nI md)) 73 (nI sc2)) 74 (nI k9)) 75 (nI rs)) 76 (nI (il + 1))) 77 dn3) 78 wt3) 79 wf3) 80 (-1)) 81 (-1)) (updA (updA (updA (updA (updA B 14 nc2) 17 ty3) 18 mn3) 48 vn2) 49 vt2)) _ := mW_to (F := F) (l1 := [(15, (nI fa3)), (16, pl3), (44, (nI fd)), (49, (nI md)), (73, (nI sc2)), (74, (nI k9)), (75, (nI rs)), (76, (nI il)), (77, dn3), (78, wt3), (79, wf3), (80, ab2), (81, ac2), (80, (-1)), (81, (-1)), (76, (nI (il + 1)))]) (l2 := [(15, (nI fa3)), (16, pl3), (44, (nI fd)), (49, (nI md)), (73, (nI sc2)), (74, (nI k9)), (75, (nI rs)), (76, (nI (il + 1))), (77, dn3), (78, wt3), (79, wf3), (80, (-1)), (81, (-1)), (15, (nI fa3)), (44, (nI fd)), (49, (nI md)), (73, (nI sc2)), (74, (nI k9)), (75, (nI rs)), (76, (nI (il + 1))), (77, dn3), (78, wt3), (79, wf3), (80, (-1)), (81, (-1))]) (V := [(nI fa3), pl3, (nI fd), (nI md), (nI sc2), (nI k9), (nI rs), (nI (il + 1)), dn3, wt3, wf3, (-1), (-1), (-1), (-1), (nI (il + 1)), (nI fa3), pl3, (nI fd), (nI md), (nI sc2), (nI k9), (nI rs), (nI (il + 1)), dn3, wt3, wf3, (-1), (-1), (nI fa3), (nI fd), (nI md), (nI sc2), (nI k9), (nI rs), (nI (il + 1)), dn3, wt3, wf3, (-1), (-1)]) rfl rfl rfl hP
        have hD : va_D A (mW G h0 a (upd (upd (upd (upd (upd (upd (upd (upd (upd (upd (upd (upd (upd (upd (upd (upd (upd (upd (upd (upd (upd (upd (upd (upd (upd F 15 (nI fa3)) 16 pl3) 44 (nI fd)) 49 (nI md)) 73 (nI sc2)) 74 (nI k9)) 75 (nI rs)) 76 (nI (il + 1))) 77 dn3) 78 wt3) 79 wf3) 80 (-1)) 81 (-1)) 15 (nI fa3)) 44 (nI fd)) 49 (nI md)) 73 (nI sc2)) 74 (nI k9)) 75 (nI rs)) 76 (nI (il + 1))) 77 dn3) 78 wt3) 79 wf3) 80 (-1)) 81 (-1)) (updA (updA (updA (updA (updA B 14 nc2) 17 ty3) 18 mn3) 48 vn2) 49 vt2)) := mW_D hD
        refine pc_V0 (G := G) (As := [.int (nI c53)]) (rest := []) hx hb hml hown hq hE hX pX0_al hP hD hS hA hl.1 (ihS h0 a (upd (upd (upd (upd (upd (upd (upd (upd (upd (upd (upd (upd (upd F 15 (nI fa3)) 16 pl3) 44 (nI fd)) 49 (nI md)) 73 (nI sc2)) 74 (nI k9)) 75 (nI rs)) 76 (nI (il + 1))) 77 dn3) 78 wt3) 79 wf3) 80 (-1)) 81 (-1)) B c53 fa3 sc2 (il + 1) k9 rs nd T nm wr lz dc fd md pr bk gh dn3 wt3 wf3 (-1) (-1) nc2 ty3 mn3 vn2 vt2 ((forE B n9 (sc, il, ev)).2.2) hst hnm h55 (by omega) (by omega) (by omega) hk9 hnc2 hmn3 (by omega) hrs (by omega) (hmc3 c53 h55 hp56 (fun e => by have z := hg60; omega) (fun e => by have z := hg60; omega)) (fun i h => (hz2 i h).2) (fun i h => (hz2 i h).1) (kcl_3_7 hc58)) (gV pw_1874 pw_1875 pw_1876 pw_1523 pw_1884) hV_X12_lookStatement 0 9 rfl rfl rfl rfl (Nat.le_of_ble_eq_true rfl) dX12_lookFor_124 ⟨Nat.le_of_ble_eq_true rfl, Nat.le_of_ble_eq_true rfl⟩ ⟨(by show (4 * (z9 - 1) + 14) + 1 ≤ (4 * z9 + 13); omega), (by show 8 + (4 + 11) + (160 * (z9 - 1) + 1700) ≤ (160 * z9 + 1660); omega)⟩ (fun v65 u63 H locs hw64 hP hD hS => ?_)
        obtain ⟨fa66, sc67, pl68, dn69, wt70, wf71, ab72, ac73, nc74, ty75, mn76, vn77, vt78⟩ := u63
        obtain ⟨hw64, h79, h80, h81, h82, h83, h84, h85, h86, h87⟩ := hw64
        replace h79 : fa3 ≤ fa66 := h79
        replace h80 : fa66 ≤ 15 := h80
        replace h81 : sc2 ≤ sc67 := h81
        replace h82 : sc67 ≤ 30 := h82
        replace h83 : ChS B nd c53 ty3 ty75 mn3 mn76 nc2 nc74 := h83
        replace h84 : mnN B nd mn76 := h84
        replace h85 : ∀ i : Nat, i < nd → ¬ (B) 9 i = 44 → nc74 i = (B) 14 i := h85
        replace h86 : ∀ i : Nat, i < sc2 → vt78 i = vt2 i := h86
        replace h87 : If (fa66 = 0) (TyS B dc fd md nd ty75 mn76 nc74 k9 rs c53 (sc2, (il + 1), ((forE B n9 (sc, il, ev)).2.2)) ∧ sc67 = (aft B c53 (sc2, (il + 1), ((forE B n9 (sc, il, ev)).2.2))).1 ∧ ∀ i : Nat, i < sc67 → vt78 i = (aft B c53 (sc2, (il + 1), ((forE B n9 (sc, il, ev)).2.2))).2.2 i ∧ tyOK dc (vt78 i)) := h87
        obtain rfl : v65 = none := hw64
        have hP : va_P G.1 pCl (mW G h0 a (upd (upd (upd (upd (upd (upd (upd (upd (upd (upd (upd (upd (upd F 15 (nI fa66)) 16 pl68) 44 (nI fd)) 49 (nI md)) 73 (nI sc67)) 74 (nI k9)) 75 (nI rs)) 76 (nI (il + 1))) 77 dn69) 78 wt70) 79 wf71) 80 ab72) 81 ac73) (updA (updA (updA (updA (updA B 14 nc74) 17 ty75) 18 mn76) 48 vn77) 49 vt78)) _ := mW_to (F := F) (l1 := [(15, (nI fa3)), (16, pl3), (44, (nI fd)), (49, (nI md)), (73, (nI sc2)), (74, (nI k9)), (75, (nI rs)), (76, (nI (il + 1))), (77, dn3), (78, wt3), (79, wf3), (80, (-1)), (81, (-1)), (15, (nI fa66)), (16, pl68), (44, (nI fd)), (49, (nI md)), (73, (nI sc67)), (74, (nI k9)), (75, (nI rs)), (76, (nI (il + 1))), (77, dn69), (78, wt70), (79, wf71), (80, ab72), (81, ac73)]) (l2 := [(15, (nI fa66)), (16, pl68), (44, (nI fd)), (49, (nI md)), (73, (nI sc67)), (74, (nI k9)), (75, (nI rs)), (76, (nI (il + 1))), (77, dn69), (78, wt70), (79, wf71), (80, ab72), (81, ac73)]) (V := [(nI fa66), pl68, (nI fd), (nI md), (nI sc67), (nI k9), (nI rs), (nI (il + 1)), dn69, wt70, wf71, ab72, ac73, (nI fa66), pl68, (nI fd), (nI md), (nI sc67), (nI k9), (nI rs), (nI (il + 1)), dn69, wt70, wf71, ab72, ac73, (nI fa66), pl68, (nI fd), (nI md), (nI sc67), (nI k9), (nI rs), (nI (il + 1)), dn69, wt70, wf71, ab72, ac73]) rfl rfl rfl hP
        have hD : va_D A (mW G h0 a (upd (upd (upd (upd (upd (upd (upd (upd (upd (upd (upd (upd (upd F 15 (nI fa66)) 16 pl68) 44 (nI fd)) 49 (nI md)) 73 (nI sc67)) 74 (nI k9)) 75 (nI rs)) 76 (nI (il + 1))) 77 dn69) 78 wt70) 79 wf71) 80 ab72) 81 ac73) (updA (updA (updA (updA (updA B 14 nc74) 17 ty75) 18 mn76) 48 vn77) 49 vt78)) := mW_D hD
        refine W.widen (k := 0) (n := 0) (Nat.le_of_ble_eq_true rfl) (Nat.le_of_ble_eq_true rfl) ?_
        refine W.eq (g2 := F0 m 127 ls []) rfl ?_
        have hch88 : ChS B nd n9 ty ty75 mn mn76 nc nc74 := (ChS.trans hch3 (ChS.kid h83 (by omega) hp56))
        have hsl89 : If (fa3 = 0) (slP B n9 (sc, il, ev) (fun c e9 => TyS B dc fd md nd ty75 mn76 nc74 k9 rs c e9) 36 1) := (fun e => slP.beside (kk := 36) (s := 1) hF (by omega) hn9 hkd (by decide) (by decide) (by decide) h55 hp56 hg60 (by decide) h83 (hs13 e))
        have hsl90 : If (fa3 = 0) (slP B n9 (sc, il, ev) (fun c e9 => TyS B dc fd md nd ty75 mn76 nc74 k9 rs c e9) 36 2) := (fun e => slP.beside (kk := 36) (s := 2) hF (by omega) hn9 hkd (by decide) (by decide) (by decide) h55 hp56 hg60 (by decide) h83 (hs23 e))
        have ho91 : mn76 n9 = nI sc := ((ChS.own hF (by omega) hn9 h55 hp56 h83).1.trans hown3)
        have hq892 : ∀ i : Nat, i < sc → vt78 i = vt i := (fun i h => (h86 i (by omega)).trans (hq82 i h))
        have hvt93 : ∀ i : Nat, i < sc2 → tyOK dc (vt78 i) := (fun i h => by rw [h86 i h]; exact (fun i h => (hz2 i h).2) i h)
        have hve94 : ∀ i : Nat, i < sc2 → vt78 i = ((forE B n9 (sc, il, ev)).2.2) i := (fun i h => (h86 i h).trans ((fun i h => (hz2 i h).1) i h))
        have hsl95 : If (fa66 = 0) (slP B n9 (sc, il, ev) (fun c e9 => TyS B dc fd md nd ty75 mn76 nc74 k9 rs c e9) 36 4) := (fun e => slP.one (by decide) (by omega) e54 (by have z := (h87 e).1; rw [hlmk] at z; exact z))
        refine lv_aload_n hx hb dX12_lookFor_127 rfl (lv_at hl 5 rfl) ?_
        refine lv_dup hx hb dX12_lookFor_128 rfl ?_
        refine r_get (v := .int (nI (il + 1))) hx hb hown hq hE hP 76 630 tFX12_76 (by decide) pw_1880 rfl dX12_lookFor_129 ?_
        refine lv_iconst (v := 1) hx hb dX12_lookFor_132 (by decide) ?_
        refine lv_isub hx hb dX12_lookFor_133 ?_
        refine lv_topi (fun x96 e97 => ?_)
        obtain rfl : x96 = nI ((il + 1) - 1) := e97.trans (nI_subN (a := 1) (b := (il + 1)) (by omega))
        refine lv_topi (fun x98 e99 => ?_)
        obtain rfl : x98 = nI il := e99.trans (congrArg nI (by omega))
        refine r_put (v := (nI il)) (ty := .int) hx hb hown hq hE hP hD hS 76 630 tFX12_76 (by decide) pw_1880 (by decide) rfl rfl (ms_76 a _ _) dX12_lookFor_134 (fun H locs hP hD hS => ?_)
        refine lv_aload_n hx hb dX12_lookFor_137 rfl (lv_at hl 5 rfl) ?_
        refine lv_dup hx hb dX12_lookFor_138 rfl ?_
        refine r_get (v := .int dn69) hx hb hown hq hE hP 77 544 tFX12_77 (by decide) pw_1796 rfl dX12_lookFor_139 ?_
        refine lv_aload_n hx hb dX12_lookFor_142 rfl (lv_at hl 5 rfl) ?_
        refine r_get (v := .int ac73) hx hb hown hq hE hP 81 636 tFX12_81 (by decide) pw_1879 rfl dX12_lookFor_143 ?_
        refine lv_iand hx hb dX12_lookFor_146 ?_
        refine lv_topi (fun x100 e101 => ?_)
        refine r_put (v := x100) (ty := .int) hx hb hown hq hE hP hD hS 77 544 tFX12_77 (by decide) pw_1796 (by decide) rfl rfl (ms_77 a _ _) dX12_lookFor_147 (fun H locs hP hD hS => ?_)
        refine lv_aload_n hx hb dX12_lookFor_150 rfl (lv_at hl 5 rfl) ?_
        refine r_get (v := .ref (a 14)) hx hb hown hq hE hP 22 53 tFX12_22 (by decide) pw_1444 rfl dX12_lookFor_151 ?_
        refine lv_iload_n hx hb dX12_lookFor_154 rfl (lv_at hl 4 rfl) ?_
        refine r_ldi (f := nc74) (j := n9) hx hb hE hP 14 (ma_14 G a _) rfl (by omega) (by decide) dX12_lookFor_155 ?_
        rcases Fs2.kidO (kk := 36) (s := 3) hF hn9 hkd (by decide) (by decide) (by decide) (by decide) (by omega) with e110 | ⟨c102, e103, h104, hp105, h106, hc107, hh108, hg109⟩
        · refine lv_topi (fun x111 e112 => ?_)
          obtain rfl : x111 = (-1) := e112.trans ((h85 n9 hn9 (by rw [hkd]; decide)).trans e110)
          refine lv_iconst (v := (-1)) hx hb dX12_lookFor_156 (by decide) ?_
          refine lv_icmp_eq (tgt := 177) hx hb dX12_lookFor_157 (by decide) (fun c113 => ?_) (fun c113 => absurd c113 (by decide))
          refine lv_aload_n hx hb dX12_lookFor_177 rfl (lv_at hl 5 rfl) ?_
          refine lv_iload hx hb dX12_lookFor_178 (lv_at hl 0 rfl) ?_
          refine lv_aload_n hx hb dX12_lookFor_180 rfl (lv_at hl 5 rfl) ?_
          refine r_get (v := .int ab72) hx hb hown hq hE hP 80 633 tFX12_80 (by decide) pw_1878 rfl dX12_lookFor_181 ?_
          refine lv_iand hx hb dX12_lookFor_184 ?_
          refine lv_topi (fun x114 e115 => ?_)
          refine r_put (v := x114) (ty := .int) hx hb hown hq hE hP hD hS 77 544 tFX12_77 (by decide) pw_1796 (by decide) rfl rfl (ms_77 a _ _) dX12_lookFor_185 (fun H locs hP hD hS => ?_)
          refine lv_aload_n hx hb dX12_lookFor_188 rfl (lv_at hl 5 rfl) ?_
          refine lv_iload_n hx hb dX12_lookFor_189 rfl (lv_at hl 2 rfl) ?_
          refine r_put (v := ab) (ty := .int) hx hb hown hq hE hP hD hS 80 633 tFX12_80 (by decide) pw_1878 (by decide) rfl rfl (ms_80 a _ _) dX12_lookFor_190 (fun H locs hP hD hS => ?_)
          refine lv_aload_n hx hb dX12_lookFor_193 rfl (lv_at hl 5 rfl) ?_
          refine lv_iload hx hb dX12_lookFor_194 (lv_at hl 1 rfl) ?_
          refine r_put (v := ac) (ty := .int) hx hb hown hq hE hP hD hS 81 636 tFX12_81 (by decide) pw_1879 (by decide) rfl rfl (ms_81 a _ _) dX12_lookFor_196 (fun H locs hP hD hS => ?_)
          refine lv_aload_n hx hb dX12_lookFor_199 rfl (lv_at hl 5 rfl) ?_
          refine lv_iload_n hx hb dX12_lookFor_200 rfl (lv_at hl 3 rfl) ?_
          refine r_put (v := (nI sc)) (ty := .int) hx hb hown hq hE hP hD hS 73 537 tFX12_73 (by decide) pw_1795 (by decide) rfl rfl (ms_73 a _ _) dX12_lookFor_201 (fun H locs hP hD hS => ?_)
          have hve116 : ∀ i : Nat, i < sc → vt78 i = ev i := (fun i h => (hq892 i h).trans (hve i h))
          have hvt117 : ∀ i : Nat, i < sc → tyOK dc (vt78 i) := (fun i h => by rw [hq892 i h]; exact hvt i h)
          have hz118 : fa ≤ fa66 := (by omega)
          have hz119 : fa66 ≤ 15 := (by omega)
          have hz120 : sc ≤ sc := (by omega)
          have hz121 : sc ≤ 30 := (by omega)
          have hz122 : ChS B nd n9 ty ty75 mn mn76 nc nc74 := hch88
          have hz123 : mnN B nd mn76 := h84
          have hz124 : ∀ i : Nat, i < nd → ¬ (B) 9 i = 44 → nc74 i = (B) 14 i := h85
          have hz125 : ∀ i : Nat, i < sc → vt78 i = vt i := hq892
          have hz126 : If (fa66 = 0) (TyS B dc fd md nd ty75 mn76 nc74 k9 rs n9 (sc, il, ev) ∧ sc = (aft B n9 (sc, il, ev)).1 ∧ ∀ i : Nat, i < sc → vt78 i = (aft B n9 (sc, il, ev)).2.2 i ∧ tyOK dc (vt78 i)) := (fun e => ⟨TyS.of (steps (kk := 36) hkd (by decide) (hsl89 (by omega)) (hsl90 (by omega)) ((fun _ => slP.none (by decide) e110) (by omega)) (hsl95 (by omega))) (LTX.st hkd (by decide) (by decide) (show LSk B dc ty75 mn76 nc74 rs n9 (sc, il, ev) 36 from ⟨ho91, fun c hc q => by have hcc := slP.p0 (kk := 36) (s := 2) hF (by omega) hn9 hkd (by decide) (by decide) (by decide) hc (by decide) (Or.inl ⟨by decide, q⟩); rw [if_neg (by decide)] at hcc; exact ((ChS.at hF (by omega) hn9 hcc.1 h55 hcc.2.1 hp56 (fun e => by have z := hcc.2.2; rw [e] at z; have := hg60; omega) h83).trans (hbt (by omega) c hc q))⟩)), (by rw [(aft_no (by rw [hkd]; decide))]), (fun i h => by rw [(aft_no (by rw [hkd]; decide))]; exact ⟨hve116 i h, hvt117 i h⟩)⟩)
          have hP : va_P G.1 pCl (mW G h0 a (upd (upd (upd (upd (upd (upd (upd (upd (upd (upd (upd (upd (upd F 15 (nI fa66)) 16 pl68) 44 (nI fd)) 49 (nI md)) 73 (nI sc)) 74 (nI k9)) 75 (nI rs)) 76 (nI il)) 77 x114) 78 wt70) 79 wf71) 80 ab) 81 ac) (updA (updA (updA (updA (updA B 14 nc74) 17 ty75) 18 mn76) 48 vn77) 49 vt78)) _ := mW_to (F := F) (l1 := [(15, (nI fa66)), (16, pl68), (44, (nI fd)), (49, (nI md)), (73, (nI sc67)), (74, (nI k9)), (75, (nI rs)), (76, (nI (il + 1))), (77, dn69), (78, wt70), (79, wf71), (80, ab72), (81, ac73), (76, (nI il)), (77, x100), (77, x114), (80, ab), (81, ac), (73, (nI sc))]) (l2 := [(15, (nI fa66)), (16, pl68), (44, (nI fd)), (49, (nI md)), (73, (nI sc)), (74, (nI k9)), (75, (nI rs)), (76, (nI il)), (77, x114), (78, wt70), (79, wf71), (80, ab), (81, ac)]) (V := [(nI fa66), pl68, (nI fd), (nI md), (nI sc), (nI k9), (nI rs), (nI il), x114, wt70, wf71, ab, ac, (nI il), x114, x114, ab, ac, (nI sc), (nI fa66), pl68, (nI fd), (nI md), (nI sc), (nI k9), (nI rs), (nI il), x114, wt70, wf71, ab, ac]) rfl rfl rfl hP
          have hD : va_D A (mW G h0 a (upd (upd (upd (upd (upd (upd (upd (upd (upd (upd (upd (upd (upd F 15 (nI fa66)) 16 pl68) 44 (nI fd)) 49 (nI md)) 73 (nI sc)) 74 (nI k9)) 75 (nI rs)) 76 (nI il)) 77 x114) 78 wt70) 79 wf71) 80 ab) 81 ac) (updA (updA (updA (updA (updA B 14 nc74) 17 ty75) 18 mn76) 48 vn77) 49 vt78)) := mW_D hD
          exact W.vret hx hb hr (fun t9 ht9 hW9 => ⟨⟨_, (fa66, sc, pl68, x114, wt70, wf71, ab, ac, nc74, ty75, mn76, vn77, vt78), rfl, ⟨rfl, hz118, hz119, hz120, hz121, hz122, hz123, hz124, hz125, hz126⟩, by rw [ht9]; exact hP, hD⟩, hS.F ht9⟩) hS.2.2 dX12_lookFor_204
        · refine lv_topi (fun x127 e128 => ?_)
          obtain rfl : x127 = nI c102 := e128.trans ((h85 n9 hn9 (by rw [hkd]; decide)).trans e103)
          refine lv_iconst (v := (-1)) hx hb dX12_lookFor_156 (by decide) ?_
          refine lv_icmp_eq (tgt := 177) hx hb dX12_lookFor_157 (by decide) (fun c129 => absurd c129 (nI_m1 (by omega))) (fun c129 => ?_)
          refine lv_aload_n hx hb dX12_lookFor_160 rfl (lv_at hl 5 rfl) ?_
          refine r_get (v := .int (nI fa66)) hx hb hown hq hE hP 15 350 tFX12_15 (by decide) pw_1594 rfl dX12_lookFor_161 ?_
          refine lv_if_ne (tgt := 177) hx hb dX12_lookFor_164 (by decide) (fun c130 => ?_) (fun c130 => ?_)
          · have n131 : ¬ (fa66 = 0) := fun h9 => c130 ((nI_eq (a := fa66) (b := 0) (by omega) (by omega)).mpr h9)
            refine lv_aload_n hx hb dX12_lookFor_177 rfl (lv_at hl 5 rfl) ?_
            refine lv_iload hx hb dX12_lookFor_178 (lv_at hl 0 rfl) ?_
            refine lv_aload_n hx hb dX12_lookFor_180 rfl (lv_at hl 5 rfl) ?_
            refine r_get (v := .int ab72) hx hb hown hq hE hP 80 633 tFX12_80 (by decide) pw_1878 rfl dX12_lookFor_181 ?_
            refine lv_iand hx hb dX12_lookFor_184 ?_
            refine lv_topi (fun x132 e133 => ?_)
            refine r_put (v := x132) (ty := .int) hx hb hown hq hE hP hD hS 77 544 tFX12_77 (by decide) pw_1796 (by decide) rfl rfl (ms_77 a _ _) dX12_lookFor_185 (fun H locs hP hD hS => ?_)
            refine lv_aload_n hx hb dX12_lookFor_188 rfl (lv_at hl 5 rfl) ?_
            refine lv_iload_n hx hb dX12_lookFor_189 rfl (lv_at hl 2 rfl) ?_
            refine r_put (v := ab) (ty := .int) hx hb hown hq hE hP hD hS 80 633 tFX12_80 (by decide) pw_1878 (by decide) rfl rfl (ms_80 a _ _) dX12_lookFor_190 (fun H locs hP hD hS => ?_)
            refine lv_aload_n hx hb dX12_lookFor_193 rfl (lv_at hl 5 rfl) ?_
            refine lv_iload hx hb dX12_lookFor_194 (lv_at hl 1 rfl) ?_
            refine r_put (v := ac) (ty := .int) hx hb hown hq hE hP hD hS 81 636 tFX12_81 (by decide) pw_1879 (by decide) rfl rfl (ms_81 a _ _) dX12_lookFor_196 (fun H locs hP hD hS => ?_)
            refine lv_aload_n hx hb dX12_lookFor_199 rfl (lv_at hl 5 rfl) ?_
            refine lv_iload_n hx hb dX12_lookFor_200 rfl (lv_at hl 3 rfl) ?_
            refine r_put (v := (nI sc)) (ty := .int) hx hb hown hq hE hP hD hS 73 537 tFX12_73 (by decide) pw_1795 (by decide) rfl rfl (ms_73 a _ _) dX12_lookFor_201 (fun H locs hP hD hS => ?_)
            have hz134 : fa ≤ fa66 := (by omega)
            have hz135 : fa66 ≤ 15 := (by omega)
            have hz136 : sc ≤ sc := (by omega)
            have hz137 : sc ≤ 30 := (by omega)
            have hz138 : ChS B nd n9 ty ty75 mn mn76 nc nc74 := hch88
            have hz139 : mnN B nd mn76 := h84
            have hz140 : ∀ i : Nat, i < nd → ¬ (B) 9 i = 44 → nc74 i = (B) 14 i := h85
            have hz141 : ∀ i : Nat, i < sc → vt78 i = vt i := hq892
            have hz142 : If (fa66 = 0) (TyS B dc fd md nd ty75 mn76 nc74 k9 rs n9 (sc, il, ev) ∧ sc = (aft B n9 (sc, il, ev)).1 ∧ ∀ i : Nat, i < sc → vt78 i = (aft B n9 (sc, il, ev)).2.2 i ∧ tyOK dc (vt78 i)) := (fun e => absurd e (by omega))
            have hP : va_P G.1 pCl (mW G h0 a (upd (upd (upd (upd (upd (upd (upd (upd (upd (upd (upd (upd (upd F 15 (nI fa66)) 16 pl68) 44 (nI fd)) 49 (nI md)) 73 (nI sc)) 74 (nI k9)) 75 (nI rs)) 76 (nI il)) 77 x132) 78 wt70) 79 wf71) 80 ab) 81 ac) (updA (updA (updA (updA (updA B 14 nc74) 17 ty75) 18 mn76) 48 vn77) 49 vt78)) _ := mW_to (F := F) (l1 := [(15, (nI fa66)), (16, pl68), (44, (nI fd)), (49, (nI md)), (73, (nI sc67)), (74, (nI k9)), (75, (nI rs)), (76, (nI (il + 1))), (77, dn69), (78, wt70), (79, wf71), (80, ab72), (81, ac73), (76, (nI il)), (77, x100), (77, x132), (80, ab), (81, ac), (73, (nI sc))]) (l2 := [(15, (nI fa66)), (16, pl68), (44, (nI fd)), (49, (nI md)), (73, (nI sc)), (74, (nI k9)), (75, (nI rs)), (76, (nI il)), (77, x132), (78, wt70), (79, wf71), (80, ab), (81, ac)]) (V := [(nI fa66), pl68, (nI fd), (nI md), (nI sc), (nI k9), (nI rs), (nI il), x132, wt70, wf71, ab, ac, (nI il), x132, x132, ab, ac, (nI sc), (nI fa66), pl68, (nI fd), (nI md), (nI sc), (nI k9), (nI rs), (nI il), x132, wt70, wf71, ab, ac]) rfl rfl rfl hP
            have hD : va_D A (mW G h0 a (upd (upd (upd (upd (upd (upd (upd (upd (upd (upd (upd (upd (upd F 15 (nI fa66)) 16 pl68) 44 (nI fd)) 49 (nI md)) 73 (nI sc)) 74 (nI k9)) 75 (nI rs)) 76 (nI il)) 77 x132) 78 wt70) 79 wf71) 80 ab) 81 ac) (updA (updA (updA (updA (updA B 14 nc74) 17 ty75) 18 mn76) 48 vn77) 49 vt78)) := mW_D hD
            exact W.vret hx hb hr (fun t9 ht9 hW9 => ⟨⟨_, (fa66, sc, pl68, x132, wt70, wf71, ab, ac, nc74, ty75, mn76, vn77, vt78), rfl, ⟨rfl, hz134, hz135, hz136, hz137, hz138, hz139, hz140, hz141, hz142⟩, by rw [ht9]; exact hP, hD⟩, hS.F ht9⟩) hS.2.2 dX12_lookFor_204
          · have n143 : fa66 = 0 := (nI_eq (a := fa66) (b := 0) (by omega) (by omega)).mp c130
            obtain rfl : sc2 = sc67 := by have z := (h87 (by omega)).2.1; rw [aft_no (kcl_no30 (q := 3) (by omega) hc58)] at z; exact z.symm
            refine lv_aload_n hx hb dX12_lookFor_167 rfl (lv_at hl 5 rfl) ?_
            refine lv_aload_n hx hb dX12_lookFor_168 rfl (lv_at hl 5 rfl) ?_
            refine r_get (v := .ref (a 14)) hx hb hown hq hE hP 22 53 tFX12_22 (by decide) pw_1444 rfl dX12_lookFor_169 ?_
            refine lv_iload_n hx hb dX12_lookFor_172 rfl (lv_at hl 4 rfl) ?_
            refine r_ldi (f := nc74) (j := n9) hx hb hE hP 14 (ma_14 G a _) rfl (by omega) (by decide) dX12_lookFor_173 ?_
            refine lv_topi (fun x144 e145 => ?_)
            obtain rfl : x144 = nI c102 := e145.trans ((h85 n9 hn9 (by rw [hkd]; decide)).trans e103)
            have hP : va_P G.1 pCl (mW G h0 a (upd (upd (upd (upd (upd (upd (upd (upd (upd (upd (upd (upd (upd (upd (upd (upd (upd (upd (upd (upd (upd (upd (upd (upd (upd F 15 (nI fa66)) 16 pl68) 44 (nI fd)) 49 (nI md)) 73 (nI sc2)) 74 (nI k9)) 75 (nI rs)) 76 (nI il)) 77 x100) 78 wt70) 79 wf71) 80 ab72) 81 ac73) 15 (nI fa66)) 44 (nI fd)) 49 (nI md)) 73 (nI sc2)) 74 (nI k9)) 75 (nI rs)) 76 (nI il)) 77 x100) 78 wt70) 79 wf71) 80 ab72) 81 ac73) (updA (updA (updA (updA (updA B 14 nc74) 17 ty75) 18 mn76) 48 vn77) 49 vt78)) _ := hP
            have hD : va_D A (mW G h0 a (upd (upd (upd (upd (upd (upd (upd (upd (upd (upd (upd (upd (upd (upd (upd (upd (upd (upd (upd (upd (upd (upd (upd (upd (upd F 15 (nI fa66)) 16 pl68) 44 (nI fd)) 49 (nI md)) 73 (nI sc2)) 74 (nI k9)) 75 (nI rs)) 76 (nI il)) 77 x100) 78 wt70) 79 wf71) 80 ab72) 81 ac73) 15 (nI fa66)) 44 (nI fd)) 49 (nI md)) 73 (nI sc2)) 74 (nI k9)) 75 (nI rs)) 76 (nI il)) 77 x100) 78 wt70) 79 wf71) 80 ab72) 81 ac73) (updA (updA (updA (updA (updA B 14 nc74) 17 ty75) 18 mn76) 48 vn77) 49 vt78)) := mW_D hD
            refine pc_V0 (G := G) (As := [.int (nI c102)]) (rest := []) hx hb hml hown hq hE hX pX0_al hP hD hS hA hl.1 (ihS h0 a (upd (upd (upd (upd (upd (upd (upd (upd (upd (upd (upd (upd (upd F 15 (nI fa66)) 16 pl68) 44 (nI fd)) 49 (nI md)) 73 (nI sc2)) 74 (nI k9)) 75 (nI rs)) 76 (nI il)) 77 x100) 78 wt70) 79 wf71) 80 ab72) 81 ac73) B c102 fa66 sc2 il k9 rs nd T nm wr lz dc fd md pr bk gh x100 wt70 wf71 ab72 ac73 nc74 ty75 mn76 vn77 vt78 ((forE B n9 (sc, il, ev)).2.2) hst hnm h104 (by omega) (by omega) (by omega) hk9 h85 h84 (by omega) hrs (by omega) (mnC.beside hF (by omega) hn9 (hmc3 c102 h104 hp105 (fun e => by have z := hg109; omega) (fun e => by have z := hg109; omega)) h104 h55 hp105 hp56 (fun e => by have z := hg109; rw [e] at z; have := hg60; omega) h83) hvt93 hve94 (kcl_3_7 (kcl_15_3 hc107))) (gV pw_1874 pw_1875 pw_1876 pw_1523 pw_1884) hV_X12_lookStatement 0 9 rfl rfl rfl rfl (Nat.le_of_ble_eq_true rfl) dX12_lookFor_174 ⟨Nat.le_of_ble_eq_true rfl, Nat.le_of_ble_eq_true rfl⟩ ⟨(by show (4 * (z9 - 1) + 14) + 1 ≤ (4 * z9 + 13); omega), (by show 8 + (4 + 11) + (160 * (z9 - 1) + 1700) ≤ (160 * z9 + 1660); omega)⟩ (fun v148 u146 H locs hw147 hP hD hS => ?_)
            obtain ⟨fa149, sc150, pl151, dn152, wt153, wf154, ab155, ac156, nc157, ty158, mn159, vn160, vt161⟩ := u146
            obtain ⟨hw147, h162, h163, h164, h165, h166, h167, h168, h169, h170⟩ := hw147
            replace h162 : fa66 ≤ fa149 := h162
            replace h163 : fa149 ≤ 15 := h163
            replace h164 : sc2 ≤ sc150 := h164
            replace h165 : sc150 ≤ 30 := h165
            replace h166 : ChS B nd c102 ty75 ty158 mn76 mn159 nc74 nc157 := h166
            replace h167 : mnN B nd mn159 := h167
            replace h168 : ∀ i : Nat, i < nd → ¬ (B) 9 i = 44 → nc157 i = (B) 14 i := h168
            replace h169 : ∀ i : Nat, i < sc2 → vt161 i = vt78 i := h169
            replace h170 : If (fa149 = 0) (TyS B dc fd md nd ty158 mn159 nc157 k9 rs c102 (sc2, il, ((forE B n9 (sc, il, ev)).2.2)) ∧ sc150 = (aft B c102 (sc2, il, ((forE B n9 (sc, il, ev)).2.2))).1 ∧ ∀ i : Nat, i < sc150 → vt161 i = (aft B c102 (sc2, il, ((forE B n9 (sc, il, ev)).2.2))).2.2 i ∧ tyOK dc (vt161 i)) := h170
            obtain rfl : v148 = none := hw147
            have hP : va_P G.1 pCl (mW G h0 a (upd (upd (upd (upd (upd (upd (upd (upd (upd (upd (upd (upd (upd F 15 (nI fa149)) 16 pl151) 44 (nI fd)) 49 (nI md)) 73 (nI sc150)) 74 (nI k9)) 75 (nI rs)) 76 (nI il)) 77 dn152) 78 wt153) 79 wf154) 80 ab155) 81 ac156) (updA (updA (updA (updA (updA B 14 nc157) 17 ty158) 18 mn159) 48 vn160) 49 vt161)) _ := mW_to (F := F) (l1 := [(15, (nI fa66)), (16, pl68), (44, (nI fd)), (49, (nI md)), (73, (nI sc2)), (74, (nI k9)), (75, (nI rs)), (76, (nI il)), (77, x100), (78, wt70), (79, wf71), (80, ab72), (81, ac73), (15, (nI fa149)), (16, pl151), (44, (nI fd)), (49, (nI md)), (73, (nI sc150)), (74, (nI k9)), (75, (nI rs)), (76, (nI il)), (77, dn152), (78, wt153), (79, wf154), (80, ab155), (81, ac156)]) (l2 := [(15, (nI fa149)), (16, pl151), (44, (nI fd)), (49, (nI md)), (73, (nI sc150)), (74, (nI k9)), (75, (nI rs)), (76, (nI il)), (77, dn152), (78, wt153), (79, wf154), (80, ab155), (81, ac156)]) (V := [(nI fa149), pl151, (nI fd), (nI md), (nI sc150), (nI k9), (nI rs), (nI il), dn152, wt153, wf154, ab155, ac156, (nI fa149), pl151, (nI fd), (nI md), (nI sc150), (nI k9), (nI rs), (nI il), dn152, wt153, wf154, ab155, ac156, (nI fa149), pl151, (nI fd), (nI md), (nI sc150), (nI k9), (nI rs), (nI il), dn152, wt153, wf154, ab155, ac156]) rfl rfl rfl hP
            have hD : va_D A (mW G h0 a (upd (upd (upd (upd (upd (upd (upd (upd (upd (upd (upd (upd (upd F 15 (nI fa149)) 16 pl151) 44 (nI fd)) 49 (nI md)) 73 (nI sc150)) 74 (nI k9)) 75 (nI rs)) 76 (nI il)) 77 dn152) 78 wt153) 79 wf154) 80 ab155) 81 ac156) (updA (updA (updA (updA (updA B 14 nc157) 17 ty158) 18 mn159) 48 vn160) 49 vt161)) := mW_D hD
            refine W.widen (k := 0) (n := 0) (Nat.le_of_ble_eq_true rfl) (Nat.le_of_ble_eq_true rfl) ?_
            refine W.eq (g2 := F0 m 177 ls []) rfl ?_
            have hch171 : ChS B nd n9 ty ty158 mn mn159 nc nc157 := (ChS.trans hch88 (ChS.kid h166 (by omega) hp105))
            have hsl172 : If (fa3 = 0) (slP B n9 (sc, il, ev) (fun c e9 => TyS B dc fd md nd ty158 mn159 nc157 k9 rs c e9) 36 1) := (fun e => slP.beside (kk := 36) (s := 1) hF (by omega) hn9 hkd (by decide) (by decide) (by decide) h104 hp105 hg109 (by decide) h166 (hsl89 e))
            have hsl173 : If (fa3 = 0) (slP B n9 (sc, il, ev) (fun c e9 => TyS B dc fd md nd ty158 mn159 nc157 k9 rs c e9) 36 2) := (fun e => slP.beside (kk := 36) (s := 2) hF (by omega) hn9 hkd (by decide) (by decide) (by decide) h104 hp105 hg109 (by decide) h166 (hsl90 e))
            have hsl174 : If (fa66 = 0) (slP B n9 (sc, il, ev) (fun c e9 => TyS B dc fd md nd ty158 mn159 nc157 k9 rs c e9) 36 4) := (fun e => slP.beside (kk := 36) (s := 4) hF (by omega) hn9 hkd (by decide) (by decide) (by decide) h104 hp105 hg109 (by decide) h166 (hsl95 e))
            have ho175 : mn159 n9 = nI sc := ((ChS.own hF (by omega) hn9 h104 hp105 h166).1.trans ho91)
            have hq8176 : ∀ i : Nat, i < sc → vt161 i = vt i := (fun i h => (h169 i (by omega)).trans (hq892 i h))
            have hvt177 : ∀ i : Nat, i < sc2 → tyOK dc (vt161 i) := (fun i h => by rw [h169 i h]; exact hvt93 i h)
            have hve178 : ∀ i : Nat, i < sc2 → vt161 i = ((forE B n9 (sc, il, ev)).2.2) i := (fun i h => (h169 i h).trans (hve94 i h))
            have hsl179 : If (fa149 = 0) (slP B n9 (sc, il, ev) (fun c e9 => TyS B dc fd md nd ty158 mn159 nc157 k9 rs c e9) 36 3) := (fun e => slP.one (by decide) (by omega) e103 (by have z := (h170 e).1; rw [hemk] at z; exact z))
            refine lv_aload_n hx hb dX12_lookFor_177 rfl (lv_at hl 5 rfl) ?_
            refine lv_iload hx hb dX12_lookFor_178 (lv_at hl 0 rfl) ?_
            refine lv_aload_n hx hb dX12_lookFor_180 rfl (lv_at hl 5 rfl) ?_
            refine r_get (v := .int ab155) hx hb hown hq hE hP 80 633 tFX12_80 (by decide) pw_1878 rfl dX12_lookFor_181 ?_
            refine lv_iand hx hb dX12_lookFor_184 ?_
            refine lv_topi (fun x180 e181 => ?_)
            refine r_put (v := x180) (ty := .int) hx hb hown hq hE hP hD hS 77 544 tFX12_77 (by decide) pw_1796 (by decide) rfl rfl (ms_77 a _ _) dX12_lookFor_185 (fun H locs hP hD hS => ?_)
            refine lv_aload_n hx hb dX12_lookFor_188 rfl (lv_at hl 5 rfl) ?_
            refine lv_iload_n hx hb dX12_lookFor_189 rfl (lv_at hl 2 rfl) ?_
            refine r_put (v := ab) (ty := .int) hx hb hown hq hE hP hD hS 80 633 tFX12_80 (by decide) pw_1878 (by decide) rfl rfl (ms_80 a _ _) dX12_lookFor_190 (fun H locs hP hD hS => ?_)
            refine lv_aload_n hx hb dX12_lookFor_193 rfl (lv_at hl 5 rfl) ?_
            refine lv_iload hx hb dX12_lookFor_194 (lv_at hl 1 rfl) ?_
            refine r_put (v := ac) (ty := .int) hx hb hown hq hE hP hD hS 81 636 tFX12_81 (by decide) pw_1879 (by decide) rfl rfl (ms_81 a _ _) dX12_lookFor_196 (fun H locs hP hD hS => ?_)
            refine lv_aload_n hx hb dX12_lookFor_199 rfl (lv_at hl 5 rfl) ?_
            refine lv_iload_n hx hb dX12_lookFor_200 rfl (lv_at hl 3 rfl) ?_
            refine r_put (v := (nI sc)) (ty := .int) hx hb hown hq hE hP hD hS 73 537 tFX12_73 (by decide) pw_1795 (by decide) rfl rfl (ms_73 a _ _) dX12_lookFor_201 (fun H locs hP hD hS => ?_)
            have hve182 : ∀ i : Nat, i < sc → vt161 i = ev i := (fun i h => (hq8176 i h).trans (hve i h))
            have hvt183 : ∀ i : Nat, i < sc → tyOK dc (vt161 i) := (fun i h => by rw [hq8176 i h]; exact hvt i h)
            have hz184 : fa ≤ fa149 := (by omega)
            have hz185 : fa149 ≤ 15 := (by omega)
            have hz186 : sc ≤ sc := (by omega)
            have hz187 : sc ≤ 30 := (by omega)
            have hz188 : ChS B nd n9 ty ty158 mn mn159 nc nc157 := hch171
            have hz189 : mnN B nd mn159 := h167
            have hz190 : ∀ i : Nat, i < nd → ¬ (B) 9 i = 44 → nc157 i = (B) 14 i := h168
            have hz191 : ∀ i : Nat, i < sc → vt161 i = vt i := hq8176
            have hz192 : If (fa149 = 0) (TyS B dc fd md nd ty158 mn159 nc157 k9 rs n9 (sc, il, ev) ∧ sc = (aft B n9 (sc, il, ev)).1 ∧ ∀ i : Nat, i < sc → vt161 i = (aft B n9 (sc, il, ev)).2.2 i ∧ tyOK dc (vt161 i)) := (fun e => ⟨TyS.of (steps (kk := 36) hkd (by decide) (hsl172 (by omega)) (hsl173 (by omega)) (hsl179 (by omega)) (hsl174 (by omega))) (LTX.st hkd (by decide) (by decide) (show LSk B dc ty158 mn159 nc157 rs n9 (sc, il, ev) 36 from ⟨ho175, fun c hc q => by have hcc := slP.p0 (kk := 36) (s := 2) hF (by omega) hn9 hkd (by decide) (by decide) (by decide) hc (by decide) (Or.inl ⟨by decide, q⟩); rw [if_neg (by decide)] at hcc; exact ((ChS.at hF (by omega) hn9 hcc.1 h104 hcc.2.1 hp105 (fun e => by have z := hcc.2.2; rw [e] at z; have := hg109; omega) h166).trans ((ChS.at hF (by omega) hn9 hcc.1 h55 hcc.2.1 hp56 (fun e => by have z := hcc.2.2; rw [e] at z; have := hg60; omega) h83).trans (hbt (by omega) c hc q)))⟩)), (by rw [(aft_no (by rw [hkd]; decide))]), (fun i h => by rw [(aft_no (by rw [hkd]; decide))]; exact ⟨hve182 i h, hvt183 i h⟩)⟩)
            have hP : va_P G.1 pCl (mW G h0 a (upd (upd (upd (upd (upd (upd (upd (upd (upd (upd (upd (upd (upd F 15 (nI fa149)) 16 pl151) 44 (nI fd)) 49 (nI md)) 73 (nI sc)) 74 (nI k9)) 75 (nI rs)) 76 (nI il)) 77 x180) 78 wt153) 79 wf154) 80 ab) 81 ac) (updA (updA (updA (updA (updA B 14 nc157) 17 ty158) 18 mn159) 48 vn160) 49 vt161)) _ := mW_to (F := F) (l1 := [(15, (nI fa149)), (16, pl151), (44, (nI fd)), (49, (nI md)), (73, (nI sc150)), (74, (nI k9)), (75, (nI rs)), (76, (nI il)), (77, dn152), (78, wt153), (79, wf154), (80, ab155), (81, ac156), (77, x180), (80, ab), (81, ac), (73, (nI sc))]) (l2 := [(15, (nI fa149)), (16, pl151), (44, (nI fd)), (49, (nI md)), (73, (nI sc)), (74, (nI k9)), (75, (nI rs)), (76, (nI il)), (77, x180), (78, wt153), (79, wf154), (80, ab), (81, ac)]) (V := [(nI fa149), pl151, (nI fd), (nI md), (nI sc), (nI k9), (nI rs), (nI il), x180, wt153, wf154, ab, ac, x180, ab, ac, (nI sc), (nI fa149), pl151, (nI fd), (nI md), (nI sc), (nI k9), (nI rs), (nI il), x180, wt153, wf154, ab, ac]) rfl rfl rfl hP
            have hD : va_D A (mW G h0 a (upd (upd (upd (upd (upd (upd (upd (upd (upd (upd (upd (upd (upd F 15 (nI fa149)) 16 pl151) 44 (nI fd)) 49 (nI md)) 73 (nI sc)) 74 (nI k9)) 75 (nI rs)) 76 (nI il)) 77 x180) 78 wt153) 79 wf154) 80 ab) 81 ac) (updA (updA (updA (updA (updA B 14 nc157) 17 ty158) 18 mn159) 48 vn160) 49 vt161)) := mW_D hD
            exact W.vret hx hb hr (fun t9 ht9 hW9 => ⟨⟨_, (fa149, sc, pl151, x180, wt153, wf154, ab, ac, nc157, ty158, mn159, vn160, vt161), rfl, ⟨rfl, hz184, hz185, hz186, hz187, hz188, hz189, hz190, hz191, hz192⟩, by rw [ht9]; exact hP, hD⟩, hS.F ht9⟩) hS.2.2 dX12_lookFor_204
    refine lv_aload_n hx hb dX12_lookFor_49 rfl (lv_at hl 5 rfl) ?_
    refine r_get (v := .ref (a 13)) hx hb hown hq hE hP 21 50 tFX12_21 (by decide) pw_1443 rfl dX12_lookFor_50 ?_
    refine lv_iload_n hx hb dX12_lookFor_53 rfl (lv_at hl 4 rfl) ?_
    refine r_ldi (f := (B 13)) (j := n9) hx hb hE hP 13 (ma_13 G a _) rfl (by omega) (by decide) dX12_lookFor_54 ?_
    rcases Fs2.kidO (kk := 36) (s := 2) hF hn9 hkd (by decide) (by decide) (by decide) (by decide) (by omega) with e201 | ⟨c193, e194, h195, hp196, h197, hc198, hh199, hg200⟩
    · refine lv_topi (fun x202 e203 => ?_)
      obtain rfl : x202 = (-1) := e203.trans e201
      refine lv_iconst (v := (-1)) hx hb dX12_lookFor_55 (by decide) ?_
      refine lv_icmp_eq (tgt := 90) hx hb dX12_lookFor_56 (by decide) (fun c204 => ?_) (fun c204 => absurd c204 (by decide))
      have hP : va_P G.1 pCl (mW G h0 a (upd (upd (upd (upd (upd (upd (upd (upd (upd (upd (upd (upd (upd F 15 (nI fa2)) 16 pl2) 44 (nI fd)) 49 (nI md)) 73 (nI sc2)) 74 (nI k9)) 75 (nI rs)) 76 (nI il)) 77 dn2) 78 wt2) 79 wf2) 80 ab2) 81 ac2) (updA (updA (updA (updA (updA B 14 nc2) 17 ty2) 18 mn2) 48 vn2) 49 vt2)) _ := hP
      have hD : va_D A (mW G h0 a (upd (upd (upd (upd (upd (upd (upd (upd (upd (upd (upd (upd (upd F 15 (nI fa2)) 16 pl2) 44 (nI fd)) 49 (nI md)) 73 (nI sc2)) 74 (nI k9)) 75 (nI rs)) 76 (nI il)) 77 dn2) 78 wt2) 79 wf2) 80 ab2) 81 ac2) (updA (updA (updA (updA (updA B 14 nc2) 17 ty2) 18 mn2) 48 vn2) 49 vt2)) := mW_D hD
      exact cut_g fa2 pl2 dn2 wt2 wf2 (-1) ty2 mn2 _ _ _ (by omega) (by omega) hch2 hmn2 hown2 (fun e => hs1 (by omega)) (fun _ => slP.none (by decide) e201) (fun _ c hc q => absurd (e201.symm.trans q).symm (nI_m1 (by omega))) (fun c hc pc h1 h2 => hmc2 c hc pc h1) hP hD hS (lv_sub hl [0, 1, 2, 3, 4, 5] rfl)
    · refine lv_topi (fun x205 e206 => ?_)
      obtain rfl : x205 = nI c193 := e206.trans e194
      refine lv_iconst (v := (-1)) hx hb dX12_lookFor_55 (by decide) ?_
      refine lv_icmp_eq (tgt := 90) hx hb dX12_lookFor_56 (by decide) (fun c207 => absurd c207 (nI_m1 (by omega))) (fun c207 => ?_)
      refine lv_aload_n hx hb dX12_lookFor_59 rfl (lv_at hl 5 rfl) ?_
      refine r_get (v := .int (nI fa2)) hx hb hown hq hE hP 15 350 tFX12_15 (by decide) pw_1594 rfl dX12_lookFor_60 ?_
      refine lv_if_ne (tgt := 90) hx hb dX12_lookFor_63 (by decide) (fun c208 => ?_) (fun c208 => ?_)
      · have n209 : ¬ (fa2 = 0) := fun h9 => c208 ((nI_eq (a := fa2) (b := 0) (by omega) (by omega)).mpr h9)
        have hP : va_P G.1 pCl (mW G h0 a (upd (upd (upd (upd (upd (upd (upd (upd (upd (upd (upd (upd (upd F 15 (nI fa2)) 16 pl2) 44 (nI fd)) 49 (nI md)) 73 (nI sc2)) 74 (nI k9)) 75 (nI rs)) 76 (nI il)) 77 dn2) 78 wt2) 79 wf2) 80 ab2) 81 ac2) (updA (updA (updA (updA (updA B 14 nc2) 17 ty2) 18 mn2) 48 vn2) 49 vt2)) _ := hP
        have hD : va_D A (mW G h0 a (upd (upd (upd (upd (upd (upd (upd (upd (upd (upd (upd (upd (upd F 15 (nI fa2)) 16 pl2) 44 (nI fd)) 49 (nI md)) 73 (nI sc2)) 74 (nI k9)) 75 (nI rs)) 76 (nI il)) 77 dn2) 78 wt2) 79 wf2) 80 ab2) 81 ac2) (updA (updA (updA (updA (updA B 14 nc2) 17 ty2) 18 mn2) 48 vn2) 49 vt2)) := mW_D hD
        exact cut_g fa2 pl2 dn2 wt2 wf2 (-1) ty2 mn2 _ _ _ (by omega) (by omega) hch2 hmn2 hown2 (fun e => hs1 (by omega)) (fun e => absurd e (by omega)) (fun e => absurd e (by omega)) (fun c hc pc h1 h2 => hmc2 c hc pc h1) hP hD hS (lv_sub hl [0, 1, 2, 3, 4, 5] rfl)
      · have n210 : fa2 = 0 := (nI_eq (a := fa2) (b := 0) (by omega) (by omega)).mp c208
        obtain ⟨hz1, hz2⟩ := hsc2 (by omega)
        have hemk := En.mk3 (sc := sc2) (il := il) (e := (forE B n9 (sc, il, ev))) hz1 (forE_il (X := B) (n := n9) (e := (sc, il, ev))).symm
        have hlmk := lup_mk (sc := sc2) (il := il) (e := (forE B n9 (sc, il, ev))) hz1 (forE_il (X := B) (n := n9) (e := (sc, il, ev))).symm
        refine lv_aload_n hx hb dX12_lookFor_66 rfl (lv_at hl 5 rfl) ?_
        refine lv_aload_n hx hb dX12_lookFor_67 rfl (lv_at hl 5 rfl) ?_
        refine r_get (v := .ref (a 13)) hx hb hown hq hE hP 21 50 tFX12_21 (by decide) pw_1443 rfl dX12_lookFor_68 ?_
        refine lv_iload_n hx hb dX12_lookFor_71 rfl (lv_at hl 4 rfl) ?_
        refine r_ldi (f := (B 13)) (j := n9) hx hb hE hP 13 (ma_13 G a _) rfl (by omega) (by decide) dX12_lookFor_72 ?_
        refine lv_topi (fun x211 e212 => ?_)
        obtain rfl : x211 = nI c193 := e212.trans e194
        have hP : va_P G.1 pCl (mW G h0 a (upd (upd (upd (upd (upd (upd (upd (upd (upd (upd (upd (upd (upd (upd (upd (upd (upd (upd (upd (upd (upd F 15 (nI fa2)) 16 pl2) 44 (nI fd)) 49 (nI md)) 73 (nI sc2)) 74 (nI k9)) 75 (nI rs)) 76 (nI il)) 77 dn2) 78 wt2) 79 wf2) 80 ab2) 81 ac2) 15 (nI fa2)) 44 (nI fd)) 49 (nI md)) 73 (nI sc2)) 74 (nI k9)) 77 dn2) 78 wt2) 79 wf2) (updA (updA (updA (updA (updA B 14 nc2) 17 ty2) 18 mn2) 48 vn2) 49 vt2)) _ := mW_to (F := F) (l1 := [(15, (nI fa2)), (16, pl2), (44, (nI fd)), (49, (nI md)), (73, (nI sc2)), (74, (nI k9)), (75, (nI rs)), (76, (nI il)), (77, dn2), (78, wt2), (79, wf2), (80, ab2), (81, ac2)]) (l2 := [(15, (nI fa2)), (16, pl2), (44, (nI fd)), (49, (nI md)), (73, (nI sc2)), (74, (nI k9)), (75, (nI rs)), (76, (nI il)), (77, dn2), (78, wt2), (79, wf2), (80, ab2), (81, ac2), (15, (nI fa2)), (44, (nI fd)), (49, (nI md)), (73, (nI sc2)), (74, (nI k9)), (77, dn2), (78, wt2), (79, wf2)]) (V := [(nI fa2), pl2, (nI fd), (nI md), (nI sc2), (nI k9), (nI rs), (nI il), dn2, wt2, wf2, ab2, ac2, (nI fa2), pl2, (nI fd), (nI md), (nI sc2), (nI k9), (nI rs), (nI il), dn2, wt2, wf2, ab2, ac2, (nI fa2), (nI fd), (nI md), (nI sc2), (nI k9), dn2, wt2, wf2]) rfl rfl rfl hP
        have hD : va_D A (mW G h0 a (upd (upd (upd (upd (upd (upd (upd (upd (upd (upd (upd (upd (upd (upd (upd (upd (upd (upd (upd (upd (upd F 15 (nI fa2)) 16 pl2) 44 (nI fd)) 49 (nI md)) 73 (nI sc2)) 74 (nI k9)) 75 (nI rs)) 76 (nI il)) 77 dn2) 78 wt2) 79 wf2) 80 ab2) 81 ac2) 15 (nI fa2)) 44 (nI fd)) 49 (nI md)) 73 (nI sc2)) 74 (nI k9)) 77 dn2) 78 wt2) 79 wf2) (updA (updA (updA (updA (updA B 14 nc2) 17 ty2) 18 mn2) 48 vn2) 49 vt2)) := mW_D hD
        refine pc_V0 (G := G) (As := [.int (nI c193)]) (rest := []) hx hb hml hown hq hE hX pX0_al hP hD hS hA hl.1 (L_condition l G h0 a (upd (upd (upd (upd (upd (upd (upd (upd (upd (upd (upd (upd (upd F 15 (nI fa2)) 16 pl2) 44 (nI fd)) 49 (nI md)) 73 (nI sc2)) 74 (nI k9)) 75 (nI rs)) 76 (nI il)) 77 dn2) 78 wt2) 79 wf2) 80 ab2) 81 ac2) B c193 (z9 - 1) fa2 sc2 k9 nd T nm wr lz dc fd md pr bk gh dn2 wt2 wf2 nc2 ty2 mn2 vn2 vt2 hst hnm h195 (by omega) (by omega) (by omega) hk9 hnc2 hmn2 (fun i h => (hz2 i h).2) (show kcl 1 _ = true from hc198)) (gV pw_1881 pw_1882 pw_1883 pw_1523 pw_1867) hV_X12_condition 0 9 rfl rfl rfl rfl (Nat.le_of_ble_eq_true rfl) dX12_lookFor_73 ⟨Nat.le_of_ble_eq_true rfl, Nat.le_of_ble_eq_true rfl⟩ ⟨(by show (4 * (z9 - 1) + 11) + 1 ≤ (4 * z9 + 13); omega), (by show 8 + (3 + 11) + (160 * (z9 - 1) + 1440) ≤ (160 * z9 + 1660); omega)⟩ (fun v215 u213 H locs hw214 hP hD hS => ?_)
        obtain ⟨fa216, pl217, dn218, wt219, wf220, ty221, mn222⟩ := u213
        obtain ⟨hw214, h223, h224, h225, h226, h227⟩ := hw214
        replace h223 : fa2 ≤ fa216 := h223
        replace h224 : fa216 ≤ 15 := h224
        replace h225 : ChE B nd c193 ty2 ty221 mn2 mn222 := h225
        replace h226 : mnN B nd mn222 := h226
        replace h227 : If (fa216 = 0) (Typ B dc fd md nd ty221 mn222 vt2 sc2 k9 c193 ∧ ty221 c193 = 2) := h227
        obtain rfl : v215 = none := hw214
        have hP : va_P G.1 pCl (mW G h0 a (upd (upd (upd (upd (upd (upd (upd (upd (upd (upd (upd (upd (upd F 15 (nI fa216)) 16 pl217) 44 (nI fd)) 49 (nI md)) 73 (nI sc2)) 74 (nI k9)) 75 (nI rs)) 76 (nI il)) 77 dn218) 78 wt219) 79 wf220) 80 ab2) 81 ac2) (updA (updA (updA (updA (updA B 14 nc2) 17 ty221) 18 mn222) 48 vn2) 49 vt2)) _ := mW_to (F := F) (l1 := [(15, (nI fa2)), (16, pl2), (44, (nI fd)), (49, (nI md)), (73, (nI sc2)), (74, (nI k9)), (75, (nI rs)), (76, (nI il)), (77, dn2), (78, wt2), (79, wf2), (80, ab2), (81, ac2), (15, (nI fa216)), (16, pl217), (44, (nI fd)), (49, (nI md)), (73, (nI sc2)), (74, (nI k9)), (77, dn218), (78, wt219), (79, wf220)]) (l2 := [(15, (nI fa216)), (16, pl217), (44, (nI fd)), (49, (nI md)), (73, (nI sc2)), (74, (nI k9)), (75, (nI rs)), (76, (nI il)), (77, dn218), (78, wt219), (79, wf220), (80, ab2), (81, ac2)]) (V := [(nI fa216), pl217, (nI fd), (nI md), (nI sc2), (nI k9), (nI rs), (nI il), dn218, wt219, wf220, ab2, ac2, (nI fa216), pl217, (nI fd), (nI md), (nI sc2), (nI k9), dn218, wt219, wf220, (nI fa216), pl217, (nI fd), (nI md), (nI sc2), (nI k9), (nI rs), (nI il), dn218, wt219, wf220, ab2, ac2]) rfl rfl rfl hP
        have hD : va_D A (mW G h0 a (upd (upd (upd (upd (upd (upd (upd (upd (upd (upd (upd (upd (upd F 15 (nI fa216)) 16 pl217) 44 (nI fd)) 49 (nI md)) 73 (nI sc2)) 74 (nI k9)) 75 (nI rs)) 76 (nI il)) 77 dn218) 78 wt219) 79 wf220) 80 ab2) 81 ac2) (updA (updA (updA (updA (updA B 14 nc2) 17 ty221) 18 mn222) 48 vn2) 49 vt2)) := mW_D hD
        refine W.widen (k := 0) (n := 0) (Nat.le_of_ble_eq_true rfl) (Nat.le_of_ble_eq_true rfl) ?_
        refine W.eq (g2 := F0 m 76 ls []) rfl ?_
        have hch228 : ChS B nd n9 ty ty221 mn mn222 nc nc2 := (ChS.trans hch2 (ChS.kid (ChS.ofE (nc := nc2) h225) (by omega) hp196))
        have hsl229 : If (fa2 = 0) (slP B n9 (sc, il, ev) (fun c e9 => TyS B dc fd md nd ty221 mn222 nc2 k9 rs c e9) 36 1) := (fun e => slP.beside (kk := 36) (s := 1) hF (by omega) hn9 hkd (by decide) (by decide) (by decide) h195 hp196 hg200 (by decide) (ChS.ofE (nc := nc2) h225) (hs1 e))
        have ho230 : mn222 n9 = nI sc := ((ChS.own hF (by omega) hn9 h195 hp196 (ChS.ofE (nc := nc2) h225)).1.trans hown2)
        have hsl231 : If (fa216 = 0) (slP B n9 (sc, il, ev) (fun c e9 => TyS B dc fd md nd ty221 mn222 nc2 k9 rs c e9) 36 2) := (fun e => slP.one (by decide) (by omega) e194 (by have z := (TyS.ofTyp (nc := nc2) (rs := rs) (e := (sc2, il, (forE B n9 (sc, il, ev)).2.2)) hF (by omega) h195 (show kcl 1 _ = true from hc198) (h227 e).1 (fun i h => (hz2 i h).1)); rw [hemk] at z; exact z))
        refine lv_aload_n hx hb dX12_lookFor_76 rfl (lv_at hl 5 rfl) ?_
        refine r_get (v := .int wf220) hx hb hown hq hE hP 79 554 tFX12_79 (by decide) pw_1806 rfl dX12_lookFor_77 ?_
        refine lv_istore (lv' := [(5, .int wf220), (4, .int ac), (3, .int ab), (2, .int (nI sc)), (1, .int (nI n9)), (0, .ref h0)]) hx hb dX12_lookFor_80 hl (by decide) rfl (fun ls hl => ?_)
        refine lv_aload_n hx hb dX12_lookFor_82 rfl (lv_at hl 5 rfl) ?_
        refine lv_aload_n hx hb dX12_lookFor_83 rfl (lv_at hl 5 rfl) ?_
        refine r_get (v := .int wt219) hx hb hown hq hE hP 78 551 tFX12_78 (by decide) pw_1805 rfl dX12_lookFor_84 ?_
        refine r_put (v := wt219) (ty := .int) hx hb hown hq hE hP hD hS 77 544 tFX12_77 (by decide) pw_1796 (by decide) rfl rfl (ms_77 a _ _) dX12_lookFor_87 (fun H locs hP hD hS => ?_)
        have hP : va_P G.1 pCl (mW G h0 a (upd (upd (upd (upd (upd (upd (upd (upd (upd (upd (upd (upd (upd F 15 (nI fa216)) 16 pl217) 44 (nI fd)) 49 (nI md)) 73 (nI sc2)) 74 (nI k9)) 75 (nI rs)) 76 (nI il)) 77 wt219) 78 wt219) 79 wf220) 80 ab2) 81 ac2) (updA (updA (updA (updA (updA B 14 nc2) 17 ty221) 18 mn222) 48 vn2) 49 vt2)) _ := mW_to (F := F) (l1 := [(15, (nI fa216)), (16, pl217), (44, (nI fd)), (49, (nI md)), (73, (nI sc2)), (74, (nI k9)), (75, (nI rs)), (76, (nI il)), (77, dn218), (78, wt219), (79, wf220), (80, ab2), (81, ac2), (77, wt219)]) (l2 := [(15, (nI fa216)), (16, pl217), (44, (nI fd)), (49, (nI md)), (73, (nI sc2)), (74, (nI k9)), (75, (nI rs)), (76, (nI il)), (77, wt219), (78, wt219), (79, wf220), (80, ab2), (81, ac2)]) (V := [(nI fa216), pl217, (nI fd), (nI md), (nI sc2), (nI k9), (nI rs), (nI il), wt219, wt219, wf220, ab2, ac2, wt219, (nI fa216), pl217, (nI fd), (nI md), (nI sc2), (nI k9), (nI rs), (nI il), wt219, wt219, wf220, ab2, ac2]) rfl rfl rfl hP
        have hD : va_D A (mW G h0 a (upd (upd (upd (upd (upd (upd (upd (upd (upd (upd (upd (upd (upd F 15 (nI fa216)) 16 pl217) 44 (nI fd)) 49 (nI md)) 73 (nI sc2)) 74 (nI k9)) 75 (nI rs)) 76 (nI il)) 77 wt219) 78 wt219) 79 wf220) 80 ab2) 81 ac2) (updA (updA (updA (updA (updA B 14 nc2) 17 ty221) 18 mn222) 48 vn2) 49 vt2)) := mW_D hD
        exact cut_g fa216 pl217 wt219 wt219 wf220 wf220 ty221 mn222 _ _ _ (by omega) (by omega) hch228 h226 ho230 (fun e => hsl229 (by omega)) hsl231 (fun e c hc q => by have z : c = c193 := (nI_eq (by omega) (by omega)).mp (q.symm.trans e194); rw [z]; exact (h227 (by omega)).2) (fun c hc pc h1 h2 => mnC.beside hF (by omega) hn9 (hmc2 c hc pc h1) hc h195 pc hp196 (fun e => h2 (by rw [e]; exact hg200)) (ChS.ofE (nc := nc2) h225)) hP hD hS (lv_sub hl [0, 1, 2, 3, 4, 5] rfl)
  refine lv_aload_n hx hb dX12_lookFor_26 rfl (lv_at hl 3 rfl) ?_
  refine r_get (v := .ref (a 12)) hx hb hown hq hE hP 20 47 tFX12_20 (by decide) pw_1442 rfl dX12_lookFor_27 ?_
  refine lv_iload_n hx hb dX12_lookFor_30 rfl (lv_at hl 4 rfl) ?_
  refine r_ldi (f := (B 12)) (j := n9) hx hb hE hP 12 (ma_12 G a _) rfl (by omega) (by decide) dX12_lookFor_31 ?_
  rcases Fs2.kidO (kk := 36) (s := 1) hF hn9 hkd (by decide) (by decide) (by decide) (by decide) (by omega) with e240 | ⟨c232, e233, h234, hp235, h236, hc237, hh238, hg239⟩
  · refine lv_topi (fun x241 e242 => ?_)
    obtain rfl : x241 = (-1) := e242.trans e240
    refine lv_iconst (v := (-1)) hx hb dX12_lookFor_32 (by decide) ?_
    refine lv_icmp_eq (tgt := 46) hx hb dX12_lookFor_33 (by decide) (fun c243 => ?_) (fun c243 => absurd c243 (by decide))
    have hP : va_P G.1 pCl (mW G h0 a (upd (upd (upd (upd (upd (upd (upd (upd (upd (upd (upd (upd (upd F 15 (nI fa)) 16 (F 16)) 44 (nI fd)) 49 (nI md)) 73 (nI sc)) 74 (nI k9)) 75 (nI rs)) 76 (nI il)) 77 dn) 78 wt) 79 wf) 80 ab) 81 ac) (updA (updA (updA (updA (updA B 14 nc) 17 ty) 18 (upd mn n9 (nI sc))) 48 vn) 49 vt)) _ := mW_to (F := F) (l1 := [(15, (nI fa)), (44, (nI fd)), (49, (nI md)), (73, (nI sc)), (74, (nI k9)), (75, (nI rs)), (76, (nI il)), (77, dn), (78, wt), (79, wf), (80, ab), (81, ac)]) (l2 := [(15, (nI fa)), (16, (F 16)), (44, (nI fd)), (49, (nI md)), (73, (nI sc)), (74, (nI k9)), (75, (nI rs)), (76, (nI il)), (77, dn), (78, wt), (79, wf), (80, ab), (81, ac)]) (V := [(nI fa), (nI fd), (nI md), (nI sc), (nI k9), (nI rs), (nI il), dn, wt, wf, ab, ac, (nI fa), (F 16), (nI fd), (nI md), (nI sc), (nI k9), (nI rs), (nI il), dn, wt, wf, ab, ac]) rfl rfl (show (updA (updA (updA (updA (updA (updA B 14 nc) 17 ty) 18 mn) 48 vn) 49 vt) 18 (upd mn n9 (nI sc))) = (updA (updA (updA (updA (updA B 14 nc) 17 ty) 18 (upd mn n9 (nI sc))) 48 vn) 49 vt) from updsA_eq2 (F := B) (l1 := [(14, nc), (17, ty), (18, mn), (48, vn), (49, vt), (18, (upd mn n9 (nI sc)))]) (l2 := [(14, nc), (17, ty), (18, (upd mn n9 (nI sc))), (48, vn), (49, vt)]) (V := [nc, ty, (upd mn n9 (nI sc)), vn, vt, (upd mn n9 (nI sc)), nc, ty, (upd mn n9 (nI sc)), vn, vt]) rfl rfl) hP
    have hD : va_D A (mW G h0 a (upd (upd (upd (upd (upd (upd (upd (upd (upd (upd (upd (upd (upd F 15 (nI fa)) 16 (F 16)) 44 (nI fd)) 49 (nI md)) 73 (nI sc)) 74 (nI k9)) 75 (nI rs)) 76 (nI il)) 77 dn) 78 wt) 79 wf) 80 ab) 81 ac) (updA (updA (updA (updA (updA B 14 nc) 17 ty) 18 (upd mn n9 (nI sc))) 48 vn) 49 vt)) := mW_D hD
    exact cut_f fa sc (F 16) dn wt wf ab ac nc ty (upd mn n9 (nI sc)) vn vt _ _ _ (by omega) (by omega) (by omega) (by omega) hch1 hmn2 hnc (fun i h => rfl) upd_eq (fun _ => slP.none (by decide) e240) (fun _ => by rw [forE_1 e240]; exact ⟨rfl, fun i h => ⟨hve i h, hvt i h⟩⟩) (fun c hc pc hg => (mnC.own hF (by omega) hn9 (mnC.kid hmc (by omega) pc) hc pc)) hP hD hS (lv_sub hl [0, 1, 2, 4, 3] rfl)
  · refine lv_topi (fun x244 e245 => ?_)
    obtain rfl : x244 = nI c232 := e245.trans e233
    refine lv_iconst (v := (-1)) hx hb dX12_lookFor_32 (by decide) ?_
    refine lv_icmp_eq (tgt := 46) hx hb dX12_lookFor_33 (by decide) (fun c246 => absurd c246 (nI_m1 (by omega))) (fun c246 => ?_)
    refine lv_aload_n hx hb dX12_lookFor_36 rfl (lv_at hl 3 rfl) ?_
    refine lv_aload_n hx hb dX12_lookFor_37 rfl (lv_at hl 3 rfl) ?_
    refine r_get (v := .ref (a 12)) hx hb hown hq hE hP 20 47 tFX12_20 (by decide) pw_1442 rfl dX12_lookFor_38 ?_
    refine lv_iload_n hx hb dX12_lookFor_41 rfl (lv_at hl 4 rfl) ?_
    refine r_ldi (f := (B 12)) (j := n9) hx hb hE hP 12 (ma_12 G a _) rfl (by omega) (by decide) dX12_lookFor_42 ?_
    refine lv_topi (fun x247 e248 => ?_)
    obtain rfl : x247 = nI c232 := e248.trans e233
    have hP : va_P G.1 pCl (mW G h0 a (upd (upd (upd (upd (upd (upd (upd (upd (upd (upd (upd (upd (upd (upd (upd (upd (upd (upd (upd (upd (upd (upd (upd (upd F 15 (nI fa)) 44 (nI fd)) 49 (nI md)) 73 (nI sc)) 74 (nI k9)) 75 (nI rs)) 76 (nI il)) 77 dn) 78 wt) 79 wf) 80 ab) 81 ac) 15 (nI fa)) 44 (nI fd)) 49 (nI md)) 73 (nI sc)) 74 (nI k9)) 75 (nI rs)) 76 (nI il)) 77 dn) 78 wt) 79 wf) 80 ab) 81 ac) (updA (updA (updA (updA (updA B 14 nc) 17 ty) 18 (upd mn n9 (nI sc))) 48 vn) 49 vt)) _ := mW_to (F := F) (l1 := [(15, (nI fa)), (44, (nI fd)), (49, (nI md)), (73, (nI sc)), (74, (nI k9)), (75, (nI rs)), (76, (nI il)), (77, dn), (78, wt), (79, wf), (80, ab), (81, ac)]) (l2 := [(15, (nI fa)), (44, (nI fd)), (49, (nI md)), (73, (nI sc)), (74, (nI k9)), (75, (nI rs)), (76, (nI il)), (77, dn), (78, wt), (79, wf), (80, ab), (81, ac), (15, (nI fa)), (44, (nI fd)), (49, (nI md)), (73, (nI sc)), (74, (nI k9)), (75, (nI rs)), (76, (nI il)), (77, dn), (78, wt), (79, wf), (80, ab), (81, ac)]) (V := [(nI fa), (nI fd), (nI md), (nI sc), (nI k9), (nI rs), (nI il), dn, wt, wf, ab, ac, (nI fa), (nI fd), (nI md), (nI sc), (nI k9), (nI rs), (nI il), dn, wt, wf, ab, ac, (nI fa), (nI fd), (nI md), (nI sc), (nI k9), (nI rs), (nI il), dn, wt, wf, ab, ac]) rfl rfl (show (updA (updA (updA (updA (updA (updA B 14 nc) 17 ty) 18 mn) 48 vn) 49 vt) 18 (upd mn n9 (nI sc))) = (updA (updA (updA (updA (updA B 14 nc) 17 ty) 18 (upd mn n9 (nI sc))) 48 vn) 49 vt) from updsA_eq2 (F := B) (l1 := [(14, nc), (17, ty), (18, mn), (48, vn), (49, vt), (18, (upd mn n9 (nI sc)))]) (l2 := [(14, nc), (17, ty), (18, (upd mn n9 (nI sc))), (48, vn), (49, vt)]) (V := [nc, ty, (upd mn n9 (nI sc)), vn, vt, (upd mn n9 (nI sc)), nc, ty, (upd mn n9 (nI sc)), vn, vt]) rfl rfl) hP
    have hD : va_D A (mW G h0 a (upd (upd (upd (upd (upd (upd (upd (upd (upd (upd (upd (upd (upd (upd (upd (upd (upd (upd (upd (upd (upd (upd (upd (upd F 15 (nI fa)) 44 (nI fd)) 49 (nI md)) 73 (nI sc)) 74 (nI k9)) 75 (nI rs)) 76 (nI il)) 77 dn) 78 wt) 79 wf) 80 ab) 81 ac) 15 (nI fa)) 44 (nI fd)) 49 (nI md)) 73 (nI sc)) 74 (nI k9)) 75 (nI rs)) 76 (nI il)) 77 dn) 78 wt) 79 wf) 80 ab) 81 ac) (updA (updA (updA (updA (updA B 14 nc) 17 ty) 18 (upd mn n9 (nI sc))) 48 vn) 49 vt)) := mW_D hD
    refine pc_V0 (G := G) (As := [.int (nI c232)]) (rest := []) hx hb hml hown hq hE hX pX0_al hP hD hS hA hl.1 (ihS h0 a (upd (upd (upd (upd (upd (upd (upd (upd (upd (upd (upd (upd F 15 (nI fa)) 44 (nI fd)) 49 (nI md)) 73 (nI sc)) 74 (nI k9)) 75 (nI rs)) 76 (nI il)) 77 dn) 78 wt) 79 wf) 80 ab) 81 ac) B c232 fa sc il k9 rs nd T nm wr lz dc fd md pr bk gh dn wt wf ab ac nc ty (upd mn n9 (nI sc)) vn vt ev hst hnm h234 (by omega) (by omega) (by omega) hk9 hnc hmn2 (by omega) hrs (by omega) (mnC.own hF (by omega) hn9 (mnC.kid hmc (by omega) hp235) h234 hp235) hvt hve (kcl_14_7 hc237)) (gV pw_1874 pw_1875 pw_1876 pw_1523 pw_1884) hV_X12_lookStatement 0 9 rfl rfl rfl rfl (Nat.le_of_ble_eq_true rfl) dX12_lookFor_43 ⟨Nat.le_of_ble_eq_true rfl, Nat.le_of_ble_eq_true rfl⟩ ⟨(by show (4 * (z9 - 1) + 14) + 1 ≤ (4 * z9 + 13); omega), (by show 8 + (4 + 11) + (160 * (z9 - 1) + 1700) ≤ (160 * z9 + 1660); omega)⟩ (fun v251 u249 H locs hw250 hP hD hS => ?_)
    obtain ⟨fa252, sc253, pl254, dn255, wt256, wf257, ab258, ac259, nc260, ty261, mn262, vn263, vt264⟩ := u249
    obtain ⟨hw250, h265, h266, h267, h268, h269, h270, h271, h272, h273⟩ := hw250
    replace h265 : fa ≤ fa252 := h265
    replace h266 : fa252 ≤ 15 := h266
    replace h267 : sc ≤ sc253 := h267
    replace h268 : sc253 ≤ 30 := h268
    replace h269 : ChS B nd c232 ty ty261 (upd mn n9 (nI sc)) mn262 nc nc260 := h269
    replace h270 : mnN B nd mn262 := h270
    replace h271 : ∀ i : Nat, i < nd → ¬ (B) 9 i = 44 → nc260 i = (B) 14 i := h271
    replace h272 : ∀ i : Nat, i < sc → vt264 i = vt i := h272
    replace h273 : If (fa252 = 0) (TyS B dc fd md nd ty261 mn262 nc260 k9 rs c232 (sc, il, ev) ∧ sc253 = (aft B c232 (sc, il, ev)).1 ∧ ∀ i : Nat, i < sc253 → vt264 i = (aft B c232 (sc, il, ev)).2.2 i ∧ tyOK dc (vt264 i)) := h273
    obtain rfl : v251 = none := hw250
    have hP : va_P G.1 pCl (mW G h0 a (upd (upd (upd (upd (upd (upd (upd (upd (upd (upd (upd (upd (upd F 15 (nI fa252)) 16 pl254) 44 (nI fd)) 49 (nI md)) 73 (nI sc253)) 74 (nI k9)) 75 (nI rs)) 76 (nI il)) 77 dn255) 78 wt256) 79 wf257) 80 ab258) 81 ac259) (updA (updA (updA (updA (updA B 14 nc260) 17 ty261) 18 mn262) 48 vn263) 49 vt264)) _ := mW_to (F := F) (l1 := [(15, (nI fa)), (44, (nI fd)), (49, (nI md)), (73, (nI sc)), (74, (nI k9)), (75, (nI rs)), (76, (nI il)), (77, dn), (78, wt), (79, wf), (80, ab), (81, ac), (15, (nI fa252)), (16, pl254), (44, (nI fd)), (49, (nI md)), (73, (nI sc253)), (74, (nI k9)), (75, (nI rs)), (76, (nI il)), (77, dn255), (78, wt256), (79, wf257), (80, ab258), (81, ac259)]) (l2 := [(15, (nI fa252)), (16, pl254), (44, (nI fd)), (49, (nI md)), (73, (nI sc253)), (74, (nI k9)), (75, (nI rs)), (76, (nI il)), (77, dn255), (78, wt256), (79, wf257), (80, ab258), (81, ac259)]) (V := [(nI fa252), (nI fd), (nI md), (nI sc253), (nI k9), (nI rs), (nI il), dn255, wt256, wf257, ab258, ac259, (nI fa252), pl254, (nI fd), (nI md), (nI sc253), (nI k9), (nI rs), (nI il), dn255, wt256, wf257, ab258, ac259, (nI fa252), pl254, (nI fd), (nI md), (nI sc253), (nI k9), (nI rs), (nI il), dn255, wt256, wf257, ab258, ac259]) rfl rfl rfl hP
    have hD : va_D A (mW G h0 a (upd (upd (upd (upd (upd (upd (upd (upd (upd (upd (upd (upd (upd F 15 (nI fa252)) 16 pl254) 44 (nI fd)) 49 (nI md)) 73 (nI sc253)) 74 (nI k9)) 75 (nI rs)) 76 (nI il)) 77 dn255) 78 wt256) 79 wf257) 80 ab258) 81 ac259) (updA (updA (updA (updA (updA B 14 nc260) 17 ty261) 18 mn262) 48 vn263) 49 vt264)) := mW_D hD
    refine W.widen (k := 0) (n := 0) (Nat.le_of_ble_eq_true rfl) (Nat.le_of_ble_eq_true rfl) ?_
    refine W.eq (g2 := F0 m 46 ls []) rfl ?_
    have hch274 : ChS B nd n9 ty ty261 mn mn262 nc nc260 := (ChS.trans hch1 (ChS.kid h269 (by omega) hp235))
    have ho275 : mn262 n9 = nI sc := ((ChS.own hF (by omega) hn9 h234 hp235 h269).1.trans upd_eq)
    have hq8276 : ∀ i : Nat, i < sc → vt264 i = vt i := (fun i h => (h272 i (by omega)).trans ((fun i h => rfl) i h))
    have hvt277 : ∀ i : Nat, i < sc → tyOK dc (vt264 i) := (fun i h => by rw [h272 i h]; exact hvt i h)
    have hve278 : ∀ i : Nat, i < sc → vt264 i = ev i := (fun i h => (h272 i h).trans (hve i h))
    have hsl279 : If (fa252 = 0) (slP B n9 (sc, il, ev) (fun c e9 => TyS B dc fd md nd ty261 mn262 nc260 k9 rs c e9) 36 1) := (fun e => slP.one (by decide) (by omega) e233 (h273 e).1)
    have hP : va_P G.1 pCl (mW G h0 a (upd (upd (upd (upd (upd (upd (upd (upd (upd (upd (upd (upd (upd F 15 (nI fa252)) 16 pl254) 44 (nI fd)) 49 (nI md)) 73 (nI sc253)) 74 (nI k9)) 75 (nI rs)) 76 (nI il)) 77 dn255) 78 wt256) 79 wf257) 80 ab258) 81 ac259) (updA (updA (updA (updA (updA B 14 nc260) 17 ty261) 18 mn262) 48 vn263) 49 vt264)) _ := hP
    have hD : va_D A (mW G h0 a (upd (upd (upd (upd (upd (upd (upd (upd (upd (upd (upd (upd (upd F 15 (nI fa252)) 16 pl254) 44 (nI fd)) 49 (nI md)) 73 (nI sc253)) 74 (nI k9)) 75 (nI rs)) 76 (nI il)) 77 dn255) 78 wt256) 79 wf257) 80 ab258) 81 ac259) (updA (updA (updA (updA (updA B 14 nc260) 17 ty261) 18 mn262) 48 vn263) 49 vt264)) := mW_D hD
    exact cut_f fa252 sc253 pl254 dn255 wt256 wf257 ab258 ac259 nc260 ty261 mn262 vn263 vt264 _ _ _ (by omega) (by omega) (by omega) (by omega) hch274 h270 h271 hq8276 ho275 hsl279 (fun e => by rw [forE_2 e233 (by omega)]; exact (h273 e).2) (fun c hc pc hg => mnC.beside hF (by omega) hn9 (mnC.own hF (by omega) hn9 (mnC.kid hmc (by omega) pc) hc pc) hc h234 pc hp235 (fun e => hg (by rw [e]; exact hg239)) h269) hP hD hS (lv_sub hl [0, 1, 2, 4, 3] rfl)

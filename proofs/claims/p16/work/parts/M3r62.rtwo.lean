theorem SideP.nz {da : Nat → Int32} {x y : Nat} (h : SideP da x y) : 1 ≤ x ∧ 1 ≤ y := by
  unfold SideP at h; omega
theorem TyC.rg {dc x : Nat} (h : TyC dc x) (hd : dc ≤ 37) : x < 50 ∨ (1000 ≤ x ∧ x < 1050) ∨ 2000 ≤ x := by
  unfold TyC at h; omega
theorem SideP.fT {da : Nat → Int32} {dc x y : Nat} (h : SideP da x y) (hb : bitsM da) (hx : TyC dc x) (hy : TyC dc y) (hd : dc ≤ 37) (e : fitF da x y = 0) : Fit da (nI y) (nI x) ∧ Fit da (nI x) (nI x) := by
  have n := h.nz
  have b1 := TyC.le hx hd
  have b2 := TyC.le hy hd
  refine ⟨Fit.of ?_ b2 b1, Fit.of (fit_e (by omega) (by omega) rfl) b1 b1⟩
  rcases h with ⟨h1, h2⟩ | ⟨_, _, h3⟩
  · rw [fit_e (by omega) (by omega) h1] at e; exact absurd e (by decide)
  · exact (fit_bit hb (by omega) (by omega) (TyC.rg hy hd) (TyC.rg hx hd)).resolve_left (h3.resolve_left (fun q => q e))
theorem SideP.fF {da : Nat → Int32} {dc x y : Nat} (h : SideP da x y) (hb : bitsM da) (hx : TyC dc x) (hy : TyC dc y) (hd : dc ≤ 37) (e : ¬ fitF da x y = 0) : Fit da (nI x) (nI y) ∧ Fit da (nI y) (nI y) := by
  have n := h.nz
  have b1 := TyC.le hx hd
  have b2 := TyC.le hy hd
  exact ⟨Fit.of ((fit_bit hb (by omega) (by omega) (TyC.rg hx hd) (TyC.rg hy hd)).resolve_left e) b1 b2, Fit.of (fit_e (by omega) (by omega) rfl) b2 b2⟩
theorem dX12_two_0 : decode cX12_two 0 = .ok (.aload_n 0, 1) := by decide +kernel
theorem dX12_two_1 : decode cX12_two 1 = .ok (.getfield 16, 3) := by decide +kernel
theorem dX12_two_4 : decode cX12_two 4 = .ok (.aload_n 0, 1) := by decide +kernel
theorem dX12_two_5 : decode cX12_two 5 = .ok (.getfield 44, 3) := by decide +kernel
theorem dX12_two_8 : decode cX12_two 8 = .ok (.iload_n 1, 1) := by decide +kernel
theorem dX12_two_9 : decode cX12_two 9 = .ok (.iaload, 1) := by decide +kernel
theorem dX12_two_10 : decode cX12_two 10 = .ok (.iaload, 1) := by decide +kernel
theorem dX12_two_11 : decode cX12_two 11 = .ok (.istore_n 2, 1) := by decide +kernel
theorem dX12_two_12 : decode cX12_two 12 = .ok (.aload_n 0, 1) := by decide +kernel
theorem dX12_two_13 : decode cX12_two 13 = .ok (.aload_n 0, 1) := by decide +kernel
theorem dX12_two_14 : decode cX12_two 14 = .ok (.getfield 47, 3) := by decide +kernel
theorem dX12_two_17 : decode cX12_two 17 = .ok (.iload_n 1, 1) := by decide +kernel
theorem dX12_two_18 : decode cX12_two 18 = .ok (.iaload, 1) := by decide +kernel
theorem dX12_two_19 : decode cX12_two 19 = .ok (.invokevirtual 557, 3) := by decide +kernel
theorem dX12_two_22 : decode cX12_two 22 = .ok (.istore_n 3, 1) := by decide +kernel
theorem dX12_two_23 : decode cX12_two 23 = .ok (.iload_n 2, 1) := by decide +kernel
theorem dX12_two_24 : decode cX12_two 24 = .ok (.sipush 258, 3) := by decide +kernel
theorem dX12_two_27 : decode cX12_two 27 = .ok (.if_icmp .eq 10, 3) := by decide +kernel
theorem dX12_two_37 : decode cX12_two 37 = .ok (.aload_n 0, 1) := by decide +kernel
theorem dX12_two_38 : decode cX12_two 38 = .ok (.aload_n 0, 1) := by decide +kernel
theorem dX12_two_39 : decode cX12_two 39 = .ok (.getfield 50, 3) := by decide +kernel
theorem dX12_two_42 : decode cX12_two 42 = .ok (.iload_n 1, 1) := by decide +kernel
theorem dX12_two_43 : decode cX12_two 43 = .ok (.iaload, 1) := by decide +kernel
theorem dX12_two_44 : decode cX12_two 44 = .ok (.invokevirtual 557, 3) := by decide +kernel
theorem dX12_two_47 : decode cX12_two 47 = .ok (.istore 4, 2) := by decide +kernel
theorem dX12_two_49 : decode cX12_two 49 = .ok (.aload_n 0, 1) := by decide +kernel
theorem dX12_two_50 : decode cX12_two 50 = .ok (.aload_n 0, 1) := by decide +kernel
theorem dX12_two_51 : decode cX12_two 51 = .ok (.iload_n 3, 1) := by decide +kernel
theorem dX12_two_52 : decode cX12_two 52 = .ok (.iload 4, 2) := by decide +kernel
theorem dX12_two_54 : decode cX12_two 54 = .ok (.invokevirtual 603, 3) := by decide +kernel
theorem dX12_two_57 : decode cX12_two 57 = .ok (.bipush 11, 2) := by decide +kernel
theorem dX12_two_59 : decode cX12_two 59 = .ok (.aload_n 0, 1) := by decide +kernel
theorem dX12_two_60 : decode cX12_two 60 = .ok (.getfield 44, 3) := by decide +kernel
theorem dX12_two_63 : decode cX12_two 63 = .ok (.iload_n 1, 1) := by decide +kernel
theorem dX12_two_64 : decode cX12_two 64 = .ok (.iaload, 1) := by decide +kernel
theorem dX12_two_65 : decode cX12_two 65 = .ok (.invokevirtual 540, 3) := by decide +kernel
theorem dX12_two_68 : decode cX12_two 68 = .ok (.pop, 1) := by decide +kernel
theorem dX12_two_69 : decode cX12_two 69 = .ok (.aload_n 0, 1) := by decide +kernel
theorem dX12_two_70 : decode cX12_two 70 = .ok (.iconst 2, 1) := by decide +kernel
theorem dX12_two_71 : decode cX12_two 71 = .ok (.invokevirtual 560, 3) := by decide +kernel
theorem dX12_two_74 : decode cX12_two 74 = .ok (.ireturn, 1) := by decide +kernel
theorem dX12_two_30 : decode cX12_two 30 = .ok (.iload_n 2, 1) := by decide +kernel
theorem dX12_two_31 : decode cX12_two 31 = .ok (.sipush 259, 3) := by decide +kernel
theorem dX12_two_34 : decode cX12_two 34 = .ok (.if_icmp .ne 41, 3) := by decide +kernel
theorem dX12_two_75 : decode cX12_two 75 = .ok (.iload_n 2, 1) := by decide +kernel
theorem dX12_two_76 : decode cX12_two 76 = .ok (.bipush 38, 2) := by decide +kernel
theorem dX12_two_78 : decode cX12_two 78 = .ok (.if_icmp .eq 15, 3) := by decide +kernel
theorem dX12_two_93 : decode cX12_two 93 = .ok (.aload_n 0, 1) := by decide +kernel
theorem dX12_two_94 : decode cX12_two 94 = .ok (.iload_n 3, 1) := by decide +kernel
theorem dX12_two_95 : decode cX12_two 95 = .ok (.iconst 1, 1) := by decide +kernel
theorem dX12_two_96 : decode cX12_two 96 = .ok (.if_icmp .eq 8, 3) := by decide +kernel
theorem dX12_two_104 : decode cX12_two 104 = .ok (.iconst 1, 1) := by decide +kernel
theorem dX12_two_105 : decode cX12_two 105 = .ok (.goto 4, 3) := by decide +kernel
theorem dX12_two_109 : decode cX12_two 109 = .ok (.bipush 11, 2) := by decide +kernel
theorem dX12_two_111 : decode cX12_two 111 = .ok (.aload_n 0, 1) := by decide +kernel
theorem dX12_two_112 : decode cX12_two 112 = .ok (.getfield 41, 3) := by decide +kernel
theorem dX12_two_115 : decode cX12_two 115 = .ok (.aload_n 0, 1) := by decide +kernel
theorem dX12_two_116 : decode cX12_two 116 = .ok (.getfield 47, 3) := by decide +kernel
theorem dX12_two_119 : decode cX12_two 119 = .ok (.iload_n 1, 1) := by decide +kernel
theorem dX12_two_120 : decode cX12_two 120 = .ok (.iaload, 1) := by decide +kernel
theorem dX12_two_121 : decode cX12_two 121 = .ok (.iaload, 1) := by decide +kernel
theorem dX12_two_122 : decode cX12_two 122 = .ok (.invokevirtual 540, 3) := by decide +kernel
theorem dX12_two_125 : decode cX12_two 125 = .ok (.pop, 1) := by decide +kernel
theorem dX12_two_126 : decode cX12_two 126 = .ok (.aload_n 0, 1) := by decide +kernel
theorem dX12_two_127 : decode cX12_two 127 = .ok (.aload_n 0, 1) := by decide +kernel
theorem dX12_two_128 : decode cX12_two 128 = .ok (.getfield 50, 3) := by decide +kernel
theorem dX12_two_131 : decode cX12_two 131 = .ok (.iload_n 1, 1) := by decide +kernel
theorem dX12_two_132 : decode cX12_two 132 = .ok (.iaload, 1) := by decide +kernel
theorem dX12_two_133 : decode cX12_two 133 = .ok (.iload_n 3, 1) := by decide +kernel
theorem dX12_two_134 : decode cX12_two 134 = .ok (.invokevirtual 573, 3) := by decide +kernel
theorem dX12_two_137 : decode cX12_two 137 = .ok (.aload_n 0, 1) := by decide +kernel
theorem dX12_two_138 : decode cX12_two 138 = .ok (.iload_n 3, 1) := by decide +kernel
theorem dX12_two_139 : decode cX12_two 139 = .ok (.invokevirtual 560, 3) := by decide +kernel
theorem dX12_two_142 : decode cX12_two 142 = .ok (.ireturn, 1) := by decide +kernel
theorem dX12_two_99 : decode cX12_two 99 = .ok (.iload_n 3, 1) := by decide +kernel
theorem dX12_two_100 : decode cX12_two 100 = .ok (.iconst 2, 1) := by decide +kernel
theorem dX12_two_101 : decode cX12_two 101 = .ok (.if_icmp .ne 7, 3) := by decide +kernel
theorem dX12_two_108 : decode cX12_two 108 = .ok (.iconst 0, 1) := by decide +kernel
theorem dX12_two_81 : decode cX12_two 81 = .ok (.iload_n 2, 1) := by decide +kernel
theorem dX12_two_82 : decode cX12_two 82 = .ok (.bipush 124, 2) := by decide +kernel
theorem dX12_two_84 : decode cX12_two 84 = .ok (.if_icmp .eq 9, 3) := by decide +kernel
theorem dX12_two_87 : decode cX12_two 87 = .ok (.iload_n 2, 1) := by decide +kernel
theorem dX12_two_88 : decode cX12_two 88 = .ok (.bipush 94, 2) := by decide +kernel
theorem dX12_two_90 : decode cX12_two 90 = .ok (.if_icmp .ne 53, 3) := by decide +kernel
theorem dX12_two_143 : decode cX12_two 143 = .ok (.aload_n 0, 1) := by decide +kernel
theorem dX12_two_144 : decode cX12_two 144 = .ok (.iload_n 3, 1) := by decide +kernel
theorem dX12_two_145 : decode cX12_two 145 = .ok (.iconst 1, 1) := by decide +kernel
theorem dX12_two_146 : decode cX12_two 146 = .ok (.if_icmp .ne 7, 3) := by decide +kernel
theorem dX12_two_153 : decode cX12_two 153 = .ok (.iconst 0, 1) := by decide +kernel
theorem dX12_two_154 : decode cX12_two 154 = .ok (.bipush 11, 2) := by decide +kernel
theorem dX12_two_156 : decode cX12_two 156 = .ok (.aload_n 0, 1) := by decide +kernel
theorem dX12_two_157 : decode cX12_two 157 = .ok (.getfield 41, 3) := by decide +kernel
theorem dX12_two_160 : decode cX12_two 160 = .ok (.aload_n 0, 1) := by decide +kernel
theorem dX12_two_161 : decode cX12_two 161 = .ok (.getfield 47, 3) := by decide +kernel
theorem dX12_two_164 : decode cX12_two 164 = .ok (.iload_n 1, 1) := by decide +kernel
theorem dX12_two_165 : decode cX12_two 165 = .ok (.iaload, 1) := by decide +kernel
theorem dX12_two_166 : decode cX12_two 166 = .ok (.iaload, 1) := by decide +kernel
theorem dX12_two_167 : decode cX12_two 167 = .ok (.invokevirtual 540, 3) := by decide +kernel
theorem dX12_two_170 : decode cX12_two 170 = .ok (.pop, 1) := by decide +kernel
theorem dX12_two_171 : decode cX12_two 171 = .ok (.aload_n 0, 1) := by decide +kernel
theorem dX12_two_172 : decode cX12_two 172 = .ok (.aload_n 0, 1) := by decide +kernel
theorem dX12_two_173 : decode cX12_two 173 = .ok (.getfield 50, 3) := by decide +kernel
theorem dX12_two_176 : decode cX12_two 176 = .ok (.iload_n 1, 1) := by decide +kernel
theorem dX12_two_177 : decode cX12_two 177 = .ok (.iaload, 1) := by decide +kernel
theorem dX12_two_178 : decode cX12_two 178 = .ok (.iconst 1, 1) := by decide +kernel
theorem dX12_two_179 : decode cX12_two 179 = .ok (.invokevirtual 573, 3) := by decide +kernel
theorem dX12_two_182 : decode cX12_two 182 = .ok (.aload_n 0, 1) := by decide +kernel
theorem dX12_two_183 : decode cX12_two 183 = .ok (.iload_n 2, 1) := by decide +kernel
theorem dX12_two_184 : decode cX12_two 184 = .ok (.invokestatic 478, 3) := by decide +kernel
theorem dX12_two_187 : decode cX12_two 187 = .ok (.bipush 6, 2) := by decide +kernel
theorem dX12_two_189 : decode cX12_two 189 = .ok (.if_icmp .ne 7, 3) := by decide +kernel
theorem dX12_two_196 : decode cX12_two 196 = .ok (.iconst 1, 1) := by decide +kernel
theorem dX12_two_197 : decode cX12_two 197 = .ok (.invokevirtual 560, 3) := by decide +kernel
theorem dX12_two_200 : decode cX12_two 200 = .ok (.ireturn, 1) := by decide +kernel
theorem dX12_two_192 : decode cX12_two 192 = .ok (.iconst 2, 1) := by decide +kernel
theorem dX12_two_193 : decode cX12_two 193 = .ok (.goto 4, 3) := by decide +kernel
theorem dX12_two_149 : decode cX12_two 149 = .ok (.iconst 1, 1) := by decide +kernel
theorem dX12_two_150 : decode cX12_two 150 = .ok (.goto 4, 3) := by decide +kernel
theorem hV_X12_areSides : yX12_areSides.cls = RX12 ∧ yX12_areSides.cls ≠ "java/lang/invoke/MethodHandle" ∧ yX12_areSides.cls ≠ "java/lang/invoke/VarHandle" ∧ (parseMethodDescriptor yX12_areSides.desc).map (fun d => d.parameters.length) = some 2 := by decide +kernel
set_option maxHeartbeats 6000000 in
set_option maxRecDepth 100000 in
/-- two(n) -/
theorem L_two (l : Launch) (G : pT) (h0 : Nat) (a : Nat → Nat) (F : Nat → Int32) (B : Nat → Nat → Int32) (n9 : Nat) (z9 : Nat) (fa : Nat) (sc : Nat) (k9 : Nat) (nd : Nat) (T : Nat) (nm : Nat) (wr : Nat) (lz : Nat) (dc : Nat) (fd : Nat) (md : Nat) (pr : Nat) (bk : Nat) (gh : Nat → Nat → Nat) (dn : Int32) (wt : Int32) (wf : Int32) (nc : Nat → Int32) (ty : Nat → Int32) (mn : Nat → Int32) (vn : Nat → Int32) (vt : Nat → Int32) (hst : St B gh nd T nm wr lz dc fd md pr bk) (hnm : nd ≤ 12000 ∧ T ≤ 5000 ∧ wr ≤ 5000 ∧ 7 ≤ dc ∧ dc ≤ 37 ∧ fd ≤ 620 ∧ md ≤ 920 ∧ pr ≤ 5000) (hn9 : n9 < nd) (hz : gh 1 n9 < z9) (hfa : fa ≤ 15) (hsc : sc ≤ 30) (hk9 : 7 ≤ k9 ∧ k9 < dc) (hnc : ∀ i : Nat, i < nd → ¬ B 9 i = 44 → nc i = B 14 i) (hmn : mnN B nd mn) (hvt : ∀ i : Nat, i < sc → tyOK dc (vt i)) (hkd : B 9 n9 = nI 18) (ihL : Plook l G (z9 - 1)) (ihW : Pwants l G (z9 - 1)) : PM l G pX0 yX12_two cX12_two 5 (some .int) ({ frames := (4 * z9 + 9), cells := 0, slots := 0, locals := (160 * z9 + 1360) }) [.ref h0, .int (nI n9)] (mW G h0 a (upd (upd (upd (upd (upd (upd (upd (upd F 15 (nI fa)) 44 (nI fd)) 49 (nI md)) 73 (nI sc)) 74 (nI k9)) 77 dn) 78 wt) 79 wf) (updA (updA (updA (updA (updA B 14 nc) 17 ty) 18 mn) 48 vn) 49 vt)) (fun (v : Option Value) (u : Nat × Nat × Int32 × Int32 × Int32 × Int32 × (Nat → Int32) × (Nat → Int32)) => v = some (.int (nI u.1)) ∧ (fa ≤ u.2.1) ∧ (u.2.1 ≤ 15) ∧ (TyC dc u.1) ∧ (u.1 ≤ 2050) ∧ (ChE B nd n9 ty u.2.2.2.2.2.2.1 mn u.2.2.2.2.2.2.2) ∧ (mnN B nd u.2.2.2.2.2.2.2) ∧ (If (u.2.1 = 0) (Typ0 B dc fd md nd u.2.2.2.2.2.2.1 u.2.2.2.2.2.2.2 vt sc k9 n9 (nI u.1)))) (fun u => (mW G h0 a (upd (upd (upd (upd (upd (upd (upd (upd (upd F 15 (nI u.2.1)) 16 u.2.2.1) 44 (nI fd)) 49 (nI md)) 73 (nI sc)) 74 (nI k9)) 77 u.2.2.2.1) 78 u.2.2.2.2.1) 79 u.2.2.2.2.2.1) (updA (updA (updA (updA (updA B 14 nc) 17 u.2.2.2.2.2.2.1) 18 u.2.2.2.2.2.2.2) 48 vn) 49 vt))) := by
  intro sz
  refine Met.ofW (cc := cX12_two) (maxL := 5) (ret := (some .int)) (by decide) rfl ?_
  intro p e s m args below meth c s₁ B9 hml hv
  obtain ⟨rfl, hsz, hP, hD0, hE, hX⟩ := hv
  have hx := B9.exec
  have hb := B9.bytes
  have hr := B9.returns
  have hts := atoms_spec (ws := Cond.code yX12_two cX12_two 5 (some .int) :: pw) B9.pre
  have hq : ∀ w ∈ pw, w.before _ s = true := fun w h => hts w (List.mem_cons_of_mem _ h)
  have hown : s.vm.findClass RX12 = some m.cls := findClass_of_methodNamed B9.named
  have hlocks := B9.notSynchronized
  subst hsz
  have hD := hD0.self (sz := s.heap.size)
  have hA : ∀ q : Nat, s.heap.size ≤ q → va_A (mW G h0 a (upd (upd (upd (upd (upd (upd (upd (upd F 15 (nI fa)) 44 (nI fd)) 49 (nI md)) 73 (nI sc)) 74 (nI k9)) 77 dn) 78 wt) 79 wf) (updA (updA (updA (updA (updA B 14 nc) 17 ty) 18 mn) 48 vn) 49 vt)) s.heap.size q := fun q h => Or.inr h
  have hP : va_P G.1 pCl (mW G h0 a (upd (upd (upd (upd (upd (upd (upd (upd F 15 (nI fa)) 44 (nI fd)) 49 (nI md)) 73 (nI sc)) 74 (nI k9)) 77 dn) 78 wt) 79 wf) (updA (updA (updA (updA (updA B 14 nc) 17 ty) 18 mn) 48 vn) 49 vt)) s.heap := hP
  generalize va_A (mW G h0 a (upd (upd (upd (upd (upd (upd (upd (upd F 15 (nI fa)) 44 (nI fd)) 49 (nI md)) 73 (nI sc)) 74 (nI k9)) 77 dn) 78 wt) 79 wf) (updA (updA (updA (updA (updA B 14 nc) 17 ty) 18 mn) 48 vn) 49 vt)) s.heap.size = A at hD hE hA ⊢
  have hS : va_S A s.heap s.heap [] := va_S.rf
  have hl := lv_entry ([.ref h0, .int (nI n9)]) (n := 5) (Nat.le_of_ble_eq_true rfl)
  rw [lg_entry_eq]
  generalize (lg_sl ([.ref h0, .int (nI n9)]) ++ List.replicate (5 - (lg_sl ([.ref h0, .int (nI n9)])).length) Slot.unset).toArray = ls at hl ⊢
  have hl : lv_has ls 5 [(0, .ref h0), (1, .int (nI n9))] := hl
  have hF := hst.1
  have hPS := hst.2.1
  have hBI := hst.2.2.1
  have hRK := hst.2.2.2.1
  have hTY := hst.2.2.2.2.1
  have hNW := hst.2.2.2.2.2.1
  have hTK := hst.2.2.2.2.2.2
  refine lv_aload_n hx hb dX12_two_0 rfl (lv_at hl 0 rfl) ?_
  refine r_get (v := .ref (a 2)) hx hb hown hq hE hP 5 16 tFX12_5 (by decide) pw_1432 rfl dX12_two_1 ?_
  refine lv_aload_n hx hb dX12_two_4 rfl (lv_at hl 0 rfl) ?_
  refine r_get (v := .ref (a 11)) hx hb hown hq hE hP 19 44 tFX12_19 (by decide) pw_1441 rfl dX12_two_5 ?_
  refine lv_iload_n hx hb dX12_two_8 rfl (lv_at hl 1 rfl) ?_
  refine r_ldi (f := (B 11)) (j := n9) hx hb hE hP 11 (ma_11 G a _) rfl (by omega) (by decide) dX12_two_9 ?_
  obtain ⟨-, ⟨t1, e2, h3, -⟩, -⟩ := hF n9 hn9
  refine lv_topi (fun x4 e5 => ?_)
  obtain rfl : x4 = nI t1 := e5.trans e2
  refine r_ldi (f := (B 2)) (j := t1) hx hb hE hP 2 (ma_2 G a _) rfl (by omega) (by decide) dX12_two_10 ?_
  refine lv_istore_n (lv' := [(2, .int ((B 2) t1)), (0, .ref h0), (1, .int (nI n9))]) hx hb dX12_two_11 rfl hl (by decide) rfl (fun ls hl => ?_)
  refine lv_aload_n hx hb dX12_two_12 rfl (lv_at hl 1 rfl) ?_
  refine lv_aload_n hx hb dX12_two_13 rfl (lv_at hl 1 rfl) ?_
  refine r_get (v := .ref (a 12)) hx hb hown hq hE hP 20 47 tFX12_20 (by decide) pw_1442 rfl dX12_two_14 ?_
  refine lv_iload_n hx hb dX12_two_17 rfl (lv_at hl 2 rfl) ?_
  refine r_ldi (f := (B 12)) (j := n9) hx hb hE hP 12 (ma_12 G a _) rfl (by omega) (by decide) dX12_two_18 ?_
  obtain ⟨c6, e7, h8, hp9, h10, hc11, hh12, hg13⟩ := Fs2.kid (kk := 18) (s := 1) hF hn9 hkd (by decide) (by decide) (by decide) (by decide) (by omega)
  refine lv_topi (fun x14 e15 => ?_)
  obtain rfl : x14 = nI c6 := e15.trans e7
  have hP : va_P G.1 pCl (mW G h0 a (upd (upd (upd (upd (upd (upd (upd (upd (upd (upd (upd (upd (upd (upd (upd (upd F 15 (nI fa)) 44 (nI fd)) 49 (nI md)) 73 (nI sc)) 74 (nI k9)) 77 dn) 78 wt) 79 wf) 15 (nI fa)) 44 (nI fd)) 49 (nI md)) 73 (nI sc)) 74 (nI k9)) 77 dn) 78 wt) 79 wf) (updA (updA (updA (updA (updA B 14 nc) 17 ty) 18 mn) 48 vn) 49 vt)) _ := mW_to (F := F) (l1 := [(15, (nI fa)), (44, (nI fd)), (49, (nI md)), (73, (nI sc)), (74, (nI k9)), (77, dn), (78, wt), (79, wf)]) (l2 := [(15, (nI fa)), (44, (nI fd)), (49, (nI md)), (73, (nI sc)), (74, (nI k9)), (77, dn), (78, wt), (79, wf), (15, (nI fa)), (44, (nI fd)), (49, (nI md)), (73, (nI sc)), (74, (nI k9)), (77, dn), (78, wt), (79, wf)]) (V := [(nI fa), (nI fd), (nI md), (nI sc), (nI k9), dn, wt, wf, (nI fa), (nI fd), (nI md), (nI sc), (nI k9), dn, wt, wf, (nI fa), (nI fd), (nI md), (nI sc), (nI k9), dn, wt, wf]) rfl rfl rfl hP
  have hD : va_D A (mW G h0 a (upd (upd (upd (upd (upd (upd (upd (upd (upd (upd (upd (upd (upd (upd (upd (upd F 15 (nI fa)) 44 (nI fd)) 49 (nI md)) 73 (nI sc)) 74 (nI k9)) 77 dn) 78 wt) 79 wf) 15 (nI fa)) 44 (nI fd)) 49 (nI md)) 73 (nI sc)) 74 (nI k9)) 77 dn) 78 wt) 79 wf) (updA (updA (updA (updA (updA B 14 nc) 17 ty) 18 mn) 48 vn) 49 vt)) := mW_D hD
  refine pc_V0 (G := G) (As := [.int (nI c6)]) (rest := []) hx hb hml hown hq hE hX pX0_al hP hD hS hA hl.1 (ihL h0 a (upd (upd (upd (upd (upd (upd (upd (upd F 15 (nI fa)) 44 (nI fd)) 49 (nI md)) 73 (nI sc)) 74 (nI k9)) 77 dn) 78 wt) 79 wf) B c6 fa sc k9 nd T nm wr lz dc fd md pr bk gh dn wt wf nc ty mn vn vt hst hnm h8 (by omega) (by omega) (by omega) hk9 hnc hmn hvt (show kcl 1 _ = true from hc11)) (gV pw_1822 pw_1823 pw_1824 pw_1523 pw_1830) hV_X12_look 0 9 rfl rfl rfl rfl (Nat.le_of_ble_eq_true rfl) dX12_two_19 ⟨Nat.le_of_ble_eq_true rfl, Nat.le_of_ble_eq_true rfl⟩ ⟨(by show (4 * (z9 - 1) + 11) + 1 ≤ (4 * z9 + 9); omega), (by show 8 + (3 + 11) + (160 * (z9 - 1) + 1440) ≤ (160 * z9 + 1360); omega)⟩ (fun v18 u16 H locs hw17 hP hD hS => ?_)
  obtain ⟨r19, fa20, pl21, dn22, wt23, wf24, ty25, mn26⟩ := u16
  obtain ⟨hw17, h27, h28, h29, h30, h31, h32, h33, h34⟩ := hw17
  replace h27 : fa ≤ fa20 := h27
  replace h28 : fa20 ≤ 15 := h28
  replace h29 : TyC dc r19 := h29
  replace h30 : r19 ≤ 2050 := h30
  replace h31 : ChE B nd c6 ty ty25 mn mn26 := h31
  replace h32 : mnN B nd mn26 := h32
  replace h33 : If (fa20 = 0) (Typ B dc fd md nd ty25 mn26 vt sc k9 c6) := h33
  replace h34 : ty25 c6 = nI r19 := h34
  obtain rfl : v18 = some (.int (nI r19)) := hw17
  have hP : va_P G.1 pCl (mW G h0 a (upd (upd (upd (upd (upd (upd (upd (upd (upd F 15 (nI fa20)) 16 pl21) 44 (nI fd)) 49 (nI md)) 73 (nI sc)) 74 (nI k9)) 77 dn22) 78 wt23) 79 wf24) (updA (updA (updA (updA (updA B 14 nc) 17 ty25) 18 mn26) 48 vn) 49 vt)) _ := mW_to (F := F) (l1 := [(15, (nI fa)), (44, (nI fd)), (49, (nI md)), (73, (nI sc)), (74, (nI k9)), (77, dn), (78, wt), (79, wf), (15, (nI fa20)), (16, pl21), (44, (nI fd)), (49, (nI md)), (73, (nI sc)), (74, (nI k9)), (77, dn22), (78, wt23), (79, wf24)]) (l2 := [(15, (nI fa20)), (16, pl21), (44, (nI fd)), (49, (nI md)), (73, (nI sc)), (74, (nI k9)), (77, dn22), (78, wt23), (79, wf24)]) (V := [(nI fa20), (nI fd), (nI md), (nI sc), (nI k9), dn22, wt23, wf24, (nI fa20), pl21, (nI fd), (nI md), (nI sc), (nI k9), dn22, wt23, wf24, (nI fa20), pl21, (nI fd), (nI md), (nI sc), (nI k9), dn22, wt23, wf24]) rfl rfl rfl hP
  have hD : va_D A (mW G h0 a (upd (upd (upd (upd (upd (upd (upd (upd (upd F 15 (nI fa20)) 16 pl21) 44 (nI fd)) 49 (nI md)) 73 (nI sc)) 74 (nI k9)) 77 dn22) 78 wt23) 79 wf24) (updA (updA (updA (updA (updA B 14 nc) 17 ty25) 18 mn26) 48 vn) 49 vt)) := mW_D hD
  refine W.widen (k := 0) (n := 0) (Nat.le_of_ble_eq_true rfl) (Nat.le_of_ble_eq_true rfl) ?_
  refine W.eq (g2 := F0 m 22 ls [.int (nI r19)]) rfl ?_
  have hch35 : ChE B nd n9 ty ty25 mn mn26 := (ChE.trans ChE.rfl (ChE.kid h31 (by omega) hp9))
  refine lv_istore_n (lv' := [(3, .int (nI r19)), (2, .int ((B 2) t1)), (0, .ref h0), (1, .int (nI n9))]) hx hb dX12_two_22 rfl hl (by decide) rfl (fun ls hl => ?_)
  refine lv_iload_n hx hb dX12_two_23 rfl (lv_at hl 1 rfl) ?_
  refine lv_sipush (v := 258) hx hb dX12_two_24 (by decide) ?_
  refine lv_icmp_eq (tgt := 37) hx hb dX12_two_27 (by decide) (fun c36 => ?_) (fun c36 => ?_)
  · refine lv_aload_n hx hb dX12_two_37 rfl (lv_at hl 2 rfl) ?_
    refine lv_aload_n hx hb dX12_two_38 rfl (lv_at hl 2 rfl) ?_
    refine r_get (v := .ref (a 13)) hx hb hown hq hE hP 21 50 tFX12_21 (by decide) pw_1443 rfl dX12_two_39 ?_
    refine lv_iload_n hx hb dX12_two_42 rfl (lv_at hl 3 rfl) ?_
    refine r_ldi (f := (B 13)) (j := n9) hx hb hE hP 13 (ma_13 G a _) rfl (by omega) (by decide) dX12_two_43 ?_
    obtain ⟨c37, e38, h39, hp40, h41, hc42, hh43, hg44⟩ := Fs2.kid (kk := 18) (s := 2) hF hn9 hkd (by decide) (by decide) (by decide) (by decide) (by omega)
    refine lv_topi (fun x45 e46 => ?_)
    obtain rfl : x45 = nI c37 := e46.trans e38
    have hP : va_P G.1 pCl (mW G h0 a (upd (upd (upd (upd (upd (upd (upd (upd (upd (upd (upd (upd (upd (upd (upd (upd (upd F 15 (nI fa20)) 16 pl21) 44 (nI fd)) 49 (nI md)) 73 (nI sc)) 74 (nI k9)) 77 dn22) 78 wt23) 79 wf24) 15 (nI fa20)) 44 (nI fd)) 49 (nI md)) 73 (nI sc)) 74 (nI k9)) 77 dn22) 78 wt23) 79 wf24) (updA (updA (updA (updA (updA B 14 nc) 17 ty25) 18 mn26) 48 vn) 49 vt)) _ := mW_to (F := F) (l1 := [(15, (nI fa20)), (16, pl21), (44, (nI fd)), (49, (nI md)), (73, (nI sc)), (74, (nI k9)), (77, dn22), (78, wt23), (79, wf24)]) (l2 := [(15, (nI fa20)), (16, pl21), (44, (nI fd)), (49, (nI md)), (73, (nI sc)), (74, (nI k9)), (77, dn22), (78, wt23), (79, wf24), (15, (nI fa20)), (44, (nI fd)), (49, (nI md)), (73, (nI sc)), (74, (nI k9)), (77, dn22), (78, wt23), (79, wf24)]) (V := [(nI fa20), pl21, (nI fd), (nI md), (nI sc), (nI k9), dn22, wt23, wf24, (nI fa20), pl21, (nI fd), (nI md), (nI sc), (nI k9), dn22, wt23, wf24, (nI fa20), (nI fd), (nI md), (nI sc), (nI k9), dn22, wt23, wf24]) rfl rfl rfl hP
    have hD : va_D A (mW G h0 a (upd (upd (upd (upd (upd (upd (upd (upd (upd (upd (upd (upd (upd (upd (upd (upd (upd F 15 (nI fa20)) 16 pl21) 44 (nI fd)) 49 (nI md)) 73 (nI sc)) 74 (nI k9)) 77 dn22) 78 wt23) 79 wf24) 15 (nI fa20)) 44 (nI fd)) 49 (nI md)) 73 (nI sc)) 74 (nI k9)) 77 dn22) 78 wt23) 79 wf24) (updA (updA (updA (updA (updA B 14 nc) 17 ty25) 18 mn26) 48 vn) 49 vt)) := mW_D hD
    refine pc_V0 (G := G) (As := [.int (nI c37)]) (rest := []) hx hb hml hown hq hE hX pX0_al hP hD hS hA hl.1 (ihL h0 a (upd (upd (upd (upd (upd (upd (upd (upd (upd F 15 (nI fa20)) 16 pl21) 44 (nI fd)) 49 (nI md)) 73 (nI sc)) 74 (nI k9)) 77 dn22) 78 wt23) 79 wf24) B c37 fa20 sc k9 nd T nm wr lz dc fd md pr bk gh dn22 wt23 wf24 nc ty25 mn26 vn vt hst hnm h39 (by omega) (by omega) (by omega) hk9 hnc h32 hvt (show kcl 1 _ = true from hc42)) (gV pw_1822 pw_1823 pw_1824 pw_1523 pw_1830) hV_X12_look 0 9 rfl rfl rfl rfl (Nat.le_of_ble_eq_true rfl) dX12_two_44 ⟨Nat.le_of_ble_eq_true rfl, Nat.le_of_ble_eq_true rfl⟩ ⟨(by show (4 * (z9 - 1) + 11) + 1 ≤ (4 * z9 + 9); omega), (by show 8 + (3 + 11) + (160 * (z9 - 1) + 1440) ≤ (160 * z9 + 1360); omega)⟩ (fun v49 u47 H locs hw48 hP hD hS => ?_)
    obtain ⟨r50, fa51, pl52, dn53, wt54, wf55, ty56, mn57⟩ := u47
    obtain ⟨hw48, h58, h59, h60, h61, h62, h63, h64, h65⟩ := hw48
    replace h58 : fa20 ≤ fa51 := h58
    replace h59 : fa51 ≤ 15 := h59
    replace h60 : TyC dc r50 := h60
    replace h61 : r50 ≤ 2050 := h61
    replace h62 : ChE B nd c37 ty25 ty56 mn26 mn57 := h62
    replace h63 : mnN B nd mn57 := h63
    replace h64 : If (fa51 = 0) (Typ B dc fd md nd ty56 mn57 vt sc k9 c37) := h64
    replace h65 : ty56 c37 = nI r50 := h65
    obtain rfl : v49 = some (.int (nI r50)) := hw48
    have hP : va_P G.1 pCl (mW G h0 a (upd (upd (upd (upd (upd (upd (upd (upd (upd F 15 (nI fa51)) 16 pl52) 44 (nI fd)) 49 (nI md)) 73 (nI sc)) 74 (nI k9)) 77 dn53) 78 wt54) 79 wf55) (updA (updA (updA (updA (updA B 14 nc) 17 ty56) 18 mn57) 48 vn) 49 vt)) _ := mW_to (F := F) (l1 := [(15, (nI fa20)), (16, pl21), (44, (nI fd)), (49, (nI md)), (73, (nI sc)), (74, (nI k9)), (77, dn22), (78, wt23), (79, wf24), (15, (nI fa51)), (16, pl52), (44, (nI fd)), (49, (nI md)), (73, (nI sc)), (74, (nI k9)), (77, dn53), (78, wt54), (79, wf55)]) (l2 := [(15, (nI fa51)), (16, pl52), (44, (nI fd)), (49, (nI md)), (73, (nI sc)), (74, (nI k9)), (77, dn53), (78, wt54), (79, wf55)]) (V := [(nI fa51), pl52, (nI fd), (nI md), (nI sc), (nI k9), dn53, wt54, wf55, (nI fa51), pl52, (nI fd), (nI md), (nI sc), (nI k9), dn53, wt54, wf55, (nI fa51), pl52, (nI fd), (nI md), (nI sc), (nI k9), dn53, wt54, wf55]) rfl rfl rfl hP
    have hD : va_D A (mW G h0 a (upd (upd (upd (upd (upd (upd (upd (upd (upd F 15 (nI fa51)) 16 pl52) 44 (nI fd)) 49 (nI md)) 73 (nI sc)) 74 (nI k9)) 77 dn53) 78 wt54) 79 wf55) (updA (updA (updA (updA (updA B 14 nc) 17 ty56) 18 mn57) 48 vn) 49 vt)) := mW_D hD
    refine W.widen (k := 0) (n := 0) (Nat.le_of_ble_eq_true rfl) (Nat.le_of_ble_eq_true rfl) ?_
    refine W.eq (g2 := F0 m 47 ls [.int (nI r50)]) rfl ?_
    have hch66 : ChE B nd n9 ty ty56 mn mn57 := (ChE.trans hch35 (ChE.kid h62 (by omega) hp40))
    have hy67 : If (fa20 = 0) (Typ B dc fd md nd ty56 mn57 vt sc k9 c6) := (fun e => Typ.beside hF (by omega) hn9 (h33 e) h8 h39 hp9 hp40 (fun e => by have z := hg13; rw [e] at z; have := hg44; omega) h62)
    have ht68 : ty56 c6 = nI r19 := ((ChE.at hF (by omega) hn9 h8 h39 hp9 hp40 (fun e => by have z := hg13; rw [e] at z; have := hg44; omega) h62).trans h34)
    refine lv_istore (lv' := [(4, .int (nI r50)), (3, .int (nI r19)), (2, .int ((B 2) t1)), (0, .ref h0), (1, .int (nI n9))]) hx hb dX12_two_47 hl (by decide) rfl (fun ls hl => ?_)
    refine lv_aload_n hx hb dX12_two_49 rfl (lv_at hl 3 rfl) ?_
    refine lv_aload_n hx hb dX12_two_50 rfl (lv_at hl 3 rfl) ?_
    refine lv_iload_n hx hb dX12_two_51 rfl (lv_at hl 1 rfl) ?_
    refine lv_iload hx hb dX12_two_52 (lv_at hl 0 rfl) ?_
    have hP : va_P G.1 pCl (mW G h0 a (upd (upd (upd (upd (upd (upd (upd (upd (upd F 15 (nI fa51)) 16 pl52) 44 (nI fd)) 49 (nI md)) 73 (nI sc)) 74 (nI k9)) 77 dn53) 78 wt54) 79 wf55) (updA (updA (updA (updA (updA (updA B 14 nc) 17 ty56) 18 mn57) 48 vn) 49 vt) 31 (B 31))) _ := mW_to (F := F) (l1 := [(15, (nI fa51)), (16, pl52), (44, (nI fd)), (49, (nI md)), (73, (nI sc)), (74, (nI k9)), (77, dn53), (78, wt54), (79, wf55)]) (l2 := [(15, (nI fa51)), (16, pl52), (44, (nI fd)), (49, (nI md)), (73, (nI sc)), (74, (nI k9)), (77, dn53), (78, wt54), (79, wf55)]) (V := [(nI fa51), pl52, (nI fd), (nI md), (nI sc), (nI k9), dn53, wt54, wf55, (nI fa51), pl52, (nI fd), (nI md), (nI sc), (nI k9), dn53, wt54, wf55]) rfl rfl (show (updA (updA (updA (updA (updA B 14 nc) 17 ty56) 18 mn57) 48 vn) 49 vt) = (updA (updA (updA (updA (updA (updA B 14 nc) 17 ty56) 18 mn57) 48 vn) 49 vt) 31 (B 31)) from updsA_eq2 (F := B) (l1 := [(14, nc), (17, ty56), (18, mn57), (48, vn), (49, vt)]) (l2 := [(14, nc), (17, ty56), (18, mn57), (48, vn), (49, vt), (31, (B 31))]) (V := [nc, ty56, mn57, vn, vt, nc, ty56, mn57, vn, vt, (B 31)]) rfl rfl) hP
    have hD : va_D A (mW G h0 a (upd (upd (upd (upd (upd (upd (upd (upd (upd F 15 (nI fa51)) 16 pl52) 44 (nI fd)) 49 (nI md)) 73 (nI sc)) 74 (nI k9)) 77 dn53) 78 wt54) 79 wf55) (updA (updA (updA (updA (updA (updA B 14 nc) 17 ty56) 18 mn57) 48 vn) 49 vt) 31 (B 31))) := mW_D hD
    refine pc_V0 (G := G) (As := [.int (nI r19), .int (nI r50)]) (rest := [.ref h0]) hx hb hml hown hq hE hX pX0_al hP hD hS hA hl.1 (R_areSides l G h0 a (upd (upd (upd (upd (upd (upd (upd (upd (upd F 15 (nI fa51)) 16 pl52) 44 (nI fd)) 49 (nI md)) 73 (nI sc)) 74 (nI k9)) 77 dn53) 78 wt54) 79 wf55) (updA (updA (updA (updA (updA B 14 nc) 17 ty56) 18 mn57) 48 vn) 49 vt) r19 r50 dc (B 31) h29 h60 (by omega) hBI) (gV pw_1818 pw_1819 pw_1820 pw_1523 pw_1803) hV_X12_areSides 0 9 rfl rfl rfl rfl (Nat.le_of_ble_eq_true rfl) dX12_two_54 ⟨Nat.le_of_ble_eq_true rfl, Nat.le_of_ble_eq_true rfl⟩ ⟨(by show 5 + 1 ≤ (4 * z9 + 9); omega), (by show 8 + (3 + 11) + 126 ≤ (160 * z9 + 1360); omega)⟩ (fun v71 u69 H locs hw70 hP hD hS => ?_)
    obtain ⟨r72, rfl⟩ : ∃ z, z = u69 := ⟨_, rfl⟩
    obtain ⟨hw70, h73, h74⟩ := hw70
    replace h73 : r72 ≤ 1 := h73
    replace h74 : If (r72 = 1) (SideP (B 31) r19 r50) := h74
    obtain rfl : v71 = some (.int (nI r72)) := hw70
    have hP : va_P G.1 pCl (mW G h0 a (upd (upd (upd (upd (upd (upd (upd (upd (upd F 15 (nI fa51)) 16 pl52) 44 (nI fd)) 49 (nI md)) 73 (nI sc)) 74 (nI k9)) 77 dn53) 78 wt54) 79 wf55) (updA (updA (updA (updA (updA B 14 nc) 17 ty56) 18 mn57) 48 vn) 49 vt)) _ := mW_to (F := F) (l1 := [(15, (nI fa51)), (16, pl52), (44, (nI fd)), (49, (nI md)), (73, (nI sc)), (74, (nI k9)), (77, dn53), (78, wt54), (79, wf55)]) (l2 := [(15, (nI fa51)), (16, pl52), (44, (nI fd)), (49, (nI md)), (73, (nI sc)), (74, (nI k9)), (77, dn53), (78, wt54), (79, wf55)]) (V := [(nI fa51), pl52, (nI fd), (nI md), (nI sc), (nI k9), dn53, wt54, wf55, (nI fa51), pl52, (nI fd), (nI md), (nI sc), (nI k9), dn53, wt54, wf55]) rfl rfl (show (updA (updA (updA (updA (updA (updA B 14 nc) 17 ty56) 18 mn57) 48 vn) 49 vt) 31 (B 31)) = (updA (updA (updA (updA (updA B 14 nc) 17 ty56) 18 mn57) 48 vn) 49 vt) from updsA_eq2 (F := B) (l1 := [(14, nc), (17, ty56), (18, mn57), (48, vn), (49, vt), (31, (B 31))]) (l2 := [(14, nc), (17, ty56), (18, mn57), (48, vn), (49, vt)]) (V := [nc, ty56, mn57, vn, vt, (B 31), nc, ty56, mn57, vn, vt]) rfl rfl) hP
    have hD : va_D A (mW G h0 a (upd (upd (upd (upd (upd (upd (upd (upd (upd F 15 (nI fa51)) 16 pl52) 44 (nI fd)) 49 (nI md)) 73 (nI sc)) 74 (nI k9)) 77 dn53) 78 wt54) 79 wf55) (updA (updA (updA (updA (updA B 14 nc) 17 ty56) 18 mn57) 48 vn) 49 vt)) := mW_D hD
    refine W.widen (k := 0) (n := 0) (Nat.le_of_ble_eq_true rfl) (Nat.le_of_ble_eq_true rfl) ?_
    refine W.eq (g2 := F0 m 57 ls [.int (nI r72), .ref h0]) rfl ?_
    refine lv_bipush (v := 11) hx hb dX12_two_57 (by decide) ?_
    refine lv_aload_n hx hb dX12_two_59 rfl (lv_at hl 3 rfl) ?_
    refine r_get (v := .ref (a 11)) hx hb hown hq hE hP 19 44 tFX12_19 (by decide) pw_1441 rfl dX12_two_60 ?_
    refine lv_iload_n hx hb dX12_two_63 rfl (lv_at hl 4 rfl) ?_
    refine r_ldi (f := (B 11)) (j := n9) hx hb hE hP 11 (ma_11 G a _) rfl (by omega) (by decide) dX12_two_64 ?_
    refine lv_topi (fun x75 e76 => ?_)
    obtain rfl : x75 = nI t1 := e76.trans e2
    have hP : va_P G.1 pCl (mW G h0 a (upd (upd (upd (upd (upd (upd (upd (upd (upd (upd F 15 (nI fa51)) 16 pl52) 44 (nI fd)) 49 (nI md)) 73 (nI sc)) 74 (nI k9)) 77 dn53) 78 wt54) 79 wf55) 15 (nI fa51)) (updA (updA (updA (updA (updA B 14 nc) 17 ty56) 18 mn57) 48 vn) 49 vt)) _ := mW_to (F := F) (l1 := [(15, (nI fa51)), (16, pl52), (44, (nI fd)), (49, (nI md)), (73, (nI sc)), (74, (nI k9)), (77, dn53), (78, wt54), (79, wf55)]) (l2 := [(15, (nI fa51)), (16, pl52), (44, (nI fd)), (49, (nI md)), (73, (nI sc)), (74, (nI k9)), (77, dn53), (78, wt54), (79, wf55), (15, (nI fa51))]) (V := [(nI fa51), pl52, (nI fd), (nI md), (nI sc), (nI k9), dn53, wt54, wf55, (nI fa51), pl52, (nI fd), (nI md), (nI sc), (nI k9), dn53, wt54, wf55, (nI fa51)]) rfl rfl rfl hP
    have hD : va_D A (mW G h0 a (upd (upd (upd (upd (upd (upd (upd (upd (upd (upd F 15 (nI fa51)) 16 pl52) 44 (nI fd)) 49 (nI md)) 73 (nI sc)) 74 (nI k9)) 77 dn53) 78 wt54) 79 wf55) 15 (nI fa51)) (updA (updA (updA (updA (updA B 14 nc) 17 ty56) 18 mn57) 48 vn) 49 vt)) := mW_D hD
    refine pc_V0 (G := G) (As := [.int (nI r72), .int (nI 11), .int (nI t1)]) (rest := []) hx hb hml hown hq hE hX pX0_al hP hD hS hA hl.1 (R_judgeL l G h0 a (upd (upd (upd (upd (upd (upd (upd (upd (upd F 15 (nI fa51)) 16 pl52) 44 (nI fd)) 49 (nI md)) 73 (nI sc)) 74 (nI k9)) 77 dn53) 78 wt54) 79 wf55) (updA (updA (updA (updA (updA B 14 nc) 17 ty56) 18 mn57) 48 vn) 49 vt) r72 11 t1 fa51 (by omega) (by omega) (by omega) (by omega)) (gV pw_1798 pw_1799 pw_1800 pw_1523 pw_1793) hV_X12_judge 0 9 rfl rfl rfl rfl (Nat.le_of_ble_eq_true rfl) dX12_two_65 ⟨Nat.le_of_ble_eq_true rfl, Nat.le_of_ble_eq_true rfl⟩ ⟨(by show 3 + 1 ≤ (4 * z9 + 9); omega), (by show 8 + (4 + 11) + 82 ≤ (160 * z9 + 1360); omega)⟩ (fun v79 u77 H locs hw78 hP hD hS => ?_)
    obtain ⟨r80, fa81, pl82⟩ := u77
    obtain ⟨hw78, h83, h84, h85, h86, h87, h88, h89⟩ := hw78
    replace h83 : r80 ≤ 1 := h83
    replace h84 : fa51 ≤ fa81 := h84
    replace h85 : fa81 ≤ 15 := h85
    replace h86 : fa81 + 15 * r80 ≤ 15 := h86
    replace h87 : 1 ≤ r80 + fa81 := h87
    replace h88 : 1 ≤ r72 + fa81 := h88
    replace h89 : fa81 ≤ fa51 + 15 * (1 - r72) := h89
    obtain rfl : v79 = some (.int (nI r80)) := hw78
    have hP : va_P G.1 pCl (mW G h0 a (upd (upd (upd (upd (upd (upd (upd (upd (upd F 15 (nI fa81)) 16 pl82) 44 (nI fd)) 49 (nI md)) 73 (nI sc)) 74 (nI k9)) 77 dn53) 78 wt54) 79 wf55) (updA (updA (updA (updA (updA B 14 nc) 17 ty56) 18 mn57) 48 vn) 49 vt)) _ := mW_to (F := F) (l1 := [(15, (nI fa51)), (16, pl52), (44, (nI fd)), (49, (nI md)), (73, (nI sc)), (74, (nI k9)), (77, dn53), (78, wt54), (79, wf55), (15, (nI fa81)), (16, pl82)]) (l2 := [(15, (nI fa81)), (16, pl82), (44, (nI fd)), (49, (nI md)), (73, (nI sc)), (74, (nI k9)), (77, dn53), (78, wt54), (79, wf55)]) (V := [(nI fa81), pl82, (nI fd), (nI md), (nI sc), (nI k9), dn53, wt54, wf55, (nI fa81), pl82, (nI fa81), pl82, (nI fd), (nI md), (nI sc), (nI k9), dn53, wt54, wf55]) rfl rfl rfl hP
    have hD : va_D A (mW G h0 a (upd (upd (upd (upd (upd (upd (upd (upd (upd F 15 (nI fa81)) 16 pl82) 44 (nI fd)) 49 (nI md)) 73 (nI sc)) 74 (nI k9)) 77 dn53) 78 wt54) 79 wf55) (updA (updA (updA (updA (updA B 14 nc) 17 ty56) 18 mn57) 48 vn) 49 vt)) := mW_D hD
    refine W.widen (k := 0) (n := 0) (Nat.le_of_ble_eq_true rfl) (Nat.le_of_ble_eq_true rfl) ?_
    refine W.eq (g2 := F0 m 68 ls [.int (nI r80)]) rfl ?_
    refine lv_pop hx hb dX12_two_68 rfl ?_
    refine lv_aload_n hx hb dX12_two_69 rfl (lv_at hl 3 rfl) ?_
    refine lv_iconst (v := 2) hx hb dX12_two_70 (by decide) ?_
    have hP : va_P G.1 pCl (mW G h0 a (upd (upd (upd (upd (upd (upd (upd (upd (upd (upd F 15 (nI fa81)) 16 pl82) 44 (nI fd)) 49 (nI md)) 73 (nI sc)) 74 (nI k9)) 77 dn53) 78 wt54) 79 wf55) 77 dn53) (updA (updA (updA (updA (updA B 14 nc) 17 ty56) 18 mn57) 48 vn) 49 vt)) _ := mW_to (F := F) (l1 := [(15, (nI fa81)), (16, pl82), (44, (nI fd)), (49, (nI md)), (73, (nI sc)), (74, (nI k9)), (77, dn53), (78, wt54), (79, wf55)]) (l2 := [(15, (nI fa81)), (16, pl82), (44, (nI fd)), (49, (nI md)), (73, (nI sc)), (74, (nI k9)), (77, dn53), (78, wt54), (79, wf55), (77, dn53)]) (V := [(nI fa81), pl82, (nI fd), (nI md), (nI sc), (nI k9), dn53, wt54, wf55, (nI fa81), pl82, (nI fd), (nI md), (nI sc), (nI k9), dn53, wt54, wf55, dn53]) rfl rfl rfl hP
    have hD : va_D A (mW G h0 a (upd (upd (upd (upd (upd (upd (upd (upd (upd (upd F 15 (nI fa81)) 16 pl82) 44 (nI fd)) 49 (nI md)) 73 (nI sc)) 74 (nI k9)) 77 dn53) 78 wt54) 79 wf55) 77 dn53) (updA (updA (updA (updA (updA B 14 nc) 17 ty56) 18 mn57) 48 vn) 49 vt)) := mW_D hD
    refine pc_V0 (G := G) (As := [.int 2]) (rest := []) hx hb hml hown hq hE hX pX0_al hP hD hS hA hl.1 (R_behind l G h0 a (upd (upd (upd (upd (upd (upd (upd (upd (upd F 15 (nI fa81)) 16 pl82) 44 (nI fd)) 49 (nI md)) 73 (nI sc)) 74 (nI k9)) 77 dn53) 78 wt54) 79 wf55) (updA (updA (updA (updA (updA B 14 nc) 17 ty56) 18 mn57) 48 vn) 49 vt) 2 dn53) (gV pw_1832 pw_1833 pw_1834 pw_1523 pw_1804) hV_X12_behind 0 9 rfl rfl rfl rfl (Nat.le_of_ble_eq_true rfl) dX12_two_71 ⟨Nat.le_of_ble_eq_true rfl, Nat.le_of_ble_eq_true rfl⟩ ⟨(by show 2 + 1 ≤ (4 * z9 + 9); omega), (by show 8 + (2 + 11) + 60 ≤ (160 * z9 + 1360); omega)⟩ (fun v92 u90 H locs hw91 hP hD hS => ?_)
    obtain rfl : v92 = some (.int 2) := hw91
    have hP : va_P G.1 pCl (mW G h0 a (upd (upd (upd (upd (upd (upd (upd (upd (upd F 15 (nI fa81)) 16 pl82) 44 (nI fd)) 49 (nI md)) 73 (nI sc)) 74 (nI k9)) 77 dn53) 78 dn53) 79 dn53) (updA (updA (updA (updA (updA B 14 nc) 17 ty56) 18 mn57) 48 vn) 49 vt)) _ := mW_to (F := F) (l1 := [(15, (nI fa81)), (16, pl82), (44, (nI fd)), (49, (nI md)), (73, (nI sc)), (74, (nI k9)), (77, dn53), (78, wt54), (79, wf55), (77, dn53), (78, dn53), (79, dn53)]) (l2 := [(15, (nI fa81)), (16, pl82), (44, (nI fd)), (49, (nI md)), (73, (nI sc)), (74, (nI k9)), (77, dn53), (78, dn53), (79, dn53)]) (V := [(nI fa81), pl82, (nI fd), (nI md), (nI sc), (nI k9), dn53, dn53, dn53, dn53, dn53, dn53, (nI fa81), pl82, (nI fd), (nI md), (nI sc), (nI k9), dn53, dn53, dn53]) rfl rfl rfl hP
    have hD : va_D A (mW G h0 a (upd (upd (upd (upd (upd (upd (upd (upd (upd F 15 (nI fa81)) 16 pl82) 44 (nI fd)) 49 (nI md)) 73 (nI sc)) 74 (nI k9)) 77 dn53) 78 dn53) 79 dn53) (updA (updA (updA (updA (updA B 14 nc) 17 ty56) 18 mn57) 48 vn) 49 vt)) := mW_D hD
    refine W.widen (k := 0) (n := 0) (Nat.le_of_ble_eq_true rfl) (Nat.le_of_ble_eq_true rfl) ?_
    refine W.eq (g2 := F0 m 74 ls [.int 2]) rfl ?_
    have hz93 : fa ≤ fa81 := (by omega)
    have hz94 : fa81 ≤ 15 := (by omega)
    have hz95 : TyC dc 2 := (by unfold TyC; omega)
    have hz96 : 2 ≤ 2050 := (by omega)
    have hz97 : ChE B nd n9 ty ty56 mn mn57 := hch66
    have hz98 : mnN B nd mn57 := h63
    have hz99 : If (fa81 = 0) (Typ0 B dc fd md nd ty56 mn57 vt sc k9 n9 (nI 2)) := (fun e => by have z := SideP.nz (h74 (by omega)); exact Typ0.of (kids (kk := 18) (c1 := c6) (c2 := c37) (c3 := c6) hkd (by decide) ⟨by omega, by omega, by omega⟩ (Or.inr ⟨by decide, e7⟩) (Or.inr ⟨by decide, e38⟩) (Or.inl (by decide)) (by decide) (hy67 (by omega)) (h64 (by omega)) (hy67 (by omega))) (LT18 hkd hh12 hh43 ht68 (by omega) h65 (by omega) (Or.inr rfl)))
    have hP : va_P G.1 pCl (mW G h0 a (upd (upd (upd (upd (upd (upd (upd (upd (upd F 15 (nI fa81)) 16 pl82) 44 (nI fd)) 49 (nI md)) 73 (nI sc)) 74 (nI k9)) 77 dn53) 78 dn53) 79 dn53) (updA (updA (updA (updA (updA B 14 nc) 17 ty56) 18 mn57) 48 vn) 49 vt)) _ := hP
    have hD : va_D A (mW G h0 a (upd (upd (upd (upd (upd (upd (upd (upd (upd F 15 (nI fa81)) 16 pl82) 44 (nI fd)) 49 (nI md)) 73 (nI sc)) 74 (nI k9)) 77 dn53) 78 dn53) 79 dn53) (updA (updA (updA (updA (updA B 14 nc) 17 ty56) 18 mn57) 48 vn) 49 vt)) := mW_D hD
    exact W.iret (v := 2) hx hb hr (fun t9 ht9 hW9 => ⟨⟨_, (2, fa81, pl82, dn53, dn53, dn53, ty56, mn57), rfl, ⟨rfl, hz93, hz94, hz95, hz96, hz97, hz98, hz99⟩, by rw [ht9]; exact hP, hD⟩, hS.F ht9⟩) hS.2.2 dX12_two_74
  · refine lv_iload_n hx hb dX12_two_30 rfl (lv_at hl 1 rfl) ?_
    refine lv_sipush (v := 259) hx hb dX12_two_31 (by decide) ?_
    refine lv_icmp_ne (tgt := 75) hx hb dX12_two_34 (by decide) (fun c100 => ?_) (fun c100 => ?_)
    · refine lv_iload_n hx hb dX12_two_75 rfl (lv_at hl 1 rfl) ?_
      refine lv_bipush (v := 38) hx hb dX12_two_76 (by decide) ?_
      refine lv_icmp_eq (tgt := 93) hx hb dX12_two_78 (by decide) (fun c101 => ?_) (fun c101 => ?_)
      · refine lv_aload_n hx hb dX12_two_93 rfl (lv_at hl 2 rfl) ?_
        refine lv_iload_n hx hb dX12_two_94 rfl (lv_at hl 0 rfl) ?_
        refine lv_iconst (v := 1) hx hb dX12_two_95 (by decide) ?_
        refine lv_icmp_eq (tgt := 104) hx hb dX12_two_96 (by decide) (fun c102 => ?_) (fun c102 => ?_)
        · have n103 : r19 = 1 := (nI_eq (a := r19) (b := 1) (by omega) (by omega)).mp c102
          refine lv_iconst (v := 1) hx hb dX12_two_104 (by decide) ?_
          refine lv_goto (tgt := 109) hx hb dX12_two_105 (by decide) ?_
          refine lv_bipush (v := 11) hx hb dX12_two_109 (by decide) ?_
          refine lv_aload_n hx hb dX12_two_111 rfl (lv_at hl 2 rfl) ?_
          refine r_get (v := .ref (a 10)) hx hb hown hq hE hP 18 41 tFX12_18 (by decide) pw_1440 rfl dX12_two_112 ?_
          refine lv_aload_n hx hb dX12_two_115 rfl (lv_at hl 2 rfl) ?_
          refine r_get (v := .ref (a 12)) hx hb hown hq hE hP 20 47 tFX12_20 (by decide) pw_1442 rfl dX12_two_116 ?_
          refine lv_iload_n hx hb dX12_two_119 rfl (lv_at hl 3 rfl) ?_
          refine r_ldi (f := (B 12)) (j := n9) hx hb hE hP 12 (ma_12 G a _) rfl (by omega) (by decide) dX12_two_120 ?_
          refine lv_topi (fun x104 e105 => ?_)
          obtain rfl : x104 = nI c6 := e105.trans e7
          refine r_ldi (f := (B 10)) (j := c6) hx hb hE hP 10 (ma_10 G a _) rfl (by omega) (by decide) dX12_two_121 ?_
          obtain ⟨⟨t106, e107, h108⟩, -⟩ := hF c6 h8
          refine lv_topi (fun x109 e110 => ?_)
          obtain rfl : x109 = nI t106 := e110.trans e107
          have hP : va_P G.1 pCl (mW G h0 a (upd (upd (upd (upd (upd (upd (upd (upd (upd (upd F 15 (nI fa20)) 16 pl21) 44 (nI fd)) 49 (nI md)) 73 (nI sc)) 74 (nI k9)) 77 dn22) 78 wt23) 79 wf24) 15 (nI fa20)) (updA (updA (updA (updA (updA B 14 nc) 17 ty25) 18 mn26) 48 vn) 49 vt)) _ := mW_to (F := F) (l1 := [(15, (nI fa20)), (16, pl21), (44, (nI fd)), (49, (nI md)), (73, (nI sc)), (74, (nI k9)), (77, dn22), (78, wt23), (79, wf24)]) (l2 := [(15, (nI fa20)), (16, pl21), (44, (nI fd)), (49, (nI md)), (73, (nI sc)), (74, (nI k9)), (77, dn22), (78, wt23), (79, wf24), (15, (nI fa20))]) (V := [(nI fa20), pl21, (nI fd), (nI md), (nI sc), (nI k9), dn22, wt23, wf24, (nI fa20), pl21, (nI fd), (nI md), (nI sc), (nI k9), dn22, wt23, wf24, (nI fa20)]) rfl rfl rfl hP
          have hD : va_D A (mW G h0 a (upd (upd (upd (upd (upd (upd (upd (upd (upd (upd F 15 (nI fa20)) 16 pl21) 44 (nI fd)) 49 (nI md)) 73 (nI sc)) 74 (nI k9)) 77 dn22) 78 wt23) 79 wf24) 15 (nI fa20)) (updA (updA (updA (updA (updA B 14 nc) 17 ty25) 18 mn26) 48 vn) 49 vt)) := mW_D hD
          refine pc_V0 (G := G) (As := [.int (nI 1), .int (nI 11), .int (nI t106)]) (rest := []) hx hb hml hown hq hE hX pX0_al hP hD hS hA hl.1 (R_judgeL l G h0 a (upd (upd (upd (upd (upd (upd (upd (upd (upd F 15 (nI fa20)) 16 pl21) 44 (nI fd)) 49 (nI md)) 73 (nI sc)) 74 (nI k9)) 77 dn22) 78 wt23) 79 wf24) (updA (updA (updA (updA (updA B 14 nc) 17 ty25) 18 mn26) 48 vn) 49 vt) 1 11 t106 fa20 (by omega) (by omega) (by omega) (by omega)) (gV pw_1798 pw_1799 pw_1800 pw_1523 pw_1793) hV_X12_judge 0 9 rfl rfl rfl rfl (Nat.le_of_ble_eq_true rfl) dX12_two_122 ⟨Nat.le_of_ble_eq_true rfl, Nat.le_of_ble_eq_true rfl⟩ ⟨(by show 3 + 1 ≤ (4 * z9 + 9); omega), (by show 8 + (4 + 11) + 82 ≤ (160 * z9 + 1360); omega)⟩ (fun v113 u111 H locs hw112 hP hD hS => ?_)
          obtain ⟨r114, fa115, pl116⟩ := u111
          obtain ⟨hw112, h117, h118, h119, h120, h121, h122, h123⟩ := hw112
          replace h117 : r114 ≤ 1 := h117
          replace h118 : fa20 ≤ fa115 := h118
          replace h119 : fa115 ≤ 15 := h119
          replace h120 : fa115 + 15 * r114 ≤ 15 := h120
          replace h121 : 1 ≤ r114 + fa115 := h121
          replace h122 : 1 ≤ 1 + fa115 := h122
          replace h123 : fa115 ≤ fa20 + 15 * (1 - 1) := h123
          obtain rfl : v113 = some (.int (nI r114)) := hw112
          have hP : va_P G.1 pCl (mW G h0 a (upd (upd (upd (upd (upd (upd (upd (upd (upd F 15 (nI fa115)) 16 pl116) 44 (nI fd)) 49 (nI md)) 73 (nI sc)) 74 (nI k9)) 77 dn22) 78 wt23) 79 wf24) (updA (updA (updA (updA (updA B 14 nc) 17 ty25) 18 mn26) 48 vn) 49 vt)) _ := mW_to (F := F) (l1 := [(15, (nI fa20)), (16, pl21), (44, (nI fd)), (49, (nI md)), (73, (nI sc)), (74, (nI k9)), (77, dn22), (78, wt23), (79, wf24), (15, (nI fa115)), (16, pl116)]) (l2 := [(15, (nI fa115)), (16, pl116), (44, (nI fd)), (49, (nI md)), (73, (nI sc)), (74, (nI k9)), (77, dn22), (78, wt23), (79, wf24)]) (V := [(nI fa115), pl116, (nI fd), (nI md), (nI sc), (nI k9), dn22, wt23, wf24, (nI fa115), pl116, (nI fa115), pl116, (nI fd), (nI md), (nI sc), (nI k9), dn22, wt23, wf24]) rfl rfl rfl hP
          have hD : va_D A (mW G h0 a (upd (upd (upd (upd (upd (upd (upd (upd (upd F 15 (nI fa115)) 16 pl116) 44 (nI fd)) 49 (nI md)) 73 (nI sc)) 74 (nI k9)) 77 dn22) 78 wt23) 79 wf24) (updA (updA (updA (updA (updA B 14 nc) 17 ty25) 18 mn26) 48 vn) 49 vt)) := mW_D hD
          refine W.widen (k := 0) (n := 0) (Nat.le_of_ble_eq_true rfl) (Nat.le_of_ble_eq_true rfl) ?_
          refine W.eq (g2 := F0 m 125 ls [.int (nI r114)]) rfl ?_
          refine lv_pop hx hb dX12_two_125 rfl ?_
          refine lv_aload_n hx hb dX12_two_126 rfl (lv_at hl 2 rfl) ?_
          refine lv_aload_n hx hb dX12_two_127 rfl (lv_at hl 2 rfl) ?_
          refine r_get (v := .ref (a 13)) hx hb hown hq hE hP 21 50 tFX12_21 (by decide) pw_1443 rfl dX12_two_128 ?_
          refine lv_iload_n hx hb dX12_two_131 rfl (lv_at hl 3 rfl) ?_
          refine r_ldi (f := (B 13)) (j := n9) hx hb hE hP 13 (ma_13 G a _) rfl (by omega) (by decide) dX12_two_132 ?_
          obtain ⟨c124, e125, h126, hp127, h128, hc129, hh130, hg131⟩ := Fs2.kid (kk := 18) (s := 2) hF hn9 hkd (by decide) (by decide) (by decide) (by decide) (by omega)
          refine lv_topi (fun x132 e133 => ?_)
          obtain rfl : x132 = nI c124 := e133.trans e125
          refine lv_iload_n hx hb dX12_two_133 rfl (lv_at hl 0 rfl) ?_
          have hP : va_P G.1 pCl (mW G h0 a (upd (upd (upd (upd (upd (upd (upd (upd (upd (upd (upd (upd (upd (upd (upd (upd (upd F 15 (nI fa115)) 16 pl116) 44 (nI fd)) 49 (nI md)) 73 (nI sc)) 74 (nI k9)) 77 dn22) 78 wt23) 79 wf24) 15 (nI fa115)) 44 (nI fd)) 49 (nI md)) 73 (nI sc)) 74 (nI k9)) 77 dn22) 78 wt23) 79 wf24) (updA (updA (updA (updA (updA B 14 nc) 17 ty25) 18 mn26) 48 vn) 49 vt)) _ := mW_to (F := F) (l1 := [(15, (nI fa115)), (16, pl116), (44, (nI fd)), (49, (nI md)), (73, (nI sc)), (74, (nI k9)), (77, dn22), (78, wt23), (79, wf24)]) (l2 := [(15, (nI fa115)), (16, pl116), (44, (nI fd)), (49, (nI md)), (73, (nI sc)), (74, (nI k9)), (77, dn22), (78, wt23), (79, wf24), (15, (nI fa115)), (44, (nI fd)), (49, (nI md)), (73, (nI sc)), (74, (nI k9)), (77, dn22), (78, wt23), (79, wf24)]) (V := [(nI fa115), pl116, (nI fd), (nI md), (nI sc), (nI k9), dn22, wt23, wf24, (nI fa115), pl116, (nI fd), (nI md), (nI sc), (nI k9), dn22, wt23, wf24, (nI fa115), (nI fd), (nI md), (nI sc), (nI k9), dn22, wt23, wf24]) rfl rfl rfl hP
          have hD : va_D A (mW G h0 a (upd (upd (upd (upd (upd (upd (upd (upd (upd (upd (upd (upd (upd (upd (upd (upd (upd F 15 (nI fa115)) 16 pl116) 44 (nI fd)) 49 (nI md)) 73 (nI sc)) 74 (nI k9)) 77 dn22) 78 wt23) 79 wf24) 15 (nI fa115)) 44 (nI fd)) 49 (nI md)) 73 (nI sc)) 74 (nI k9)) 77 dn22) 78 wt23) 79 wf24) (updA (updA (updA (updA (updA B 14 nc) 17 ty25) 18 mn26) 48 vn) 49 vt)) := mW_D hD
          refine pc_V0 (G := G) (As := [.int (nI c124), .int (nI r19)]) (rest := []) hx hb hml hown hq hE hX pX0_al hP hD hS hA hl.1 (ihW h0 a (upd (upd (upd (upd (upd (upd (upd (upd (upd F 15 (nI fa115)) 16 pl116) 44 (nI fd)) 49 (nI md)) 73 (nI sc)) 74 (nI k9)) 77 dn22) 78 wt23) 79 wf24) B c124 fa115 sc k9 nd T nm wr lz dc fd md pr bk gh dn22 wt23 wf24 nc ty25 mn26 vn vt r19 hst hnm h126 (by omega) (by omega) (by omega) hk9 hnc h32 hvt (show kcl 1 _ = true from hc129) (by omega)) (gV pw_1826 pw_1827 pw_1828 pw_1523 pw_1865) hV_X12_wants 0 9 rfl rfl rfl rfl (Nat.le_of_ble_eq_true rfl) dX12_two_134 ⟨Nat.le_of_ble_eq_true rfl, Nat.le_of_ble_eq_true rfl⟩ ⟨(by show (4 * (z9 - 1) + 12) + 1 ≤ (4 * z9 + 9); omega), (by show 8 + (4 + 11) + (160 * (z9 - 1) + 1480) ≤ (160 * z9 + 1360); omega)⟩ (fun v136 u134 H locs hw135 hP hD hS => ?_)
          obtain ⟨fa137, pl138, dn139, wt140, wf141, ty142, mn143⟩ := u134
          obtain ⟨hw135, h144, h145, h146, h147, h148⟩ := hw135
          replace h144 : fa115 ≤ fa137 := h144
          replace h145 : fa137 ≤ 15 := h145
          replace h146 : ChE B nd c124 ty25 ty142 mn26 mn143 := h146
          replace h147 : mnN B nd mn143 := h147
          replace h148 : If (fa137 = 0) (Typ B dc fd md nd ty142 mn143 vt sc k9 c124 ∧ ty142 c124 = nI r19) := h148
          obtain rfl : v136 = none := hw135
          have hP : va_P G.1 pCl (mW G h0 a (upd (upd (upd (upd (upd (upd (upd (upd (upd F 15 (nI fa137)) 16 pl138) 44 (nI fd)) 49 (nI md)) 73 (nI sc)) 74 (nI k9)) 77 dn139) 78 wt140) 79 wf141) (updA (updA (updA (updA (updA B 14 nc) 17 ty142) 18 mn143) 48 vn) 49 vt)) _ := mW_to (F := F) (l1 := [(15, (nI fa115)), (16, pl116), (44, (nI fd)), (49, (nI md)), (73, (nI sc)), (74, (nI k9)), (77, dn22), (78, wt23), (79, wf24), (15, (nI fa137)), (16, pl138), (44, (nI fd)), (49, (nI md)), (73, (nI sc)), (74, (nI k9)), (77, dn139), (78, wt140), (79, wf141)]) (l2 := [(15, (nI fa137)), (16, pl138), (44, (nI fd)), (49, (nI md)), (73, (nI sc)), (74, (nI k9)), (77, dn139), (78, wt140), (79, wf141)]) (V := [(nI fa137), pl138, (nI fd), (nI md), (nI sc), (nI k9), dn139, wt140, wf141, (nI fa137), pl138, (nI fd), (nI md), (nI sc), (nI k9), dn139, wt140, wf141, (nI fa137), pl138, (nI fd), (nI md), (nI sc), (nI k9), dn139, wt140, wf141]) rfl rfl rfl hP
          have hD : va_D A (mW G h0 a (upd (upd (upd (upd (upd (upd (upd (upd (upd F 15 (nI fa137)) 16 pl138) 44 (nI fd)) 49 (nI md)) 73 (nI sc)) 74 (nI k9)) 77 dn139) 78 wt140) 79 wf141) (updA (updA (updA (updA (updA B 14 nc) 17 ty142) 18 mn143) 48 vn) 49 vt)) := mW_D hD
          refine W.widen (k := 0) (n := 0) (Nat.le_of_ble_eq_true rfl) (Nat.le_of_ble_eq_true rfl) ?_
          refine W.eq (g2 := F0 m 137 ls []) rfl ?_
          have hch149 : ChE B nd n9 ty ty142 mn mn143 := (ChE.trans hch35 (ChE.kid h146 (by omega) hp127))
          have hy150 : If (fa20 = 0) (Typ B dc fd md nd ty142 mn143 vt sc k9 c6) := (fun e => Typ.beside hF (by omega) hn9 (h33 e) h8 h126 hp9 hp127 (fun e => by have z := hg13; rw [e] at z; have := hg131; omega) h146)
          have ht151 : ty142 c6 = nI r19 := ((ChE.at hF (by omega) hn9 h8 h126 hp9 hp127 (fun e => by have z := hg13; rw [e] at z; have := hg131; omega) h146).trans h34)
          refine lv_aload_n hx hb dX12_two_137 rfl (lv_at hl 2 rfl) ?_
          refine lv_iload_n hx hb dX12_two_138 rfl (lv_at hl 0 rfl) ?_
          have hP : va_P G.1 pCl (mW G h0 a (upd (upd (upd (upd (upd (upd (upd (upd (upd (upd F 15 (nI fa137)) 16 pl138) 44 (nI fd)) 49 (nI md)) 73 (nI sc)) 74 (nI k9)) 77 dn139) 78 wt140) 79 wf141) 77 dn139) (updA (updA (updA (updA (updA B 14 nc) 17 ty142) 18 mn143) 48 vn) 49 vt)) _ := mW_to (F := F) (l1 := [(15, (nI fa137)), (16, pl138), (44, (nI fd)), (49, (nI md)), (73, (nI sc)), (74, (nI k9)), (77, dn139), (78, wt140), (79, wf141)]) (l2 := [(15, (nI fa137)), (16, pl138), (44, (nI fd)), (49, (nI md)), (73, (nI sc)), (74, (nI k9)), (77, dn139), (78, wt140), (79, wf141), (77, dn139)]) (V := [(nI fa137), pl138, (nI fd), (nI md), (nI sc), (nI k9), dn139, wt140, wf141, (nI fa137), pl138, (nI fd), (nI md), (nI sc), (nI k9), dn139, wt140, wf141, dn139]) rfl rfl rfl hP
          have hD : va_D A (mW G h0 a (upd (upd (upd (upd (upd (upd (upd (upd (upd (upd F 15 (nI fa137)) 16 pl138) 44 (nI fd)) 49 (nI md)) 73 (nI sc)) 74 (nI k9)) 77 dn139) 78 wt140) 79 wf141) 77 dn139) (updA (updA (updA (updA (updA B 14 nc) 17 ty142) 18 mn143) 48 vn) 49 vt)) := mW_D hD
          refine pc_V0 (G := G) (As := [.int (nI r19)]) (rest := []) hx hb hml hown hq hE hX pX0_al hP hD hS hA hl.1 (R_behind l G h0 a (upd (upd (upd (upd (upd (upd (upd (upd (upd F 15 (nI fa137)) 16 pl138) 44 (nI fd)) 49 (nI md)) 73 (nI sc)) 74 (nI k9)) 77 dn139) 78 wt140) 79 wf141) (updA (updA (updA (updA (updA B 14 nc) 17 ty142) 18 mn143) 48 vn) 49 vt) (nI r19) dn139) (gV pw_1832 pw_1833 pw_1834 pw_1523 pw_1804) hV_X12_behind 0 9 rfl rfl rfl rfl (Nat.le_of_ble_eq_true rfl) dX12_two_139 ⟨Nat.le_of_ble_eq_true rfl, Nat.le_of_ble_eq_true rfl⟩ ⟨(by show 2 + 1 ≤ (4 * z9 + 9); omega), (by show 8 + (2 + 11) + 60 ≤ (160 * z9 + 1360); omega)⟩ (fun v154 u152 H locs hw153 hP hD hS => ?_)
          obtain rfl : v154 = some (.int (nI r19)) := hw153
          have hP : va_P G.1 pCl (mW G h0 a (upd (upd (upd (upd (upd (upd (upd (upd (upd F 15 (nI fa137)) 16 pl138) 44 (nI fd)) 49 (nI md)) 73 (nI sc)) 74 (nI k9)) 77 dn139) 78 dn139) 79 dn139) (updA (updA (updA (updA (updA B 14 nc) 17 ty142) 18 mn143) 48 vn) 49 vt)) _ := mW_to (F := F) (l1 := [(15, (nI fa137)), (16, pl138), (44, (nI fd)), (49, (nI md)), (73, (nI sc)), (74, (nI k9)), (77, dn139), (78, wt140), (79, wf141), (77, dn139), (78, dn139), (79, dn139)]) (l2 := [(15, (nI fa137)), (16, pl138), (44, (nI fd)), (49, (nI md)), (73, (nI sc)), (74, (nI k9)), (77, dn139), (78, dn139), (79, dn139)]) (V := [(nI fa137), pl138, (nI fd), (nI md), (nI sc), (nI k9), dn139, dn139, dn139, dn139, dn139, dn139, (nI fa137), pl138, (nI fd), (nI md), (nI sc), (nI k9), dn139, dn139, dn139]) rfl rfl rfl hP
          have hD : va_D A (mW G h0 a (upd (upd (upd (upd (upd (upd (upd (upd (upd F 15 (nI fa137)) 16 pl138) 44 (nI fd)) 49 (nI md)) 73 (nI sc)) 74 (nI k9)) 77 dn139) 78 dn139) 79 dn139) (updA (updA (updA (updA (updA B 14 nc) 17 ty142) 18 mn143) 48 vn) 49 vt)) := mW_D hD
          refine W.widen (k := 0) (n := 0) (Nat.le_of_ble_eq_true rfl) (Nat.le_of_ble_eq_true rfl) ?_
          refine W.eq (g2 := F0 m 142 ls [.int (nI r19)]) rfl ?_
          have hz155 : fa ≤ fa137 := (by omega)
          have hz156 : fa137 ≤ 15 := (by omega)
          have hz157 : TyC dc r19 := h29
          have hz158 : r19 ≤ 2050 := (by omega)
          have hz159 : ChE B nd n9 ty ty142 mn mn143 := hch149
          have hz160 : mnN B nd mn143 := h147
          have hz161 : If (fa137 = 0) (Typ0 B dc fd md nd ty142 mn143 vt sc k9 n9 (nI r19)) := (fun e => Typ0.of (kids (kk := 18) (c1 := c6) (c2 := c124) (c3 := c6) hkd (by decide) ⟨by omega, by omega, by omega⟩ (Or.inr ⟨by decide, e7⟩) (Or.inr ⟨by decide, e125⟩) (Or.inl (by decide)) (by decide) (hy150 (by omega)) ((fun e => (h148 e).1) (by omega)) (hy150 (by omega))) (LT18 hkd hh12 hh130 ht151 (by omega) (h148 (by omega)).2 (by omega) (by first | exact Or.inl (by rw [show r19 = 1 by omega]; rfl) | exact Or.inr (by rw [show r19 = 2 by omega]; rfl))))
          have hP : va_P G.1 pCl (mW G h0 a (upd (upd (upd (upd (upd (upd (upd (upd (upd F 15 (nI fa137)) 16 pl138) 44 (nI fd)) 49 (nI md)) 73 (nI sc)) 74 (nI k9)) 77 dn139) 78 dn139) 79 dn139) (updA (updA (updA (updA (updA B 14 nc) 17 ty142) 18 mn143) 48 vn) 49 vt)) _ := hP
          have hD : va_D A (mW G h0 a (upd (upd (upd (upd (upd (upd (upd (upd (upd F 15 (nI fa137)) 16 pl138) 44 (nI fd)) 49 (nI md)) 73 (nI sc)) 74 (nI k9)) 77 dn139) 78 dn139) 79 dn139) (updA (updA (updA (updA (updA B 14 nc) 17 ty142) 18 mn143) 48 vn) 49 vt)) := mW_D hD
          exact W.iret (v := (nI r19)) hx hb hr (fun t9 ht9 hW9 => ⟨⟨_, (r19, fa137, pl138, dn139, dn139, dn139, ty142, mn143), rfl, ⟨rfl, hz155, hz156, hz157, hz158, hz159, hz160, hz161⟩, by rw [ht9]; exact hP, hD⟩, hS.F ht9⟩) hS.2.2 dX12_two_142
        · have n162 : ¬ (r19 = 1) := fun h9 => c102 ((nI_eq (a := r19) (b := 1) (by omega) (by omega)).mpr h9)
          refine lv_iload_n hx hb dX12_two_99 rfl (lv_at hl 0 rfl) ?_
          refine lv_iconst (v := 2) hx hb dX12_two_100 (by decide) ?_
          refine lv_icmp_ne (tgt := 108) hx hb dX12_two_101 (by decide) (fun c163 => ?_) (fun c163 => ?_)
          · have n164 : ¬ (r19 = 2) := fun h9 => c163 ((nI_eq (a := r19) (b := 2) (by omega) (by omega)).mpr h9)
            refine lv_iconst (v := 0) hx hb dX12_two_108 (by decide) ?_
            refine lv_bipush (v := 11) hx hb dX12_two_109 (by decide) ?_
            refine lv_aload_n hx hb dX12_two_111 rfl (lv_at hl 2 rfl) ?_
            refine r_get (v := .ref (a 10)) hx hb hown hq hE hP 18 41 tFX12_18 (by decide) pw_1440 rfl dX12_two_112 ?_
            refine lv_aload_n hx hb dX12_two_115 rfl (lv_at hl 2 rfl) ?_
            refine r_get (v := .ref (a 12)) hx hb hown hq hE hP 20 47 tFX12_20 (by decide) pw_1442 rfl dX12_two_116 ?_
            refine lv_iload_n hx hb dX12_two_119 rfl (lv_at hl 3 rfl) ?_
            refine r_ldi (f := (B 12)) (j := n9) hx hb hE hP 12 (ma_12 G a _) rfl (by omega) (by decide) dX12_two_120 ?_
            refine lv_topi (fun x165 e166 => ?_)
            obtain rfl : x165 = nI c6 := e166.trans e7
            refine r_ldi (f := (B 10)) (j := c6) hx hb hE hP 10 (ma_10 G a _) rfl (by omega) (by decide) dX12_two_121 ?_
            obtain ⟨⟨t167, e168, h169⟩, -⟩ := hF c6 h8
            refine lv_topi (fun x170 e171 => ?_)
            obtain rfl : x170 = nI t167 := e171.trans e168
            have hP : va_P G.1 pCl (mW G h0 a (upd (upd (upd (upd (upd (upd (upd (upd (upd (upd F 15 (nI fa20)) 16 pl21) 44 (nI fd)) 49 (nI md)) 73 (nI sc)) 74 (nI k9)) 77 dn22) 78 wt23) 79 wf24) 15 (nI fa20)) (updA (updA (updA (updA (updA B 14 nc) 17 ty25) 18 mn26) 48 vn) 49 vt)) _ := mW_to (F := F) (l1 := [(15, (nI fa20)), (16, pl21), (44, (nI fd)), (49, (nI md)), (73, (nI sc)), (74, (nI k9)), (77, dn22), (78, wt23), (79, wf24)]) (l2 := [(15, (nI fa20)), (16, pl21), (44, (nI fd)), (49, (nI md)), (73, (nI sc)), (74, (nI k9)), (77, dn22), (78, wt23), (79, wf24), (15, (nI fa20))]) (V := [(nI fa20), pl21, (nI fd), (nI md), (nI sc), (nI k9), dn22, wt23, wf24, (nI fa20), pl21, (nI fd), (nI md), (nI sc), (nI k9), dn22, wt23, wf24, (nI fa20)]) rfl rfl rfl hP
            have hD : va_D A (mW G h0 a (upd (upd (upd (upd (upd (upd (upd (upd (upd (upd F 15 (nI fa20)) 16 pl21) 44 (nI fd)) 49 (nI md)) 73 (nI sc)) 74 (nI k9)) 77 dn22) 78 wt23) 79 wf24) 15 (nI fa20)) (updA (updA (updA (updA (updA B 14 nc) 17 ty25) 18 mn26) 48 vn) 49 vt)) := mW_D hD
            refine pc_V0 (G := G) (As := [.int (nI 0), .int (nI 11), .int (nI t167)]) (rest := []) hx hb hml hown hq hE hX pX0_al hP hD hS hA hl.1 (R_judgeL l G h0 a (upd (upd (upd (upd (upd (upd (upd (upd (upd F 15 (nI fa20)) 16 pl21) 44 (nI fd)) 49 (nI md)) 73 (nI sc)) 74 (nI k9)) 77 dn22) 78 wt23) 79 wf24) (updA (updA (updA (updA (updA B 14 nc) 17 ty25) 18 mn26) 48 vn) 49 vt) 0 11 t167 fa20 (by omega) (by omega) (by omega) (by omega)) (gV pw_1798 pw_1799 pw_1800 pw_1523 pw_1793) hV_X12_judge 0 9 rfl rfl rfl rfl (Nat.le_of_ble_eq_true rfl) dX12_two_122 ⟨Nat.le_of_ble_eq_true rfl, Nat.le_of_ble_eq_true rfl⟩ ⟨(by show 3 + 1 ≤ (4 * z9 + 9); omega), (by show 8 + (4 + 11) + 82 ≤ (160 * z9 + 1360); omega)⟩ (fun v174 u172 H locs hw173 hP hD hS => ?_)
            obtain ⟨r175, fa176, pl177⟩ := u172
            obtain ⟨hw173, h178, h179, h180, h181, h182, h183, h184⟩ := hw173
            replace h178 : r175 ≤ 1 := h178
            replace h179 : fa20 ≤ fa176 := h179
            replace h180 : fa176 ≤ 15 := h180
            replace h181 : fa176 + 15 * r175 ≤ 15 := h181
            replace h182 : 1 ≤ r175 + fa176 := h182
            replace h183 : 1 ≤ 0 + fa176 := h183
            replace h184 : fa176 ≤ fa20 + 15 * (1 - 0) := h184
            obtain rfl : v174 = some (.int (nI r175)) := hw173
            have hP : va_P G.1 pCl (mW G h0 a (upd (upd (upd (upd (upd (upd (upd (upd (upd F 15 (nI fa176)) 16 pl177) 44 (nI fd)) 49 (nI md)) 73 (nI sc)) 74 (nI k9)) 77 dn22) 78 wt23) 79 wf24) (updA (updA (updA (updA (updA B 14 nc) 17 ty25) 18 mn26) 48 vn) 49 vt)) _ := mW_to (F := F) (l1 := [(15, (nI fa20)), (16, pl21), (44, (nI fd)), (49, (nI md)), (73, (nI sc)), (74, (nI k9)), (77, dn22), (78, wt23), (79, wf24), (15, (nI fa176)), (16, pl177)]) (l2 := [(15, (nI fa176)), (16, pl177), (44, (nI fd)), (49, (nI md)), (73, (nI sc)), (74, (nI k9)), (77, dn22), (78, wt23), (79, wf24)]) (V := [(nI fa176), pl177, (nI fd), (nI md), (nI sc), (nI k9), dn22, wt23, wf24, (nI fa176), pl177, (nI fa176), pl177, (nI fd), (nI md), (nI sc), (nI k9), dn22, wt23, wf24]) rfl rfl rfl hP
            have hD : va_D A (mW G h0 a (upd (upd (upd (upd (upd (upd (upd (upd (upd F 15 (nI fa176)) 16 pl177) 44 (nI fd)) 49 (nI md)) 73 (nI sc)) 74 (nI k9)) 77 dn22) 78 wt23) 79 wf24) (updA (updA (updA (updA (updA B 14 nc) 17 ty25) 18 mn26) 48 vn) 49 vt)) := mW_D hD
            refine W.widen (k := 0) (n := 0) (Nat.le_of_ble_eq_true rfl) (Nat.le_of_ble_eq_true rfl) ?_
            refine W.eq (g2 := F0 m 125 ls [.int (nI r175)]) rfl ?_
            refine lv_pop hx hb dX12_two_125 rfl ?_
            refine lv_aload_n hx hb dX12_two_126 rfl (lv_at hl 2 rfl) ?_
            refine lv_aload_n hx hb dX12_two_127 rfl (lv_at hl 2 rfl) ?_
            refine r_get (v := .ref (a 13)) hx hb hown hq hE hP 21 50 tFX12_21 (by decide) pw_1443 rfl dX12_two_128 ?_
            refine lv_iload_n hx hb dX12_two_131 rfl (lv_at hl 3 rfl) ?_
            refine r_ldi (f := (B 13)) (j := n9) hx hb hE hP 13 (ma_13 G a _) rfl (by omega) (by decide) dX12_two_132 ?_
            obtain ⟨c185, e186, h187, hp188, h189, hc190, hh191, hg192⟩ := Fs2.kid (kk := 18) (s := 2) hF hn9 hkd (by decide) (by decide) (by decide) (by decide) (by omega)
            refine lv_topi (fun x193 e194 => ?_)
            obtain rfl : x193 = nI c185 := e194.trans e186
            refine lv_iload_n hx hb dX12_two_133 rfl (lv_at hl 0 rfl) ?_
            have hP : va_P G.1 pCl (mW G h0 a (upd (upd (upd (upd (upd (upd (upd (upd (upd (upd (upd (upd (upd (upd (upd (upd (upd F 15 (nI fa176)) 16 pl177) 44 (nI fd)) 49 (nI md)) 73 (nI sc)) 74 (nI k9)) 77 dn22) 78 wt23) 79 wf24) 15 (nI fa176)) 44 (nI fd)) 49 (nI md)) 73 (nI sc)) 74 (nI k9)) 77 dn22) 78 wt23) 79 wf24) (updA (updA (updA (updA (updA B 14 nc) 17 ty25) 18 mn26) 48 vn) 49 vt)) _ := mW_to (F := F) (l1 := [(15, (nI fa176)), (16, pl177), (44, (nI fd)), (49, (nI md)), (73, (nI sc)), (74, (nI k9)), (77, dn22), (78, wt23), (79, wf24)]) (l2 := [(15, (nI fa176)), (16, pl177), (44, (nI fd)), (49, (nI md)), (73, (nI sc)), (74, (nI k9)), (77, dn22), (78, wt23), (79, wf24), (15, (nI fa176)), (44, (nI fd)), (49, (nI md)), (73, (nI sc)), (74, (nI k9)), (77, dn22), (78, wt23), (79, wf24)]) (V := [(nI fa176), pl177, (nI fd), (nI md), (nI sc), (nI k9), dn22, wt23, wf24, (nI fa176), pl177, (nI fd), (nI md), (nI sc), (nI k9), dn22, wt23, wf24, (nI fa176), (nI fd), (nI md), (nI sc), (nI k9), dn22, wt23, wf24]) rfl rfl rfl hP
            have hD : va_D A (mW G h0 a (upd (upd (upd (upd (upd (upd (upd (upd (upd (upd (upd (upd (upd (upd (upd (upd (upd F 15 (nI fa176)) 16 pl177) 44 (nI fd)) 49 (nI md)) 73 (nI sc)) 74 (nI k9)) 77 dn22) 78 wt23) 79 wf24) 15 (nI fa176)) 44 (nI fd)) 49 (nI md)) 73 (nI sc)) 74 (nI k9)) 77 dn22) 78 wt23) 79 wf24) (updA (updA (updA (updA (updA B 14 nc) 17 ty25) 18 mn26) 48 vn) 49 vt)) := mW_D hD
            refine pc_V0 (G := G) (As := [.int (nI c185), .int (nI r19)]) (rest := []) hx hb hml hown hq hE hX pX0_al hP hD hS hA hl.1 (ihW h0 a (upd (upd (upd (upd (upd (upd (upd (upd (upd F 15 (nI fa176)) 16 pl177) 44 (nI fd)) 49 (nI md)) 73 (nI sc)) 74 (nI k9)) 77 dn22) 78 wt23) 79 wf24) B c185 fa176 sc k9 nd T nm wr lz dc fd md pr bk gh dn22 wt23 wf24 nc ty25 mn26 vn vt r19 hst hnm h187 (by omega) (by omega) (by omega) hk9 hnc h32 hvt (show kcl 1 _ = true from hc190) (by omega)) (gV pw_1826 pw_1827 pw_1828 pw_1523 pw_1865) hV_X12_wants 0 9 rfl rfl rfl rfl (Nat.le_of_ble_eq_true rfl) dX12_two_134 ⟨Nat.le_of_ble_eq_true rfl, Nat.le_of_ble_eq_true rfl⟩ ⟨(by show (4 * (z9 - 1) + 12) + 1 ≤ (4 * z9 + 9); omega), (by show 8 + (4 + 11) + (160 * (z9 - 1) + 1480) ≤ (160 * z9 + 1360); omega)⟩ (fun v197 u195 H locs hw196 hP hD hS => ?_)
            obtain ⟨fa198, pl199, dn200, wt201, wf202, ty203, mn204⟩ := u195
            obtain ⟨hw196, h205, h206, h207, h208, h209⟩ := hw196
            replace h205 : fa176 ≤ fa198 := h205
            replace h206 : fa198 ≤ 15 := h206
            replace h207 : ChE B nd c185 ty25 ty203 mn26 mn204 := h207
            replace h208 : mnN B nd mn204 := h208
            replace h209 : If (fa198 = 0) (Typ B dc fd md nd ty203 mn204 vt sc k9 c185 ∧ ty203 c185 = nI r19) := h209
            obtain rfl : v197 = none := hw196
            have hP : va_P G.1 pCl (mW G h0 a (upd (upd (upd (upd (upd (upd (upd (upd (upd F 15 (nI fa198)) 16 pl199) 44 (nI fd)) 49 (nI md)) 73 (nI sc)) 74 (nI k9)) 77 dn200) 78 wt201) 79 wf202) (updA (updA (updA (updA (updA B 14 nc) 17 ty203) 18 mn204) 48 vn) 49 vt)) _ := mW_to (F := F) (l1 := [(15, (nI fa176)), (16, pl177), (44, (nI fd)), (49, (nI md)), (73, (nI sc)), (74, (nI k9)), (77, dn22), (78, wt23), (79, wf24), (15, (nI fa198)), (16, pl199), (44, (nI fd)), (49, (nI md)), (73, (nI sc)), (74, (nI k9)), (77, dn200), (78, wt201), (79, wf202)]) (l2 := [(15, (nI fa198)), (16, pl199), (44, (nI fd)), (49, (nI md)), (73, (nI sc)), (74, (nI k9)), (77, dn200), (78, wt201), (79, wf202)]) (V := [(nI fa198), pl199, (nI fd), (nI md), (nI sc), (nI k9), dn200, wt201, wf202, (nI fa198), pl199, (nI fd), (nI md), (nI sc), (nI k9), dn200, wt201, wf202, (nI fa198), pl199, (nI fd), (nI md), (nI sc), (nI k9), dn200, wt201, wf202]) rfl rfl rfl hP
            have hD : va_D A (mW G h0 a (upd (upd (upd (upd (upd (upd (upd (upd (upd F 15 (nI fa198)) 16 pl199) 44 (nI fd)) 49 (nI md)) 73 (nI sc)) 74 (nI k9)) 77 dn200) 78 wt201) 79 wf202) (updA (updA (updA (updA (updA B 14 nc) 17 ty203) 18 mn204) 48 vn) 49 vt)) := mW_D hD
            refine W.widen (k := 0) (n := 0) (Nat.le_of_ble_eq_true rfl) (Nat.le_of_ble_eq_true rfl) ?_
            refine W.eq (g2 := F0 m 137 ls []) rfl ?_
            have hch210 : ChE B nd n9 ty ty203 mn mn204 := (ChE.trans hch35 (ChE.kid h207 (by omega) hp188))
            have hy211 : If (fa20 = 0) (Typ B dc fd md nd ty203 mn204 vt sc k9 c6) := (fun e => Typ.beside hF (by omega) hn9 (h33 e) h8 h187 hp9 hp188 (fun e => by have z := hg13; rw [e] at z; have := hg192; omega) h207)
            have ht212 : ty203 c6 = nI r19 := ((ChE.at hF (by omega) hn9 h8 h187 hp9 hp188 (fun e => by have z := hg13; rw [e] at z; have := hg192; omega) h207).trans h34)
            refine lv_aload_n hx hb dX12_two_137 rfl (lv_at hl 2 rfl) ?_
            refine lv_iload_n hx hb dX12_two_138 rfl (lv_at hl 0 rfl) ?_
            have hP : va_P G.1 pCl (mW G h0 a (upd (upd (upd (upd (upd (upd (upd (upd (upd (upd F 15 (nI fa198)) 16 pl199) 44 (nI fd)) 49 (nI md)) 73 (nI sc)) 74 (nI k9)) 77 dn200) 78 wt201) 79 wf202) 77 dn200) (updA (updA (updA (updA (updA B 14 nc) 17 ty203) 18 mn204) 48 vn) 49 vt)) _ := mW_to (F := F) (l1 := [(15, (nI fa198)), (16, pl199), (44, (nI fd)), (49, (nI md)), (73, (nI sc)), (74, (nI k9)), (77, dn200), (78, wt201), (79, wf202)]) (l2 := [(15, (nI fa198)), (16, pl199), (44, (nI fd)), (49, (nI md)), (73, (nI sc)), (74, (nI k9)), (77, dn200), (78, wt201), (79, wf202), (77, dn200)]) (V := [(nI fa198), pl199, (nI fd), (nI md), (nI sc), (nI k9), dn200, wt201, wf202, (nI fa198), pl199, (nI fd), (nI md), (nI sc), (nI k9), dn200, wt201, wf202, dn200]) rfl rfl rfl hP
            have hD : va_D A (mW G h0 a (upd (upd (upd (upd (upd (upd (upd (upd (upd (upd F 15 (nI fa198)) 16 pl199) 44 (nI fd)) 49 (nI md)) 73 (nI sc)) 74 (nI k9)) 77 dn200) 78 wt201) 79 wf202) 77 dn200) (updA (updA (updA (updA (updA B 14 nc) 17 ty203) 18 mn204) 48 vn) 49 vt)) := mW_D hD
            refine pc_V0 (G := G) (As := [.int (nI r19)]) (rest := []) hx hb hml hown hq hE hX pX0_al hP hD hS hA hl.1 (R_behind l G h0 a (upd (upd (upd (upd (upd (upd (upd (upd (upd F 15 (nI fa198)) 16 pl199) 44 (nI fd)) 49 (nI md)) 73 (nI sc)) 74 (nI k9)) 77 dn200) 78 wt201) 79 wf202) (updA (updA (updA (updA (updA B 14 nc) 17 ty203) 18 mn204) 48 vn) 49 vt) (nI r19) dn200) (gV pw_1832 pw_1833 pw_1834 pw_1523 pw_1804) hV_X12_behind 0 9 rfl rfl rfl rfl (Nat.le_of_ble_eq_true rfl) dX12_two_139 ⟨Nat.le_of_ble_eq_true rfl, Nat.le_of_ble_eq_true rfl⟩ ⟨(by show 2 + 1 ≤ (4 * z9 + 9); omega), (by show 8 + (2 + 11) + 60 ≤ (160 * z9 + 1360); omega)⟩ (fun v215 u213 H locs hw214 hP hD hS => ?_)
            obtain rfl : v215 = some (.int (nI r19)) := hw214
            have hP : va_P G.1 pCl (mW G h0 a (upd (upd (upd (upd (upd (upd (upd (upd (upd F 15 (nI fa198)) 16 pl199) 44 (nI fd)) 49 (nI md)) 73 (nI sc)) 74 (nI k9)) 77 dn200) 78 dn200) 79 dn200) (updA (updA (updA (updA (updA B 14 nc) 17 ty203) 18 mn204) 48 vn) 49 vt)) _ := mW_to (F := F) (l1 := [(15, (nI fa198)), (16, pl199), (44, (nI fd)), (49, (nI md)), (73, (nI sc)), (74, (nI k9)), (77, dn200), (78, wt201), (79, wf202), (77, dn200), (78, dn200), (79, dn200)]) (l2 := [(15, (nI fa198)), (16, pl199), (44, (nI fd)), (49, (nI md)), (73, (nI sc)), (74, (nI k9)), (77, dn200), (78, dn200), (79, dn200)]) (V := [(nI fa198), pl199, (nI fd), (nI md), (nI sc), (nI k9), dn200, dn200, dn200, dn200, dn200, dn200, (nI fa198), pl199, (nI fd), (nI md), (nI sc), (nI k9), dn200, dn200, dn200]) rfl rfl rfl hP
            have hD : va_D A (mW G h0 a (upd (upd (upd (upd (upd (upd (upd (upd (upd F 15 (nI fa198)) 16 pl199) 44 (nI fd)) 49 (nI md)) 73 (nI sc)) 74 (nI k9)) 77 dn200) 78 dn200) 79 dn200) (updA (updA (updA (updA (updA B 14 nc) 17 ty203) 18 mn204) 48 vn) 49 vt)) := mW_D hD
            refine W.widen (k := 0) (n := 0) (Nat.le_of_ble_eq_true rfl) (Nat.le_of_ble_eq_true rfl) ?_
            refine W.eq (g2 := F0 m 142 ls [.int (nI r19)]) rfl ?_
            have hz216 : fa ≤ fa198 := (by omega)
            have hz217 : fa198 ≤ 15 := (by omega)
            have hz218 : TyC dc r19 := h29
            have hz219 : r19 ≤ 2050 := (by omega)
            have hz220 : ChE B nd n9 ty ty203 mn mn204 := hch210
            have hz221 : mnN B nd mn204 := h208
            have hz222 : If (fa198 = 0) (Typ0 B dc fd md nd ty203 mn204 vt sc k9 n9 (nI r19)) := (fun e => absurd e (by omega))
            have hP : va_P G.1 pCl (mW G h0 a (upd (upd (upd (upd (upd (upd (upd (upd (upd F 15 (nI fa198)) 16 pl199) 44 (nI fd)) 49 (nI md)) 73 (nI sc)) 74 (nI k9)) 77 dn200) 78 dn200) 79 dn200) (updA (updA (updA (updA (updA B 14 nc) 17 ty203) 18 mn204) 48 vn) 49 vt)) _ := hP
            have hD : va_D A (mW G h0 a (upd (upd (upd (upd (upd (upd (upd (upd (upd F 15 (nI fa198)) 16 pl199) 44 (nI fd)) 49 (nI md)) 73 (nI sc)) 74 (nI k9)) 77 dn200) 78 dn200) 79 dn200) (updA (updA (updA (updA (updA B 14 nc) 17 ty203) 18 mn204) 48 vn) 49 vt)) := mW_D hD
            exact W.iret (v := (nI r19)) hx hb hr (fun t9 ht9 hW9 => ⟨⟨_, (r19, fa198, pl199, dn200, dn200, dn200, ty203, mn204), rfl, ⟨rfl, hz216, hz217, hz218, hz219, hz220, hz221, hz222⟩, by rw [ht9]; exact hP, hD⟩, hS.F ht9⟩) hS.2.2 dX12_two_142
          · have n223 : r19 = 2 := (nI_eq (a := r19) (b := 2) (by omega) (by omega)).mp c163
            refine lv_iconst (v := 1) hx hb dX12_two_104 (by decide) ?_
            refine lv_goto (tgt := 109) hx hb dX12_two_105 (by decide) ?_
            refine lv_bipush (v := 11) hx hb dX12_two_109 (by decide) ?_
            refine lv_aload_n hx hb dX12_two_111 rfl (lv_at hl 2 rfl) ?_
            refine r_get (v := .ref (a 10)) hx hb hown hq hE hP 18 41 tFX12_18 (by decide) pw_1440 rfl dX12_two_112 ?_
            refine lv_aload_n hx hb dX12_two_115 rfl (lv_at hl 2 rfl) ?_
            refine r_get (v := .ref (a 12)) hx hb hown hq hE hP 20 47 tFX12_20 (by decide) pw_1442 rfl dX12_two_116 ?_
            refine lv_iload_n hx hb dX12_two_119 rfl (lv_at hl 3 rfl) ?_
            refine r_ldi (f := (B 12)) (j := n9) hx hb hE hP 12 (ma_12 G a _) rfl (by omega) (by decide) dX12_two_120 ?_
            refine lv_topi (fun x224 e225 => ?_)
            obtain rfl : x224 = nI c6 := e225.trans e7
            refine r_ldi (f := (B 10)) (j := c6) hx hb hE hP 10 (ma_10 G a _) rfl (by omega) (by decide) dX12_two_121 ?_
            obtain ⟨⟨t226, e227, h228⟩, -⟩ := hF c6 h8
            refine lv_topi (fun x229 e230 => ?_)
            obtain rfl : x229 = nI t226 := e230.trans e227
            have hP : va_P G.1 pCl (mW G h0 a (upd (upd (upd (upd (upd (upd (upd (upd (upd (upd F 15 (nI fa20)) 16 pl21) 44 (nI fd)) 49 (nI md)) 73 (nI sc)) 74 (nI k9)) 77 dn22) 78 wt23) 79 wf24) 15 (nI fa20)) (updA (updA (updA (updA (updA B 14 nc) 17 ty25) 18 mn26) 48 vn) 49 vt)) _ := mW_to (F := F) (l1 := [(15, (nI fa20)), (16, pl21), (44, (nI fd)), (49, (nI md)), (73, (nI sc)), (74, (nI k9)), (77, dn22), (78, wt23), (79, wf24)]) (l2 := [(15, (nI fa20)), (16, pl21), (44, (nI fd)), (49, (nI md)), (73, (nI sc)), (74, (nI k9)), (77, dn22), (78, wt23), (79, wf24), (15, (nI fa20))]) (V := [(nI fa20), pl21, (nI fd), (nI md), (nI sc), (nI k9), dn22, wt23, wf24, (nI fa20), pl21, (nI fd), (nI md), (nI sc), (nI k9), dn22, wt23, wf24, (nI fa20)]) rfl rfl rfl hP
            have hD : va_D A (mW G h0 a (upd (upd (upd (upd (upd (upd (upd (upd (upd (upd F 15 (nI fa20)) 16 pl21) 44 (nI fd)) 49 (nI md)) 73 (nI sc)) 74 (nI k9)) 77 dn22) 78 wt23) 79 wf24) 15 (nI fa20)) (updA (updA (updA (updA (updA B 14 nc) 17 ty25) 18 mn26) 48 vn) 49 vt)) := mW_D hD
            refine pc_V0 (G := G) (As := [.int (nI 1), .int (nI 11), .int (nI t226)]) (rest := []) hx hb hml hown hq hE hX pX0_al hP hD hS hA hl.1 (R_judgeL l G h0 a (upd (upd (upd (upd (upd (upd (upd (upd (upd F 15 (nI fa20)) 16 pl21) 44 (nI fd)) 49 (nI md)) 73 (nI sc)) 74 (nI k9)) 77 dn22) 78 wt23) 79 wf24) (updA (updA (updA (updA (updA B 14 nc) 17 ty25) 18 mn26) 48 vn) 49 vt) 1 11 t226 fa20 (by omega) (by omega) (by omega) (by omega)) (gV pw_1798 pw_1799 pw_1800 pw_1523 pw_1793) hV_X12_judge 0 9 rfl rfl rfl rfl (Nat.le_of_ble_eq_true rfl) dX12_two_122 ⟨Nat.le_of_ble_eq_true rfl, Nat.le_of_ble_eq_true rfl⟩ ⟨(by show 3 + 1 ≤ (4 * z9 + 9); omega), (by show 8 + (4 + 11) + 82 ≤ (160 * z9 + 1360); omega)⟩ (fun v233 u231 H locs hw232 hP hD hS => ?_)
            obtain ⟨r234, fa235, pl236⟩ := u231
            obtain ⟨hw232, h237, h238, h239, h240, h241, h242, h243⟩ := hw232
            replace h237 : r234 ≤ 1 := h237
            replace h238 : fa20 ≤ fa235 := h238
            replace h239 : fa235 ≤ 15 := h239
            replace h240 : fa235 + 15 * r234 ≤ 15 := h240
            replace h241 : 1 ≤ r234 + fa235 := h241
            replace h242 : 1 ≤ 1 + fa235 := h242
            replace h243 : fa235 ≤ fa20 + 15 * (1 - 1) := h243
            obtain rfl : v233 = some (.int (nI r234)) := hw232
            have hP : va_P G.1 pCl (mW G h0 a (upd (upd (upd (upd (upd (upd (upd (upd (upd F 15 (nI fa235)) 16 pl236) 44 (nI fd)) 49 (nI md)) 73 (nI sc)) 74 (nI k9)) 77 dn22) 78 wt23) 79 wf24) (updA (updA (updA (updA (updA B 14 nc) 17 ty25) 18 mn26) 48 vn) 49 vt)) _ := mW_to (F := F) (l1 := [(15, (nI fa20)), (16, pl21), (44, (nI fd)), (49, (nI md)), (73, (nI sc)), (74, (nI k9)), (77, dn22), (78, wt23), (79, wf24), (15, (nI fa235)), (16, pl236)]) (l2 := [(15, (nI fa235)), (16, pl236), (44, (nI fd)), (49, (nI md)), (73, (nI sc)), (74, (nI k9)), (77, dn22), (78, wt23), (79, wf24)]) (V := [(nI fa235), pl236, (nI fd), (nI md), (nI sc), (nI k9), dn22, wt23, wf24, (nI fa235), pl236, (nI fa235), pl236, (nI fd), (nI md), (nI sc), (nI k9), dn22, wt23, wf24]) rfl rfl rfl hP
            have hD : va_D A (mW G h0 a (upd (upd (upd (upd (upd (upd (upd (upd (upd F 15 (nI fa235)) 16 pl236) 44 (nI fd)) 49 (nI md)) 73 (nI sc)) 74 (nI k9)) 77 dn22) 78 wt23) 79 wf24) (updA (updA (updA (updA (updA B 14 nc) 17 ty25) 18 mn26) 48 vn) 49 vt)) := mW_D hD
            refine W.widen (k := 0) (n := 0) (Nat.le_of_ble_eq_true rfl) (Nat.le_of_ble_eq_true rfl) ?_
            refine W.eq (g2 := F0 m 125 ls [.int (nI r234)]) rfl ?_
            refine lv_pop hx hb dX12_two_125 rfl ?_
            refine lv_aload_n hx hb dX12_two_126 rfl (lv_at hl 2 rfl) ?_
            refine lv_aload_n hx hb dX12_two_127 rfl (lv_at hl 2 rfl) ?_
            refine r_get (v := .ref (a 13)) hx hb hown hq hE hP 21 50 tFX12_21 (by decide) pw_1443 rfl dX12_two_128 ?_
            refine lv_iload_n hx hb dX12_two_131 rfl (lv_at hl 3 rfl) ?_
            refine r_ldi (f := (B 13)) (j := n9) hx hb hE hP 13 (ma_13 G a _) rfl (by omega) (by decide) dX12_two_132 ?_
            obtain ⟨c244, e245, h246, hp247, h248, hc249, hh250, hg251⟩ := Fs2.kid (kk := 18) (s := 2) hF hn9 hkd (by decide) (by decide) (by decide) (by decide) (by omega)
            refine lv_topi (fun x252 e253 => ?_)
            obtain rfl : x252 = nI c244 := e253.trans e245
            refine lv_iload_n hx hb dX12_two_133 rfl (lv_at hl 0 rfl) ?_
            have hP : va_P G.1 pCl (mW G h0 a (upd (upd (upd (upd (upd (upd (upd (upd (upd (upd (upd (upd (upd (upd (upd (upd (upd F 15 (nI fa235)) 16 pl236) 44 (nI fd)) 49 (nI md)) 73 (nI sc)) 74 (nI k9)) 77 dn22) 78 wt23) 79 wf24) 15 (nI fa235)) 44 (nI fd)) 49 (nI md)) 73 (nI sc)) 74 (nI k9)) 77 dn22) 78 wt23) 79 wf24) (updA (updA (updA (updA (updA B 14 nc) 17 ty25) 18 mn26) 48 vn) 49 vt)) _ := mW_to (F := F) (l1 := [(15, (nI fa235)), (16, pl236), (44, (nI fd)), (49, (nI md)), (73, (nI sc)), (74, (nI k9)), (77, dn22), (78, wt23), (79, wf24)]) (l2 := [(15, (nI fa235)), (16, pl236), (44, (nI fd)), (49, (nI md)), (73, (nI sc)), (74, (nI k9)), (77, dn22), (78, wt23), (79, wf24), (15, (nI fa235)), (44, (nI fd)), (49, (nI md)), (73, (nI sc)), (74, (nI k9)), (77, dn22), (78, wt23), (79, wf24)]) (V := [(nI fa235), pl236, (nI fd), (nI md), (nI sc), (nI k9), dn22, wt23, wf24, (nI fa235), pl236, (nI fd), (nI md), (nI sc), (nI k9), dn22, wt23, wf24, (nI fa235), (nI fd), (nI md), (nI sc), (nI k9), dn22, wt23, wf24]) rfl rfl rfl hP
            have hD : va_D A (mW G h0 a (upd (upd (upd (upd (upd (upd (upd (upd (upd (upd (upd (upd (upd (upd (upd (upd (upd F 15 (nI fa235)) 16 pl236) 44 (nI fd)) 49 (nI md)) 73 (nI sc)) 74 (nI k9)) 77 dn22) 78 wt23) 79 wf24) 15 (nI fa235)) 44 (nI fd)) 49 (nI md)) 73 (nI sc)) 74 (nI k9)) 77 dn22) 78 wt23) 79 wf24) (updA (updA (updA (updA (updA B 14 nc) 17 ty25) 18 mn26) 48 vn) 49 vt)) := mW_D hD
            refine pc_V0 (G := G) (As := [.int (nI c244), .int (nI r19)]) (rest := []) hx hb hml hown hq hE hX pX0_al hP hD hS hA hl.1 (ihW h0 a (upd (upd (upd (upd (upd (upd (upd (upd (upd F 15 (nI fa235)) 16 pl236) 44 (nI fd)) 49 (nI md)) 73 (nI sc)) 74 (nI k9)) 77 dn22) 78 wt23) 79 wf24) B c244 fa235 sc k9 nd T nm wr lz dc fd md pr bk gh dn22 wt23 wf24 nc ty25 mn26 vn vt r19 hst hnm h246 (by omega) (by omega) (by omega) hk9 hnc h32 hvt (show kcl 1 _ = true from hc249) (by omega)) (gV pw_1826 pw_1827 pw_1828 pw_1523 pw_1865) hV_X12_wants 0 9 rfl rfl rfl rfl (Nat.le_of_ble_eq_true rfl) dX12_two_134 ⟨Nat.le_of_ble_eq_true rfl, Nat.le_of_ble_eq_true rfl⟩ ⟨(by show (4 * (z9 - 1) + 12) + 1 ≤ (4 * z9 + 9); omega), (by show 8 + (4 + 11) + (160 * (z9 - 1) + 1480) ≤ (160 * z9 + 1360); omega)⟩ (fun v256 u254 H locs hw255 hP hD hS => ?_)
            obtain ⟨fa257, pl258, dn259, wt260, wf261, ty262, mn263⟩ := u254
            obtain ⟨hw255, h264, h265, h266, h267, h268⟩ := hw255
            replace h264 : fa235 ≤ fa257 := h264
            replace h265 : fa257 ≤ 15 := h265
            replace h266 : ChE B nd c244 ty25 ty262 mn26 mn263 := h266
            replace h267 : mnN B nd mn263 := h267
            replace h268 : If (fa257 = 0) (Typ B dc fd md nd ty262 mn263 vt sc k9 c244 ∧ ty262 c244 = nI r19) := h268
            obtain rfl : v256 = none := hw255
            have hP : va_P G.1 pCl (mW G h0 a (upd (upd (upd (upd (upd (upd (upd (upd (upd F 15 (nI fa257)) 16 pl258) 44 (nI fd)) 49 (nI md)) 73 (nI sc)) 74 (nI k9)) 77 dn259) 78 wt260) 79 wf261) (updA (updA (updA (updA (updA B 14 nc) 17 ty262) 18 mn263) 48 vn) 49 vt)) _ := mW_to (F := F) (l1 := [(15, (nI fa235)), (16, pl236), (44, (nI fd)), (49, (nI md)), (73, (nI sc)), (74, (nI k9)), (77, dn22), (78, wt23), (79, wf24), (15, (nI fa257)), (16, pl258), (44, (nI fd)), (49, (nI md)), (73, (nI sc)), (74, (nI k9)), (77, dn259), (78, wt260), (79, wf261)]) (l2 := [(15, (nI fa257)), (16, pl258), (44, (nI fd)), (49, (nI md)), (73, (nI sc)), (74, (nI k9)), (77, dn259), (78, wt260), (79, wf261)]) (V := [(nI fa257), pl258, (nI fd), (nI md), (nI sc), (nI k9), dn259, wt260, wf261, (nI fa257), pl258, (nI fd), (nI md), (nI sc), (nI k9), dn259, wt260, wf261, (nI fa257), pl258, (nI fd), (nI md), (nI sc), (nI k9), dn259, wt260, wf261]) rfl rfl rfl hP
            have hD : va_D A (mW G h0 a (upd (upd (upd (upd (upd (upd (upd (upd (upd F 15 (nI fa257)) 16 pl258) 44 (nI fd)) 49 (nI md)) 73 (nI sc)) 74 (nI k9)) 77 dn259) 78 wt260) 79 wf261) (updA (updA (updA (updA (updA B 14 nc) 17 ty262) 18 mn263) 48 vn) 49 vt)) := mW_D hD
            refine W.widen (k := 0) (n := 0) (Nat.le_of_ble_eq_true rfl) (Nat.le_of_ble_eq_true rfl) ?_
            refine W.eq (g2 := F0 m 137 ls []) rfl ?_
            have hch269 : ChE B nd n9 ty ty262 mn mn263 := (ChE.trans hch35 (ChE.kid h266 (by omega) hp247))
            have hy270 : If (fa20 = 0) (Typ B dc fd md nd ty262 mn263 vt sc k9 c6) := (fun e => Typ.beside hF (by omega) hn9 (h33 e) h8 h246 hp9 hp247 (fun e => by have z := hg13; rw [e] at z; have := hg251; omega) h266)
            have ht271 : ty262 c6 = nI r19 := ((ChE.at hF (by omega) hn9 h8 h246 hp9 hp247 (fun e => by have z := hg13; rw [e] at z; have := hg251; omega) h266).trans h34)
            refine lv_aload_n hx hb dX12_two_137 rfl (lv_at hl 2 rfl) ?_
            refine lv_iload_n hx hb dX12_two_138 rfl (lv_at hl 0 rfl) ?_
            have hP : va_P G.1 pCl (mW G h0 a (upd (upd (upd (upd (upd (upd (upd (upd (upd (upd F 15 (nI fa257)) 16 pl258) 44 (nI fd)) 49 (nI md)) 73 (nI sc)) 74 (nI k9)) 77 dn259) 78 wt260) 79 wf261) 77 dn259) (updA (updA (updA (updA (updA B 14 nc) 17 ty262) 18 mn263) 48 vn) 49 vt)) _ := mW_to (F := F) (l1 := [(15, (nI fa257)), (16, pl258), (44, (nI fd)), (49, (nI md)), (73, (nI sc)), (74, (nI k9)), (77, dn259), (78, wt260), (79, wf261)]) (l2 := [(15, (nI fa257)), (16, pl258), (44, (nI fd)), (49, (nI md)), (73, (nI sc)), (74, (nI k9)), (77, dn259), (78, wt260), (79, wf261), (77, dn259)]) (V := [(nI fa257), pl258, (nI fd), (nI md), (nI sc), (nI k9), dn259, wt260, wf261, (nI fa257), pl258, (nI fd), (nI md), (nI sc), (nI k9), dn259, wt260, wf261, dn259]) rfl rfl rfl hP
            have hD : va_D A (mW G h0 a (upd (upd (upd (upd (upd (upd (upd (upd (upd (upd F 15 (nI fa257)) 16 pl258) 44 (nI fd)) 49 (nI md)) 73 (nI sc)) 74 (nI k9)) 77 dn259) 78 wt260) 79 wf261) 77 dn259) (updA (updA (updA (updA (updA B 14 nc) 17 ty262) 18 mn263) 48 vn) 49 vt)) := mW_D hD
            refine pc_V0 (G := G) (As := [.int (nI r19)]) (rest := []) hx hb hml hown hq hE hX pX0_al hP hD hS hA hl.1 (R_behind l G h0 a (upd (upd (upd (upd (upd (upd (upd (upd (upd F 15 (nI fa257)) 16 pl258) 44 (nI fd)) 49 (nI md)) 73 (nI sc)) 74 (nI k9)) 77 dn259) 78 wt260) 79 wf261) (updA (updA (updA (updA (updA B 14 nc) 17 ty262) 18 mn263) 48 vn) 49 vt) (nI r19) dn259) (gV pw_1832 pw_1833 pw_1834 pw_1523 pw_1804) hV_X12_behind 0 9 rfl rfl rfl rfl (Nat.le_of_ble_eq_true rfl) dX12_two_139 ⟨Nat.le_of_ble_eq_true rfl, Nat.le_of_ble_eq_true rfl⟩ ⟨(by show 2 + 1 ≤ (4 * z9 + 9); omega), (by show 8 + (2 + 11) + 60 ≤ (160 * z9 + 1360); omega)⟩ (fun v274 u272 H locs hw273 hP hD hS => ?_)
            obtain rfl : v274 = some (.int (nI r19)) := hw273
            have hP : va_P G.1 pCl (mW G h0 a (upd (upd (upd (upd (upd (upd (upd (upd (upd F 15 (nI fa257)) 16 pl258) 44 (nI fd)) 49 (nI md)) 73 (nI sc)) 74 (nI k9)) 77 dn259) 78 dn259) 79 dn259) (updA (updA (updA (updA (updA B 14 nc) 17 ty262) 18 mn263) 48 vn) 49 vt)) _ := mW_to (F := F) (l1 := [(15, (nI fa257)), (16, pl258), (44, (nI fd)), (49, (nI md)), (73, (nI sc)), (74, (nI k9)), (77, dn259), (78, wt260), (79, wf261), (77, dn259), (78, dn259), (79, dn259)]) (l2 := [(15, (nI fa257)), (16, pl258), (44, (nI fd)), (49, (nI md)), (73, (nI sc)), (74, (nI k9)), (77, dn259), (78, dn259), (79, dn259)]) (V := [(nI fa257), pl258, (nI fd), (nI md), (nI sc), (nI k9), dn259, dn259, dn259, dn259, dn259, dn259, (nI fa257), pl258, (nI fd), (nI md), (nI sc), (nI k9), dn259, dn259, dn259]) rfl rfl rfl hP
            have hD : va_D A (mW G h0 a (upd (upd (upd (upd (upd (upd (upd (upd (upd F 15 (nI fa257)) 16 pl258) 44 (nI fd)) 49 (nI md)) 73 (nI sc)) 74 (nI k9)) 77 dn259) 78 dn259) 79 dn259) (updA (updA (updA (updA (updA B 14 nc) 17 ty262) 18 mn263) 48 vn) 49 vt)) := mW_D hD
            refine W.widen (k := 0) (n := 0) (Nat.le_of_ble_eq_true rfl) (Nat.le_of_ble_eq_true rfl) ?_
            refine W.eq (g2 := F0 m 142 ls [.int (nI r19)]) rfl ?_
            have hz275 : fa ≤ fa257 := (by omega)
            have hz276 : fa257 ≤ 15 := (by omega)
            have hz277 : TyC dc r19 := h29
            have hz278 : r19 ≤ 2050 := (by omega)
            have hz279 : ChE B nd n9 ty ty262 mn mn263 := hch269
            have hz280 : mnN B nd mn263 := h267
            have hz281 : If (fa257 = 0) (Typ0 B dc fd md nd ty262 mn263 vt sc k9 n9 (nI r19)) := (fun e => Typ0.of (kids (kk := 18) (c1 := c6) (c2 := c244) (c3 := c6) hkd (by decide) ⟨by omega, by omega, by omega⟩ (Or.inr ⟨by decide, e7⟩) (Or.inr ⟨by decide, e245⟩) (Or.inl (by decide)) (by decide) (hy270 (by omega)) ((fun e => (h268 e).1) (by omega)) (hy270 (by omega))) (LT18 hkd hh12 hh250 ht271 (by omega) (h268 (by omega)).2 (by omega) (by first | exact Or.inl (by rw [show r19 = 1 by omega]; rfl) | exact Or.inr (by rw [show r19 = 2 by omega]; rfl))))
            have hP : va_P G.1 pCl (mW G h0 a (upd (upd (upd (upd (upd (upd (upd (upd (upd F 15 (nI fa257)) 16 pl258) 44 (nI fd)) 49 (nI md)) 73 (nI sc)) 74 (nI k9)) 77 dn259) 78 dn259) 79 dn259) (updA (updA (updA (updA (updA B 14 nc) 17 ty262) 18 mn263) 48 vn) 49 vt)) _ := hP
            have hD : va_D A (mW G h0 a (upd (upd (upd (upd (upd (upd (upd (upd (upd F 15 (nI fa257)) 16 pl258) 44 (nI fd)) 49 (nI md)) 73 (nI sc)) 74 (nI k9)) 77 dn259) 78 dn259) 79 dn259) (updA (updA (updA (updA (updA B 14 nc) 17 ty262) 18 mn263) 48 vn) 49 vt)) := mW_D hD
            exact W.iret (v := (nI r19)) hx hb hr (fun t9 ht9 hW9 => ⟨⟨_, (r19, fa257, pl258, dn259, dn259, dn259, ty262, mn263), rfl, ⟨rfl, hz275, hz276, hz277, hz278, hz279, hz280, hz281⟩, by rw [ht9]; exact hP, hD⟩, hS.F ht9⟩) hS.2.2 dX12_two_142
      · refine lv_iload_n hx hb dX12_two_81 rfl (lv_at hl 1 rfl) ?_
        refine lv_bipush (v := 124) hx hb dX12_two_82 (by decide) ?_
        refine lv_icmp_eq (tgt := 93) hx hb dX12_two_84 (by decide) (fun c282 => ?_) (fun c282 => ?_)
        · refine lv_aload_n hx hb dX12_two_93 rfl (lv_at hl 2 rfl) ?_
          refine lv_iload_n hx hb dX12_two_94 rfl (lv_at hl 0 rfl) ?_
          refine lv_iconst (v := 1) hx hb dX12_two_95 (by decide) ?_
          refine lv_icmp_eq (tgt := 104) hx hb dX12_two_96 (by decide) (fun c283 => ?_) (fun c283 => ?_)
          · have n284 : r19 = 1 := (nI_eq (a := r19) (b := 1) (by omega) (by omega)).mp c283
            refine lv_iconst (v := 1) hx hb dX12_two_104 (by decide) ?_
            refine lv_goto (tgt := 109) hx hb dX12_two_105 (by decide) ?_
            refine lv_bipush (v := 11) hx hb dX12_two_109 (by decide) ?_
            refine lv_aload_n hx hb dX12_two_111 rfl (lv_at hl 2 rfl) ?_
            refine r_get (v := .ref (a 10)) hx hb hown hq hE hP 18 41 tFX12_18 (by decide) pw_1440 rfl dX12_two_112 ?_
            refine lv_aload_n hx hb dX12_two_115 rfl (lv_at hl 2 rfl) ?_
            refine r_get (v := .ref (a 12)) hx hb hown hq hE hP 20 47 tFX12_20 (by decide) pw_1442 rfl dX12_two_116 ?_
            refine lv_iload_n hx hb dX12_two_119 rfl (lv_at hl 3 rfl) ?_
            refine r_ldi (f := (B 12)) (j := n9) hx hb hE hP 12 (ma_12 G a _) rfl (by omega) (by decide) dX12_two_120 ?_
            refine lv_topi (fun x285 e286 => ?_)
            obtain rfl : x285 = nI c6 := e286.trans e7
            refine r_ldi (f := (B 10)) (j := c6) hx hb hE hP 10 (ma_10 G a _) rfl (by omega) (by decide) dX12_two_121 ?_
            obtain ⟨⟨t287, e288, h289⟩, -⟩ := hF c6 h8
            refine lv_topi (fun x290 e291 => ?_)
            obtain rfl : x290 = nI t287 := e291.trans e288
            have hP : va_P G.1 pCl (mW G h0 a (upd (upd (upd (upd (upd (upd (upd (upd (upd (upd F 15 (nI fa20)) 16 pl21) 44 (nI fd)) 49 (nI md)) 73 (nI sc)) 74 (nI k9)) 77 dn22) 78 wt23) 79 wf24) 15 (nI fa20)) (updA (updA (updA (updA (updA B 14 nc) 17 ty25) 18 mn26) 48 vn) 49 vt)) _ := mW_to (F := F) (l1 := [(15, (nI fa20)), (16, pl21), (44, (nI fd)), (49, (nI md)), (73, (nI sc)), (74, (nI k9)), (77, dn22), (78, wt23), (79, wf24)]) (l2 := [(15, (nI fa20)), (16, pl21), (44, (nI fd)), (49, (nI md)), (73, (nI sc)), (74, (nI k9)), (77, dn22), (78, wt23), (79, wf24), (15, (nI fa20))]) (V := [(nI fa20), pl21, (nI fd), (nI md), (nI sc), (nI k9), dn22, wt23, wf24, (nI fa20), pl21, (nI fd), (nI md), (nI sc), (nI k9), dn22, wt23, wf24, (nI fa20)]) rfl rfl rfl hP
            have hD : va_D A (mW G h0 a (upd (upd (upd (upd (upd (upd (upd (upd (upd (upd F 15 (nI fa20)) 16 pl21) 44 (nI fd)) 49 (nI md)) 73 (nI sc)) 74 (nI k9)) 77 dn22) 78 wt23) 79 wf24) 15 (nI fa20)) (updA (updA (updA (updA (updA B 14 nc) 17 ty25) 18 mn26) 48 vn) 49 vt)) := mW_D hD
            refine pc_V0 (G := G) (As := [.int (nI 1), .int (nI 11), .int (nI t287)]) (rest := []) hx hb hml hown hq hE hX pX0_al hP hD hS hA hl.1 (R_judgeL l G h0 a (upd (upd (upd (upd (upd (upd (upd (upd (upd F 15 (nI fa20)) 16 pl21) 44 (nI fd)) 49 (nI md)) 73 (nI sc)) 74 (nI k9)) 77 dn22) 78 wt23) 79 wf24) (updA (updA (updA (updA (updA B 14 nc) 17 ty25) 18 mn26) 48 vn) 49 vt) 1 11 t287 fa20 (by omega) (by omega) (by omega) (by omega)) (gV pw_1798 pw_1799 pw_1800 pw_1523 pw_1793) hV_X12_judge 0 9 rfl rfl rfl rfl (Nat.le_of_ble_eq_true rfl) dX12_two_122 ⟨Nat.le_of_ble_eq_true rfl, Nat.le_of_ble_eq_true rfl⟩ ⟨(by show 3 + 1 ≤ (4 * z9 + 9); omega), (by show 8 + (4 + 11) + 82 ≤ (160 * z9 + 1360); omega)⟩ (fun v294 u292 H locs hw293 hP hD hS => ?_)
            obtain ⟨r295, fa296, pl297⟩ := u292
            obtain ⟨hw293, h298, h299, h300, h301, h302, h303, h304⟩ := hw293
            replace h298 : r295 ≤ 1 := h298
            replace h299 : fa20 ≤ fa296 := h299
            replace h300 : fa296 ≤ 15 := h300
            replace h301 : fa296 + 15 * r295 ≤ 15 := h301
            replace h302 : 1 ≤ r295 + fa296 := h302
            replace h303 : 1 ≤ 1 + fa296 := h303
            replace h304 : fa296 ≤ fa20 + 15 * (1 - 1) := h304
            obtain rfl : v294 = some (.int (nI r295)) := hw293
            have hP : va_P G.1 pCl (mW G h0 a (upd (upd (upd (upd (upd (upd (upd (upd (upd F 15 (nI fa296)) 16 pl297) 44 (nI fd)) 49 (nI md)) 73 (nI sc)) 74 (nI k9)) 77 dn22) 78 wt23) 79 wf24) (updA (updA (updA (updA (updA B 14 nc) 17 ty25) 18 mn26) 48 vn) 49 vt)) _ := mW_to (F := F) (l1 := [(15, (nI fa20)), (16, pl21), (44, (nI fd)), (49, (nI md)), (73, (nI sc)), (74, (nI k9)), (77, dn22), (78, wt23), (79, wf24), (15, (nI fa296)), (16, pl297)]) (l2 := [(15, (nI fa296)), (16, pl297), (44, (nI fd)), (49, (nI md)), (73, (nI sc)), (74, (nI k9)), (77, dn22), (78, wt23), (79, wf24)]) (V := [(nI fa296), pl297, (nI fd), (nI md), (nI sc), (nI k9), dn22, wt23, wf24, (nI fa296), pl297, (nI fa296), pl297, (nI fd), (nI md), (nI sc), (nI k9), dn22, wt23, wf24]) rfl rfl rfl hP
            have hD : va_D A (mW G h0 a (upd (upd (upd (upd (upd (upd (upd (upd (upd F 15 (nI fa296)) 16 pl297) 44 (nI fd)) 49 (nI md)) 73 (nI sc)) 74 (nI k9)) 77 dn22) 78 wt23) 79 wf24) (updA (updA (updA (updA (updA B 14 nc) 17 ty25) 18 mn26) 48 vn) 49 vt)) := mW_D hD
            refine W.widen (k := 0) (n := 0) (Nat.le_of_ble_eq_true rfl) (Nat.le_of_ble_eq_true rfl) ?_
            refine W.eq (g2 := F0 m 125 ls [.int (nI r295)]) rfl ?_
            refine lv_pop hx hb dX12_two_125 rfl ?_
            refine lv_aload_n hx hb dX12_two_126 rfl (lv_at hl 2 rfl) ?_
            refine lv_aload_n hx hb dX12_two_127 rfl (lv_at hl 2 rfl) ?_
            refine r_get (v := .ref (a 13)) hx hb hown hq hE hP 21 50 tFX12_21 (by decide) pw_1443 rfl dX12_two_128 ?_
            refine lv_iload_n hx hb dX12_two_131 rfl (lv_at hl 3 rfl) ?_
            refine r_ldi (f := (B 13)) (j := n9) hx hb hE hP 13 (ma_13 G a _) rfl (by omega) (by decide) dX12_two_132 ?_
            obtain ⟨c305, e306, h307, hp308, h309, hc310, hh311, hg312⟩ := Fs2.kid (kk := 18) (s := 2) hF hn9 hkd (by decide) (by decide) (by decide) (by decide) (by omega)
            refine lv_topi (fun x313 e314 => ?_)
            obtain rfl : x313 = nI c305 := e314.trans e306
            refine lv_iload_n hx hb dX12_two_133 rfl (lv_at hl 0 rfl) ?_
            have hP : va_P G.1 pCl (mW G h0 a (upd (upd (upd (upd (upd (upd (upd (upd (upd (upd (upd (upd (upd (upd (upd (upd (upd F 15 (nI fa296)) 16 pl297) 44 (nI fd)) 49 (nI md)) 73 (nI sc)) 74 (nI k9)) 77 dn22) 78 wt23) 79 wf24) 15 (nI fa296)) 44 (nI fd)) 49 (nI md)) 73 (nI sc)) 74 (nI k9)) 77 dn22) 78 wt23) 79 wf24) (updA (updA (updA (updA (updA B 14 nc) 17 ty25) 18 mn26) 48 vn) 49 vt)) _ := mW_to (F := F) (l1 := [(15, (nI fa296)), (16, pl297), (44, (nI fd)), (49, (nI md)), (73, (nI sc)), (74, (nI k9)), (77, dn22), (78, wt23), (79, wf24)]) (l2 := [(15, (nI fa296)), (16, pl297), (44, (nI fd)), (49, (nI md)), (73, (nI sc)), (74, (nI k9)), (77, dn22), (78, wt23), (79, wf24), (15, (nI fa296)), (44, (nI fd)), (49, (nI md)), (73, (nI sc)), (74, (nI k9)), (77, dn22), (78, wt23), (79, wf24)]) (V := [(nI fa296), pl297, (nI fd), (nI md), (nI sc), (nI k9), dn22, wt23, wf24, (nI fa296), pl297, (nI fd), (nI md), (nI sc), (nI k9), dn22, wt23, wf24, (nI fa296), (nI fd), (nI md), (nI sc), (nI k9), dn22, wt23, wf24]) rfl rfl rfl hP
            have hD : va_D A (mW G h0 a (upd (upd (upd (upd (upd (upd (upd (upd (upd (upd (upd (upd (upd (upd (upd (upd (upd F 15 (nI fa296)) 16 pl297) 44 (nI fd)) 49 (nI md)) 73 (nI sc)) 74 (nI k9)) 77 dn22) 78 wt23) 79 wf24) 15 (nI fa296)) 44 (nI fd)) 49 (nI md)) 73 (nI sc)) 74 (nI k9)) 77 dn22) 78 wt23) 79 wf24) (updA (updA (updA (updA (updA B 14 nc) 17 ty25) 18 mn26) 48 vn) 49 vt)) := mW_D hD
            refine pc_V0 (G := G) (As := [.int (nI c305), .int (nI r19)]) (rest := []) hx hb hml hown hq hE hX pX0_al hP hD hS hA hl.1 (ihW h0 a (upd (upd (upd (upd (upd (upd (upd (upd (upd F 15 (nI fa296)) 16 pl297) 44 (nI fd)) 49 (nI md)) 73 (nI sc)) 74 (nI k9)) 77 dn22) 78 wt23) 79 wf24) B c305 fa296 sc k9 nd T nm wr lz dc fd md pr bk gh dn22 wt23 wf24 nc ty25 mn26 vn vt r19 hst hnm h307 (by omega) (by omega) (by omega) hk9 hnc h32 hvt (show kcl 1 _ = true from hc310) (by omega)) (gV pw_1826 pw_1827 pw_1828 pw_1523 pw_1865) hV_X12_wants 0 9 rfl rfl rfl rfl (Nat.le_of_ble_eq_true rfl) dX12_two_134 ⟨Nat.le_of_ble_eq_true rfl, Nat.le_of_ble_eq_true rfl⟩ ⟨(by show (4 * (z9 - 1) + 12) + 1 ≤ (4 * z9 + 9); omega), (by show 8 + (4 + 11) + (160 * (z9 - 1) + 1480) ≤ (160 * z9 + 1360); omega)⟩ (fun v317 u315 H locs hw316 hP hD hS => ?_)
            obtain ⟨fa318, pl319, dn320, wt321, wf322, ty323, mn324⟩ := u315
            obtain ⟨hw316, h325, h326, h327, h328, h329⟩ := hw316
            replace h325 : fa296 ≤ fa318 := h325
            replace h326 : fa318 ≤ 15 := h326
            replace h327 : ChE B nd c305 ty25 ty323 mn26 mn324 := h327
            replace h328 : mnN B nd mn324 := h328
            replace h329 : If (fa318 = 0) (Typ B dc fd md nd ty323 mn324 vt sc k9 c305 ∧ ty323 c305 = nI r19) := h329
            obtain rfl : v317 = none := hw316
            have hP : va_P G.1 pCl (mW G h0 a (upd (upd (upd (upd (upd (upd (upd (upd (upd F 15 (nI fa318)) 16 pl319) 44 (nI fd)) 49 (nI md)) 73 (nI sc)) 74 (nI k9)) 77 dn320) 78 wt321) 79 wf322) (updA (updA (updA (updA (updA B 14 nc) 17 ty323) 18 mn324) 48 vn) 49 vt)) _ := mW_to (F := F) (l1 := [(15, (nI fa296)), (16, pl297), (44, (nI fd)), (49, (nI md)), (73, (nI sc)), (74, (nI k9)), (77, dn22), (78, wt23), (79, wf24), (15, (nI fa318)), (16, pl319), (44, (nI fd)), (49, (nI md)), (73, (nI sc)), (74, (nI k9)), (77, dn320), (78, wt321), (79, wf322)]) (l2 := [(15, (nI fa318)), (16, pl319), (44, (nI fd)), (49, (nI md)), (73, (nI sc)), (74, (nI k9)), (77, dn320), (78, wt321), (79, wf322)]) (V := [(nI fa318), pl319, (nI fd), (nI md), (nI sc), (nI k9), dn320, wt321, wf322, (nI fa318), pl319, (nI fd), (nI md), (nI sc), (nI k9), dn320, wt321, wf322, (nI fa318), pl319, (nI fd), (nI md), (nI sc), (nI k9), dn320, wt321, wf322]) rfl rfl rfl hP
            have hD : va_D A (mW G h0 a (upd (upd (upd (upd (upd (upd (upd (upd (upd F 15 (nI fa318)) 16 pl319) 44 (nI fd)) 49 (nI md)) 73 (nI sc)) 74 (nI k9)) 77 dn320) 78 wt321) 79 wf322) (updA (updA (updA (updA (updA B 14 nc) 17 ty323) 18 mn324) 48 vn) 49 vt)) := mW_D hD
            refine W.widen (k := 0) (n := 0) (Nat.le_of_ble_eq_true rfl) (Nat.le_of_ble_eq_true rfl) ?_
            refine W.eq (g2 := F0 m 137 ls []) rfl ?_
            have hch330 : ChE B nd n9 ty ty323 mn mn324 := (ChE.trans hch35 (ChE.kid h327 (by omega) hp308))
            have hy331 : If (fa20 = 0) (Typ B dc fd md nd ty323 mn324 vt sc k9 c6) := (fun e => Typ.beside hF (by omega) hn9 (h33 e) h8 h307 hp9 hp308 (fun e => by have z := hg13; rw [e] at z; have := hg312; omega) h327)
            have ht332 : ty323 c6 = nI r19 := ((ChE.at hF (by omega) hn9 h8 h307 hp9 hp308 (fun e => by have z := hg13; rw [e] at z; have := hg312; omega) h327).trans h34)
            refine lv_aload_n hx hb dX12_two_137 rfl (lv_at hl 2 rfl) ?_
            refine lv_iload_n hx hb dX12_two_138 rfl (lv_at hl 0 rfl) ?_
            have hP : va_P G.1 pCl (mW G h0 a (upd (upd (upd (upd (upd (upd (upd (upd (upd (upd F 15 (nI fa318)) 16 pl319) 44 (nI fd)) 49 (nI md)) 73 (nI sc)) 74 (nI k9)) 77 dn320) 78 wt321) 79 wf322) 77 dn320) (updA (updA (updA (updA (updA B 14 nc) 17 ty323) 18 mn324) 48 vn) 49 vt)) _ := mW_to (F := F) (l1 := [(15, (nI fa318)), (16, pl319), (44, (nI fd)), (49, (nI md)), (73, (nI sc)), (74, (nI k9)), (77, dn320), (78, wt321), (79, wf322)]) (l2 := [(15, (nI fa318)), (16, pl319), (44, (nI fd)), (49, (nI md)), (73, (nI sc)), (74, (nI k9)), (77, dn320), (78, wt321), (79, wf322), (77, dn320)]) (V := [(nI fa318), pl319, (nI fd), (nI md), (nI sc), (nI k9), dn320, wt321, wf322, (nI fa318), pl319, (nI fd), (nI md), (nI sc), (nI k9), dn320, wt321, wf322, dn320]) rfl rfl rfl hP
            have hD : va_D A (mW G h0 a (upd (upd (upd (upd (upd (upd (upd (upd (upd (upd F 15 (nI fa318)) 16 pl319) 44 (nI fd)) 49 (nI md)) 73 (nI sc)) 74 (nI k9)) 77 dn320) 78 wt321) 79 wf322) 77 dn320) (updA (updA (updA (updA (updA B 14 nc) 17 ty323) 18 mn324) 48 vn) 49 vt)) := mW_D hD
            refine pc_V0 (G := G) (As := [.int (nI r19)]) (rest := []) hx hb hml hown hq hE hX pX0_al hP hD hS hA hl.1 (R_behind l G h0 a (upd (upd (upd (upd (upd (upd (upd (upd (upd F 15 (nI fa318)) 16 pl319) 44 (nI fd)) 49 (nI md)) 73 (nI sc)) 74 (nI k9)) 77 dn320) 78 wt321) 79 wf322) (updA (updA (updA (updA (updA B 14 nc) 17 ty323) 18 mn324) 48 vn) 49 vt) (nI r19) dn320) (gV pw_1832 pw_1833 pw_1834 pw_1523 pw_1804) hV_X12_behind 0 9 rfl rfl rfl rfl (Nat.le_of_ble_eq_true rfl) dX12_two_139 ⟨Nat.le_of_ble_eq_true rfl, Nat.le_of_ble_eq_true rfl⟩ ⟨(by show 2 + 1 ≤ (4 * z9 + 9); omega), (by show 8 + (2 + 11) + 60 ≤ (160 * z9 + 1360); omega)⟩ (fun v335 u333 H locs hw334 hP hD hS => ?_)
            obtain rfl : v335 = some (.int (nI r19)) := hw334
            have hP : va_P G.1 pCl (mW G h0 a (upd (upd (upd (upd (upd (upd (upd (upd (upd F 15 (nI fa318)) 16 pl319) 44 (nI fd)) 49 (nI md)) 73 (nI sc)) 74 (nI k9)) 77 dn320) 78 dn320) 79 dn320) (updA (updA (updA (updA (updA B 14 nc) 17 ty323) 18 mn324) 48 vn) 49 vt)) _ := mW_to (F := F) (l1 := [(15, (nI fa318)), (16, pl319), (44, (nI fd)), (49, (nI md)), (73, (nI sc)), (74, (nI k9)), (77, dn320), (78, wt321), (79, wf322), (77, dn320), (78, dn320), (79, dn320)]) (l2 := [(15, (nI fa318)), (16, pl319), (44, (nI fd)), (49, (nI md)), (73, (nI sc)), (74, (nI k9)), (77, dn320), (78, dn320), (79, dn320)]) (V := [(nI fa318), pl319, (nI fd), (nI md), (nI sc), (nI k9), dn320, dn320, dn320, dn320, dn320, dn320, (nI fa318), pl319, (nI fd), (nI md), (nI sc), (nI k9), dn320, dn320, dn320]) rfl rfl rfl hP
            have hD : va_D A (mW G h0 a (upd (upd (upd (upd (upd (upd (upd (upd (upd F 15 (nI fa318)) 16 pl319) 44 (nI fd)) 49 (nI md)) 73 (nI sc)) 74 (nI k9)) 77 dn320) 78 dn320) 79 dn320) (updA (updA (updA (updA (updA B 14 nc) 17 ty323) 18 mn324) 48 vn) 49 vt)) := mW_D hD
            refine W.widen (k := 0) (n := 0) (Nat.le_of_ble_eq_true rfl) (Nat.le_of_ble_eq_true rfl) ?_
            refine W.eq (g2 := F0 m 142 ls [.int (nI r19)]) rfl ?_
            have hz336 : fa ≤ fa318 := (by omega)
            have hz337 : fa318 ≤ 15 := (by omega)
            have hz338 : TyC dc r19 := h29
            have hz339 : r19 ≤ 2050 := (by omega)
            have hz340 : ChE B nd n9 ty ty323 mn mn324 := hch330
            have hz341 : mnN B nd mn324 := h328
            have hz342 : If (fa318 = 0) (Typ0 B dc fd md nd ty323 mn324 vt sc k9 n9 (nI r19)) := (fun e => Typ0.of (kids (kk := 18) (c1 := c6) (c2 := c305) (c3 := c6) hkd (by decide) ⟨by omega, by omega, by omega⟩ (Or.inr ⟨by decide, e7⟩) (Or.inr ⟨by decide, e306⟩) (Or.inl (by decide)) (by decide) (hy331 (by omega)) ((fun e => (h329 e).1) (by omega)) (hy331 (by omega))) (LT18 hkd hh12 hh311 ht332 (by omega) (h329 (by omega)).2 (by omega) (by first | exact Or.inl (by rw [show r19 = 1 by omega]; rfl) | exact Or.inr (by rw [show r19 = 2 by omega]; rfl))))
            have hP : va_P G.1 pCl (mW G h0 a (upd (upd (upd (upd (upd (upd (upd (upd (upd F 15 (nI fa318)) 16 pl319) 44 (nI fd)) 49 (nI md)) 73 (nI sc)) 74 (nI k9)) 77 dn320) 78 dn320) 79 dn320) (updA (updA (updA (updA (updA B 14 nc) 17 ty323) 18 mn324) 48 vn) 49 vt)) _ := hP
            have hD : va_D A (mW G h0 a (upd (upd (upd (upd (upd (upd (upd (upd (upd F 15 (nI fa318)) 16 pl319) 44 (nI fd)) 49 (nI md)) 73 (nI sc)) 74 (nI k9)) 77 dn320) 78 dn320) 79 dn320) (updA (updA (updA (updA (updA B 14 nc) 17 ty323) 18 mn324) 48 vn) 49 vt)) := mW_D hD
            exact W.iret (v := (nI r19)) hx hb hr (fun t9 ht9 hW9 => ⟨⟨_, (r19, fa318, pl319, dn320, dn320, dn320, ty323, mn324), rfl, ⟨rfl, hz336, hz337, hz338, hz339, hz340, hz341, hz342⟩, by rw [ht9]; exact hP, hD⟩, hS.F ht9⟩) hS.2.2 dX12_two_142
          · have n343 : ¬ (r19 = 1) := fun h9 => c283 ((nI_eq (a := r19) (b := 1) (by omega) (by omega)).mpr h9)
            refine lv_iload_n hx hb dX12_two_99 rfl (lv_at hl 0 rfl) ?_
            refine lv_iconst (v := 2) hx hb dX12_two_100 (by decide) ?_
            refine lv_icmp_ne (tgt := 108) hx hb dX12_two_101 (by decide) (fun c344 => ?_) (fun c344 => ?_)
            · have n345 : ¬ (r19 = 2) := fun h9 => c344 ((nI_eq (a := r19) (b := 2) (by omega) (by omega)).mpr h9)
              refine lv_iconst (v := 0) hx hb dX12_two_108 (by decide) ?_
              refine lv_bipush (v := 11) hx hb dX12_two_109 (by decide) ?_
              refine lv_aload_n hx hb dX12_two_111 rfl (lv_at hl 2 rfl) ?_
              refine r_get (v := .ref (a 10)) hx hb hown hq hE hP 18 41 tFX12_18 (by decide) pw_1440 rfl dX12_two_112 ?_
              refine lv_aload_n hx hb dX12_two_115 rfl (lv_at hl 2 rfl) ?_
              refine r_get (v := .ref (a 12)) hx hb hown hq hE hP 20 47 tFX12_20 (by decide) pw_1442 rfl dX12_two_116 ?_
              refine lv_iload_n hx hb dX12_two_119 rfl (lv_at hl 3 rfl) ?_
              refine r_ldi (f := (B 12)) (j := n9) hx hb hE hP 12 (ma_12 G a _) rfl (by omega) (by decide) dX12_two_120 ?_
              refine lv_topi (fun x346 e347 => ?_)
              obtain rfl : x346 = nI c6 := e347.trans e7
              refine r_ldi (f := (B 10)) (j := c6) hx hb hE hP 10 (ma_10 G a _) rfl (by omega) (by decide) dX12_two_121 ?_
              obtain ⟨⟨t348, e349, h350⟩, -⟩ := hF c6 h8
              refine lv_topi (fun x351 e352 => ?_)
              obtain rfl : x351 = nI t348 := e352.trans e349
              have hP : va_P G.1 pCl (mW G h0 a (upd (upd (upd (upd (upd (upd (upd (upd (upd (upd F 15 (nI fa20)) 16 pl21) 44 (nI fd)) 49 (nI md)) 73 (nI sc)) 74 (nI k9)) 77 dn22) 78 wt23) 79 wf24) 15 (nI fa20)) (updA (updA (updA (updA (updA B 14 nc) 17 ty25) 18 mn26) 48 vn) 49 vt)) _ := mW_to (F := F) (l1 := [(15, (nI fa20)), (16, pl21), (44, (nI fd)), (49, (nI md)), (73, (nI sc)), (74, (nI k9)), (77, dn22), (78, wt23), (79, wf24)]) (l2 := [(15, (nI fa20)), (16, pl21), (44, (nI fd)), (49, (nI md)), (73, (nI sc)), (74, (nI k9)), (77, dn22), (78, wt23), (79, wf24), (15, (nI fa20))]) (V := [(nI fa20), pl21, (nI fd), (nI md), (nI sc), (nI k9), dn22, wt23, wf24, (nI fa20), pl21, (nI fd), (nI md), (nI sc), (nI k9), dn22, wt23, wf24, (nI fa20)]) rfl rfl rfl hP
              have hD : va_D A (mW G h0 a (upd (upd (upd (upd (upd (upd (upd (upd (upd (upd F 15 (nI fa20)) 16 pl21) 44 (nI fd)) 49 (nI md)) 73 (nI sc)) 74 (nI k9)) 77 dn22) 78 wt23) 79 wf24) 15 (nI fa20)) (updA (updA (updA (updA (updA B 14 nc) 17 ty25) 18 mn26) 48 vn) 49 vt)) := mW_D hD
              refine pc_V0 (G := G) (As := [.int (nI 0), .int (nI 11), .int (nI t348)]) (rest := []) hx hb hml hown hq hE hX pX0_al hP hD hS hA hl.1 (R_judgeL l G h0 a (upd (upd (upd (upd (upd (upd (upd (upd (upd F 15 (nI fa20)) 16 pl21) 44 (nI fd)) 49 (nI md)) 73 (nI sc)) 74 (nI k9)) 77 dn22) 78 wt23) 79 wf24) (updA (updA (updA (updA (updA B 14 nc) 17 ty25) 18 mn26) 48 vn) 49 vt) 0 11 t348 fa20 (by omega) (by omega) (by omega) (by omega)) (gV pw_1798 pw_1799 pw_1800 pw_1523 pw_1793) hV_X12_judge 0 9 rfl rfl rfl rfl (Nat.le_of_ble_eq_true rfl) dX12_two_122 ⟨Nat.le_of_ble_eq_true rfl, Nat.le_of_ble_eq_true rfl⟩ ⟨(by show 3 + 1 ≤ (4 * z9 + 9); omega), (by show 8 + (4 + 11) + 82 ≤ (160 * z9 + 1360); omega)⟩ (fun v355 u353 H locs hw354 hP hD hS => ?_)
              obtain ⟨r356, fa357, pl358⟩ := u353
              obtain ⟨hw354, h359, h360, h361, h362, h363, h364, h365⟩ := hw354
              replace h359 : r356 ≤ 1 := h359
              replace h360 : fa20 ≤ fa357 := h360
              replace h361 : fa357 ≤ 15 := h361
              replace h362 : fa357 + 15 * r356 ≤ 15 := h362
              replace h363 : 1 ≤ r356 + fa357 := h363
              replace h364 : 1 ≤ 0 + fa357 := h364
              replace h365 : fa357 ≤ fa20 + 15 * (1 - 0) := h365
              obtain rfl : v355 = some (.int (nI r356)) := hw354
              have hP : va_P G.1 pCl (mW G h0 a (upd (upd (upd (upd (upd (upd (upd (upd (upd F 15 (nI fa357)) 16 pl358) 44 (nI fd)) 49 (nI md)) 73 (nI sc)) 74 (nI k9)) 77 dn22) 78 wt23) 79 wf24) (updA (updA (updA (updA (updA B 14 nc) 17 ty25) 18 mn26) 48 vn) 49 vt)) _ := mW_to (F := F) (l1 := [(15, (nI fa20)), (16, pl21), (44, (nI fd)), (49, (nI md)), (73, (nI sc)), (74, (nI k9)), (77, dn22), (78, wt23), (79, wf24), (15, (nI fa357)), (16, pl358)]) (l2 := [(15, (nI fa357)), (16, pl358), (44, (nI fd)), (49, (nI md)), (73, (nI sc)), (74, (nI k9)), (77, dn22), (78, wt23), (79, wf24)]) (V := [(nI fa357), pl358, (nI fd), (nI md), (nI sc), (nI k9), dn22, wt23, wf24, (nI fa357), pl358, (nI fa357), pl358, (nI fd), (nI md), (nI sc), (nI k9), dn22, wt23, wf24]) rfl rfl rfl hP
              have hD : va_D A (mW G h0 a (upd (upd (upd (upd (upd (upd (upd (upd (upd F 15 (nI fa357)) 16 pl358) 44 (nI fd)) 49 (nI md)) 73 (nI sc)) 74 (nI k9)) 77 dn22) 78 wt23) 79 wf24) (updA (updA (updA (updA (updA B 14 nc) 17 ty25) 18 mn26) 48 vn) 49 vt)) := mW_D hD
              refine W.widen (k := 0) (n := 0) (Nat.le_of_ble_eq_true rfl) (Nat.le_of_ble_eq_true rfl) ?_
              refine W.eq (g2 := F0 m 125 ls [.int (nI r356)]) rfl ?_
              refine lv_pop hx hb dX12_two_125 rfl ?_
              refine lv_aload_n hx hb dX12_two_126 rfl (lv_at hl 2 rfl) ?_
              refine lv_aload_n hx hb dX12_two_127 rfl (lv_at hl 2 rfl) ?_
              refine r_get (v := .ref (a 13)) hx hb hown hq hE hP 21 50 tFX12_21 (by decide) pw_1443 rfl dX12_two_128 ?_
              refine lv_iload_n hx hb dX12_two_131 rfl (lv_at hl 3 rfl) ?_
              refine r_ldi (f := (B 13)) (j := n9) hx hb hE hP 13 (ma_13 G a _) rfl (by omega) (by decide) dX12_two_132 ?_
              obtain ⟨c366, e367, h368, hp369, h370, hc371, hh372, hg373⟩ := Fs2.kid (kk := 18) (s := 2) hF hn9 hkd (by decide) (by decide) (by decide) (by decide) (by omega)
              refine lv_topi (fun x374 e375 => ?_)
              obtain rfl : x374 = nI c366 := e375.trans e367
              refine lv_iload_n hx hb dX12_two_133 rfl (lv_at hl 0 rfl) ?_
              have hP : va_P G.1 pCl (mW G h0 a (upd (upd (upd (upd (upd (upd (upd (upd (upd (upd (upd (upd (upd (upd (upd (upd (upd F 15 (nI fa357)) 16 pl358) 44 (nI fd)) 49 (nI md)) 73 (nI sc)) 74 (nI k9)) 77 dn22) 78 wt23) 79 wf24) 15 (nI fa357)) 44 (nI fd)) 49 (nI md)) 73 (nI sc)) 74 (nI k9)) 77 dn22) 78 wt23) 79 wf24) (updA (updA (updA (updA (updA B 14 nc) 17 ty25) 18 mn26) 48 vn) 49 vt)) _ := mW_to (F := F) (l1 := [(15, (nI fa357)), (16, pl358), (44, (nI fd)), (49, (nI md)), (73, (nI sc)), (74, (nI k9)), (77, dn22), (78, wt23), (79, wf24)]) (l2 := [(15, (nI fa357)), (16, pl358), (44, (nI fd)), (49, (nI md)), (73, (nI sc)), (74, (nI k9)), (77, dn22), (78, wt23), (79, wf24), (15, (nI fa357)), (44, (nI fd)), (49, (nI md)), (73, (nI sc)), (74, (nI k9)), (77, dn22), (78, wt23), (79, wf24)]) (V := [(nI fa357), pl358, (nI fd), (nI md), (nI sc), (nI k9), dn22, wt23, wf24, (nI fa357), pl358, (nI fd), (nI md), (nI sc), (nI k9), dn22, wt23, wf24, (nI fa357), (nI fd), (nI md), (nI sc), (nI k9), dn22, wt23, wf24]) rfl rfl rfl hP
              have hD : va_D A (mW G h0 a (upd (upd (upd (upd (upd (upd (upd (upd (upd (upd (upd (upd (upd (upd (upd (upd (upd F 15 (nI fa357)) 16 pl358) 44 (nI fd)) 49 (nI md)) 73 (nI sc)) 74 (nI k9)) 77 dn22) 78 wt23) 79 wf24) 15 (nI fa357)) 44 (nI fd)) 49 (nI md)) 73 (nI sc)) 74 (nI k9)) 77 dn22) 78 wt23) 79 wf24) (updA (updA (updA (updA (updA B 14 nc) 17 ty25) 18 mn26) 48 vn) 49 vt)) := mW_D hD
              refine pc_V0 (G := G) (As := [.int (nI c366), .int (nI r19)]) (rest := []) hx hb hml hown hq hE hX pX0_al hP hD hS hA hl.1 (ihW h0 a (upd (upd (upd (upd (upd (upd (upd (upd (upd F 15 (nI fa357)) 16 pl358) 44 (nI fd)) 49 (nI md)) 73 (nI sc)) 74 (nI k9)) 77 dn22) 78 wt23) 79 wf24) B c366 fa357 sc k9 nd T nm wr lz dc fd md pr bk gh dn22 wt23 wf24 nc ty25 mn26 vn vt r19 hst hnm h368 (by omega) (by omega) (by omega) hk9 hnc h32 hvt (show kcl 1 _ = true from hc371) (by omega)) (gV pw_1826 pw_1827 pw_1828 pw_1523 pw_1865) hV_X12_wants 0 9 rfl rfl rfl rfl (Nat.le_of_ble_eq_true rfl) dX12_two_134 ⟨Nat.le_of_ble_eq_true rfl, Nat.le_of_ble_eq_true rfl⟩ ⟨(by show (4 * (z9 - 1) + 12) + 1 ≤ (4 * z9 + 9); omega), (by show 8 + (4 + 11) + (160 * (z9 - 1) + 1480) ≤ (160 * z9 + 1360); omega)⟩ (fun v378 u376 H locs hw377 hP hD hS => ?_)
              obtain ⟨fa379, pl380, dn381, wt382, wf383, ty384, mn385⟩ := u376
              obtain ⟨hw377, h386, h387, h388, h389, h390⟩ := hw377
              replace h386 : fa357 ≤ fa379 := h386
              replace h387 : fa379 ≤ 15 := h387
              replace h388 : ChE B nd c366 ty25 ty384 mn26 mn385 := h388
              replace h389 : mnN B nd mn385 := h389
              replace h390 : If (fa379 = 0) (Typ B dc fd md nd ty384 mn385 vt sc k9 c366 ∧ ty384 c366 = nI r19) := h390
              obtain rfl : v378 = none := hw377
              have hP : va_P G.1 pCl (mW G h0 a (upd (upd (upd (upd (upd (upd (upd (upd (upd F 15 (nI fa379)) 16 pl380) 44 (nI fd)) 49 (nI md)) 73 (nI sc)) 74 (nI k9)) 77 dn381) 78 wt382) 79 wf383) (updA (updA (updA (updA (updA B 14 nc) 17 ty384) 18 mn385) 48 vn) 49 vt)) _ := mW_to (F := F) (l1 := [(15, (nI fa357)), (16, pl358), (44, (nI fd)), (49, (nI md)), (73, (nI sc)), (74, (nI k9)), (77, dn22), (78, wt23), (79, wf24), (15, (nI fa379)), (16, pl380), (44, (nI fd)), (49, (nI md)), (73, (nI sc)), (74, (nI k9)), (77, dn381), (78, wt382), (79, wf383)]) (l2 := [(15, (nI fa379)), (16, pl380), (44, (nI fd)), (49, (nI md)), (73, (nI sc)), (74, (nI k9)), (77, dn381), (78, wt382), (79, wf383)]) (V := [(nI fa379), pl380, (nI fd), (nI md), (nI sc), (nI k9), dn381, wt382, wf383, (nI fa379), pl380, (nI fd), (nI md), (nI sc), (nI k9), dn381, wt382, wf383, (nI fa379), pl380, (nI fd), (nI md), (nI sc), (nI k9), dn381, wt382, wf383]) rfl rfl rfl hP
              have hD : va_D A (mW G h0 a (upd (upd (upd (upd (upd (upd (upd (upd (upd F 15 (nI fa379)) 16 pl380) 44 (nI fd)) 49 (nI md)) 73 (nI sc)) 74 (nI k9)) 77 dn381) 78 wt382) 79 wf383) (updA (updA (updA (updA (updA B 14 nc) 17 ty384) 18 mn385) 48 vn) 49 vt)) := mW_D hD
              refine W.widen (k := 0) (n := 0) (Nat.le_of_ble_eq_true rfl) (Nat.le_of_ble_eq_true rfl) ?_
              refine W.eq (g2 := F0 m 137 ls []) rfl ?_
              have hch391 : ChE B nd n9 ty ty384 mn mn385 := (ChE.trans hch35 (ChE.kid h388 (by omega) hp369))
              have hy392 : If (fa20 = 0) (Typ B dc fd md nd ty384 mn385 vt sc k9 c6) := (fun e => Typ.beside hF (by omega) hn9 (h33 e) h8 h368 hp9 hp369 (fun e => by have z := hg13; rw [e] at z; have := hg373; omega) h388)
              have ht393 : ty384 c6 = nI r19 := ((ChE.at hF (by omega) hn9 h8 h368 hp9 hp369 (fun e => by have z := hg13; rw [e] at z; have := hg373; omega) h388).trans h34)
              refine lv_aload_n hx hb dX12_two_137 rfl (lv_at hl 2 rfl) ?_
              refine lv_iload_n hx hb dX12_two_138 rfl (lv_at hl 0 rfl) ?_
              have hP : va_P G.1 pCl (mW G h0 a (upd (upd (upd (upd (upd (upd (upd (upd (upd (upd F 15 (nI fa379)) 16 pl380) 44 (nI fd)) 49 (nI md)) 73 (nI sc)) 74 (nI k9)) 77 dn381) 78 wt382) 79 wf383) 77 dn381) (updA (updA (updA (updA (updA B 14 nc) 17 ty384) 18 mn385) 48 vn) 49 vt)) _ := mW_to (F := F) (l1 := [(15, (nI fa379)), (16, pl380), (44, (nI fd)), (49, (nI md)), (73, (nI sc)), (74, (nI k9)), (77, dn381), (78, wt382), (79, wf383)]) (l2 := [(15, (nI fa379)), (16, pl380), (44, (nI fd)), (49, (nI md)), (73, (nI sc)), (74, (nI k9)), (77, dn381), (78, wt382), (79, wf383), (77, dn381)]) (V := [(nI fa379), pl380, (nI fd), (nI md), (nI sc), (nI k9), dn381, wt382, wf383, (nI fa379), pl380, (nI fd), (nI md), (nI sc), (nI k9), dn381, wt382, wf383, dn381]) rfl rfl rfl hP
              have hD : va_D A (mW G h0 a (upd (upd (upd (upd (upd (upd (upd (upd (upd (upd F 15 (nI fa379)) 16 pl380) 44 (nI fd)) 49 (nI md)) 73 (nI sc)) 74 (nI k9)) 77 dn381) 78 wt382) 79 wf383) 77 dn381) (updA (updA (updA (updA (updA B 14 nc) 17 ty384) 18 mn385) 48 vn) 49 vt)) := mW_D hD
              refine pc_V0 (G := G) (As := [.int (nI r19)]) (rest := []) hx hb hml hown hq hE hX pX0_al hP hD hS hA hl.1 (R_behind l G h0 a (upd (upd (upd (upd (upd (upd (upd (upd (upd F 15 (nI fa379)) 16 pl380) 44 (nI fd)) 49 (nI md)) 73 (nI sc)) 74 (nI k9)) 77 dn381) 78 wt382) 79 wf383) (updA (updA (updA (updA (updA B 14 nc) 17 ty384) 18 mn385) 48 vn) 49 vt) (nI r19) dn381) (gV pw_1832 pw_1833 pw_1834 pw_1523 pw_1804) hV_X12_behind 0 9 rfl rfl rfl rfl (Nat.le_of_ble_eq_true rfl) dX12_two_139 ⟨Nat.le_of_ble_eq_true rfl, Nat.le_of_ble_eq_true rfl⟩ ⟨(by show 2 + 1 ≤ (4 * z9 + 9); omega), (by show 8 + (2 + 11) + 60 ≤ (160 * z9 + 1360); omega)⟩ (fun v396 u394 H locs hw395 hP hD hS => ?_)
              obtain rfl : v396 = some (.int (nI r19)) := hw395
              have hP : va_P G.1 pCl (mW G h0 a (upd (upd (upd (upd (upd (upd (upd (upd (upd F 15 (nI fa379)) 16 pl380) 44 (nI fd)) 49 (nI md)) 73 (nI sc)) 74 (nI k9)) 77 dn381) 78 dn381) 79 dn381) (updA (updA (updA (updA (updA B 14 nc) 17 ty384) 18 mn385) 48 vn) 49 vt)) _ := mW_to (F := F) (l1 := [(15, (nI fa379)), (16, pl380), (44, (nI fd)), (49, (nI md)), (73, (nI sc)), (74, (nI k9)), (77, dn381), (78, wt382), (79, wf383), (77, dn381), (78, dn381), (79, dn381)]) (l2 := [(15, (nI fa379)), (16, pl380), (44, (nI fd)), (49, (nI md)), (73, (nI sc)), (74, (nI k9)), (77, dn381), (78, dn381), (79, dn381)]) (V := [(nI fa379), pl380, (nI fd), (nI md), (nI sc), (nI k9), dn381, dn381, dn381, dn381, dn381, dn381, (nI fa379), pl380, (nI fd), (nI md), (nI sc), (nI k9), dn381, dn381, dn381]) rfl rfl rfl hP
              have hD : va_D A (mW G h0 a (upd (upd (upd (upd (upd (upd (upd (upd (upd F 15 (nI fa379)) 16 pl380) 44 (nI fd)) 49 (nI md)) 73 (nI sc)) 74 (nI k9)) 77 dn381) 78 dn381) 79 dn381) (updA (updA (updA (updA (updA B 14 nc) 17 ty384) 18 mn385) 48 vn) 49 vt)) := mW_D hD
              refine W.widen (k := 0) (n := 0) (Nat.le_of_ble_eq_true rfl) (Nat.le_of_ble_eq_true rfl) ?_
              refine W.eq (g2 := F0 m 142 ls [.int (nI r19)]) rfl ?_
              have hz397 : fa ≤ fa379 := (by omega)
              have hz398 : fa379 ≤ 15 := (by omega)
              have hz399 : TyC dc r19 := h29
              have hz400 : r19 ≤ 2050 := (by omega)
              have hz401 : ChE B nd n9 ty ty384 mn mn385 := hch391
              have hz402 : mnN B nd mn385 := h389
              have hz403 : If (fa379 = 0) (Typ0 B dc fd md nd ty384 mn385 vt sc k9 n9 (nI r19)) := (fun e => absurd e (by omega))
              have hP : va_P G.1 pCl (mW G h0 a (upd (upd (upd (upd (upd (upd (upd (upd (upd F 15 (nI fa379)) 16 pl380) 44 (nI fd)) 49 (nI md)) 73 (nI sc)) 74 (nI k9)) 77 dn381) 78 dn381) 79 dn381) (updA (updA (updA (updA (updA B 14 nc) 17 ty384) 18 mn385) 48 vn) 49 vt)) _ := hP
              have hD : va_D A (mW G h0 a (upd (upd (upd (upd (upd (upd (upd (upd (upd F 15 (nI fa379)) 16 pl380) 44 (nI fd)) 49 (nI md)) 73 (nI sc)) 74 (nI k9)) 77 dn381) 78 dn381) 79 dn381) (updA (updA (updA (updA (updA B 14 nc) 17 ty384) 18 mn385) 48 vn) 49 vt)) := mW_D hD
              exact W.iret (v := (nI r19)) hx hb hr (fun t9 ht9 hW9 => ⟨⟨_, (r19, fa379, pl380, dn381, dn381, dn381, ty384, mn385), rfl, ⟨rfl, hz397, hz398, hz399, hz400, hz401, hz402, hz403⟩, by rw [ht9]; exact hP, hD⟩, hS.F ht9⟩) hS.2.2 dX12_two_142
            · have n404 : r19 = 2 := (nI_eq (a := r19) (b := 2) (by omega) (by omega)).mp c344
              refine lv_iconst (v := 1) hx hb dX12_two_104 (by decide) ?_
              refine lv_goto (tgt := 109) hx hb dX12_two_105 (by decide) ?_
              refine lv_bipush (v := 11) hx hb dX12_two_109 (by decide) ?_
              refine lv_aload_n hx hb dX12_two_111 rfl (lv_at hl 2 rfl) ?_
              refine r_get (v := .ref (a 10)) hx hb hown hq hE hP 18 41 tFX12_18 (by decide) pw_1440 rfl dX12_two_112 ?_
              refine lv_aload_n hx hb dX12_two_115 rfl (lv_at hl 2 rfl) ?_
              refine r_get (v := .ref (a 12)) hx hb hown hq hE hP 20 47 tFX12_20 (by decide) pw_1442 rfl dX12_two_116 ?_
              refine lv_iload_n hx hb dX12_two_119 rfl (lv_at hl 3 rfl) ?_
              refine r_ldi (f := (B 12)) (j := n9) hx hb hE hP 12 (ma_12 G a _) rfl (by omega) (by decide) dX12_two_120 ?_
              refine lv_topi (fun x405 e406 => ?_)
              obtain rfl : x405 = nI c6 := e406.trans e7
              refine r_ldi (f := (B 10)) (j := c6) hx hb hE hP 10 (ma_10 G a _) rfl (by omega) (by decide) dX12_two_121 ?_
              obtain ⟨⟨t407, e408, h409⟩, -⟩ := hF c6 h8
              refine lv_topi (fun x410 e411 => ?_)
              obtain rfl : x410 = nI t407 := e411.trans e408
              have hP : va_P G.1 pCl (mW G h0 a (upd (upd (upd (upd (upd (upd (upd (upd (upd (upd F 15 (nI fa20)) 16 pl21) 44 (nI fd)) 49 (nI md)) 73 (nI sc)) 74 (nI k9)) 77 dn22) 78 wt23) 79 wf24) 15 (nI fa20)) (updA (updA (updA (updA (updA B 14 nc) 17 ty25) 18 mn26) 48 vn) 49 vt)) _ := mW_to (F := F) (l1 := [(15, (nI fa20)), (16, pl21), (44, (nI fd)), (49, (nI md)), (73, (nI sc)), (74, (nI k9)), (77, dn22), (78, wt23), (79, wf24)]) (l2 := [(15, (nI fa20)), (16, pl21), (44, (nI fd)), (49, (nI md)), (73, (nI sc)), (74, (nI k9)), (77, dn22), (78, wt23), (79, wf24), (15, (nI fa20))]) (V := [(nI fa20), pl21, (nI fd), (nI md), (nI sc), (nI k9), dn22, wt23, wf24, (nI fa20), pl21, (nI fd), (nI md), (nI sc), (nI k9), dn22, wt23, wf24, (nI fa20)]) rfl rfl rfl hP
              have hD : va_D A (mW G h0 a (upd (upd (upd (upd (upd (upd (upd (upd (upd (upd F 15 (nI fa20)) 16 pl21) 44 (nI fd)) 49 (nI md)) 73 (nI sc)) 74 (nI k9)) 77 dn22) 78 wt23) 79 wf24) 15 (nI fa20)) (updA (updA (updA (updA (updA B 14 nc) 17 ty25) 18 mn26) 48 vn) 49 vt)) := mW_D hD
              refine pc_V0 (G := G) (As := [.int (nI 1), .int (nI 11), .int (nI t407)]) (rest := []) hx hb hml hown hq hE hX pX0_al hP hD hS hA hl.1 (R_judgeL l G h0 a (upd (upd (upd (upd (upd (upd (upd (upd (upd F 15 (nI fa20)) 16 pl21) 44 (nI fd)) 49 (nI md)) 73 (nI sc)) 74 (nI k9)) 77 dn22) 78 wt23) 79 wf24) (updA (updA (updA (updA (updA B 14 nc) 17 ty25) 18 mn26) 48 vn) 49 vt) 1 11 t407 fa20 (by omega) (by omega) (by omega) (by omega)) (gV pw_1798 pw_1799 pw_1800 pw_1523 pw_1793) hV_X12_judge 0 9 rfl rfl rfl rfl (Nat.le_of_ble_eq_true rfl) dX12_two_122 ⟨Nat.le_of_ble_eq_true rfl, Nat.le_of_ble_eq_true rfl⟩ ⟨(by show 3 + 1 ≤ (4 * z9 + 9); omega), (by show 8 + (4 + 11) + 82 ≤ (160 * z9 + 1360); omega)⟩ (fun v414 u412 H locs hw413 hP hD hS => ?_)
              obtain ⟨r415, fa416, pl417⟩ := u412
              obtain ⟨hw413, h418, h419, h420, h421, h422, h423, h424⟩ := hw413
              replace h418 : r415 ≤ 1 := h418
              replace h419 : fa20 ≤ fa416 := h419
              replace h420 : fa416 ≤ 15 := h420
              replace h421 : fa416 + 15 * r415 ≤ 15 := h421
              replace h422 : 1 ≤ r415 + fa416 := h422
              replace h423 : 1 ≤ 1 + fa416 := h423
              replace h424 : fa416 ≤ fa20 + 15 * (1 - 1) := h424
              obtain rfl : v414 = some (.int (nI r415)) := hw413
              have hP : va_P G.1 pCl (mW G h0 a (upd (upd (upd (upd (upd (upd (upd (upd (upd F 15 (nI fa416)) 16 pl417) 44 (nI fd)) 49 (nI md)) 73 (nI sc)) 74 (nI k9)) 77 dn22) 78 wt23) 79 wf24) (updA (updA (updA (updA (updA B 14 nc) 17 ty25) 18 mn26) 48 vn) 49 vt)) _ := mW_to (F := F) (l1 := [(15, (nI fa20)), (16, pl21), (44, (nI fd)), (49, (nI md)), (73, (nI sc)), (74, (nI k9)), (77, dn22), (78, wt23), (79, wf24), (15, (nI fa416)), (16, pl417)]) (l2 := [(15, (nI fa416)), (16, pl417), (44, (nI fd)), (49, (nI md)), (73, (nI sc)), (74, (nI k9)), (77, dn22), (78, wt23), (79, wf24)]) (V := [(nI fa416), pl417, (nI fd), (nI md), (nI sc), (nI k9), dn22, wt23, wf24, (nI fa416), pl417, (nI fa416), pl417, (nI fd), (nI md), (nI sc), (nI k9), dn22, wt23, wf24]) rfl rfl rfl hP
              have hD : va_D A (mW G h0 a (upd (upd (upd (upd (upd (upd (upd (upd (upd F 15 (nI fa416)) 16 pl417) 44 (nI fd)) 49 (nI md)) 73 (nI sc)) 74 (nI k9)) 77 dn22) 78 wt23) 79 wf24) (updA (updA (updA (updA (updA B 14 nc) 17 ty25) 18 mn26) 48 vn) 49 vt)) := mW_D hD
              refine W.widen (k := 0) (n := 0) (Nat.le_of_ble_eq_true rfl) (Nat.le_of_ble_eq_true rfl) ?_
              refine W.eq (g2 := F0 m 125 ls [.int (nI r415)]) rfl ?_
              refine lv_pop hx hb dX12_two_125 rfl ?_
              refine lv_aload_n hx hb dX12_two_126 rfl (lv_at hl 2 rfl) ?_
              refine lv_aload_n hx hb dX12_two_127 rfl (lv_at hl 2 rfl) ?_
              refine r_get (v := .ref (a 13)) hx hb hown hq hE hP 21 50 tFX12_21 (by decide) pw_1443 rfl dX12_two_128 ?_
              refine lv_iload_n hx hb dX12_two_131 rfl (lv_at hl 3 rfl) ?_
              refine r_ldi (f := (B 13)) (j := n9) hx hb hE hP 13 (ma_13 G a _) rfl (by omega) (by decide) dX12_two_132 ?_
              obtain ⟨c425, e426, h427, hp428, h429, hc430, hh431, hg432⟩ := Fs2.kid (kk := 18) (s := 2) hF hn9 hkd (by decide) (by decide) (by decide) (by decide) (by omega)
              refine lv_topi (fun x433 e434 => ?_)
              obtain rfl : x433 = nI c425 := e434.trans e426
              refine lv_iload_n hx hb dX12_two_133 rfl (lv_at hl 0 rfl) ?_
              have hP : va_P G.1 pCl (mW G h0 a (upd (upd (upd (upd (upd (upd (upd (upd (upd (upd (upd (upd (upd (upd (upd (upd (upd F 15 (nI fa416)) 16 pl417) 44 (nI fd)) 49 (nI md)) 73 (nI sc)) 74 (nI k9)) 77 dn22) 78 wt23) 79 wf24) 15 (nI fa416)) 44 (nI fd)) 49 (nI md)) 73 (nI sc)) 74 (nI k9)) 77 dn22) 78 wt23) 79 wf24) (updA (updA (updA (updA (updA B 14 nc) 17 ty25) 18 mn26) 48 vn) 49 vt)) _ := mW_to (F := F) (l1 := [(15, (nI fa416)), (16, pl417), (44, (nI fd)), (49, (nI md)), (73, (nI sc)), (74, (nI k9)), (77, dn22), (78, wt23), (79, wf24)]) (l2 := [(15, (nI fa416)), (16, pl417), (44, (nI fd)), (49, (nI md)), (73, (nI sc)), (74, (nI k9)), (77, dn22), (78, wt23), (79, wf24), (15, (nI fa416)), (44, (nI fd)), (49, (nI md)), (73, (nI sc)), (74, (nI k9)), (77, dn22), (78, wt23), (79, wf24)]) (V := [(nI fa416), pl417, (nI fd), (nI md), (nI sc), (nI k9), dn22, wt23, wf24, (nI fa416), pl417, (nI fd), (nI md), (nI sc), (nI k9), dn22, wt23, wf24, (nI fa416), (nI fd), (nI md), (nI sc), (nI k9), dn22, wt23, wf24]) rfl rfl rfl hP
              have hD : va_D A (mW G h0 a (upd (upd (upd (upd (upd (upd (upd (upd (upd (upd (upd (upd (upd (upd (upd (upd (upd F 15 (nI fa416)) 16 pl417) 44 (nI fd)) 49 (nI md)) 73 (nI sc)) 74 (nI k9)) 77 dn22) 78 wt23) 79 wf24) 15 (nI fa416)) 44 (nI fd)) 49 (nI md)) 73 (nI sc)) 74 (nI k9)) 77 dn22) 78 wt23) 79 wf24) (updA (updA (updA (updA (updA B 14 nc) 17 ty25) 18 mn26) 48 vn) 49 vt)) := mW_D hD
              refine pc_V0 (G := G) (As := [.int (nI c425), .int (nI r19)]) (rest := []) hx hb hml hown hq hE hX pX0_al hP hD hS hA hl.1 (ihW h0 a (upd (upd (upd (upd (upd (upd (upd (upd (upd F 15 (nI fa416)) 16 pl417) 44 (nI fd)) 49 (nI md)) 73 (nI sc)) 74 (nI k9)) 77 dn22) 78 wt23) 79 wf24) B c425 fa416 sc k9 nd T nm wr lz dc fd md pr bk gh dn22 wt23 wf24 nc ty25 mn26 vn vt r19 hst hnm h427 (by omega) (by omega) (by omega) hk9 hnc h32 hvt (show kcl 1 _ = true from hc430) (by omega)) (gV pw_1826 pw_1827 pw_1828 pw_1523 pw_1865) hV_X12_wants 0 9 rfl rfl rfl rfl (Nat.le_of_ble_eq_true rfl) dX12_two_134 ⟨Nat.le_of_ble_eq_true rfl, Nat.le_of_ble_eq_true rfl⟩ ⟨(by show (4 * (z9 - 1) + 12) + 1 ≤ (4 * z9 + 9); omega), (by show 8 + (4 + 11) + (160 * (z9 - 1) + 1480) ≤ (160 * z9 + 1360); omega)⟩ (fun v437 u435 H locs hw436 hP hD hS => ?_)
              obtain ⟨fa438, pl439, dn440, wt441, wf442, ty443, mn444⟩ := u435
              obtain ⟨hw436, h445, h446, h447, h448, h449⟩ := hw436
              replace h445 : fa416 ≤ fa438 := h445
              replace h446 : fa438 ≤ 15 := h446
              replace h447 : ChE B nd c425 ty25 ty443 mn26 mn444 := h447
              replace h448 : mnN B nd mn444 := h448
              replace h449 : If (fa438 = 0) (Typ B dc fd md nd ty443 mn444 vt sc k9 c425 ∧ ty443 c425 = nI r19) := h449
              obtain rfl : v437 = none := hw436
              have hP : va_P G.1 pCl (mW G h0 a (upd (upd (upd (upd (upd (upd (upd (upd (upd F 15 (nI fa438)) 16 pl439) 44 (nI fd)) 49 (nI md)) 73 (nI sc)) 74 (nI k9)) 77 dn440) 78 wt441) 79 wf442) (updA (updA (updA (updA (updA B 14 nc) 17 ty443) 18 mn444) 48 vn) 49 vt)) _ := mW_to (F := F) (l1 := [(15, (nI fa416)), (16, pl417), (44, (nI fd)), (49, (nI md)), (73, (nI sc)), (74, (nI k9)), (77, dn22), (78, wt23), (79, wf24), (15, (nI fa438)), (16, pl439), (44, (nI fd)), (49, (nI md)), (73, (nI sc)), (74, (nI k9)), (77, dn440), (78, wt441), (79, wf442)]) (l2 := [(15, (nI fa438)), (16, pl439), (44, (nI fd)), (49, (nI md)), (73, (nI sc)), (74, (nI k9)), (77, dn440), (78, wt441), (79, wf442)]) (V := [(nI fa438), pl439, (nI fd), (nI md), (nI sc), (nI k9), dn440, wt441, wf442, (nI fa438), pl439, (nI fd), (nI md), (nI sc), (nI k9), dn440, wt441, wf442, (nI fa438), pl439, (nI fd), (nI md), (nI sc), (nI k9), dn440, wt441, wf442]) rfl rfl rfl hP
              have hD : va_D A (mW G h0 a (upd (upd (upd (upd (upd (upd (upd (upd (upd F 15 (nI fa438)) 16 pl439) 44 (nI fd)) 49 (nI md)) 73 (nI sc)) 74 (nI k9)) 77 dn440) 78 wt441) 79 wf442) (updA (updA (updA (updA (updA B 14 nc) 17 ty443) 18 mn444) 48 vn) 49 vt)) := mW_D hD
              refine W.widen (k := 0) (n := 0) (Nat.le_of_ble_eq_true rfl) (Nat.le_of_ble_eq_true rfl) ?_
              refine W.eq (g2 := F0 m 137 ls []) rfl ?_
              have hch450 : ChE B nd n9 ty ty443 mn mn444 := (ChE.trans hch35 (ChE.kid h447 (by omega) hp428))
              have hy451 : If (fa20 = 0) (Typ B dc fd md nd ty443 mn444 vt sc k9 c6) := (fun e => Typ.beside hF (by omega) hn9 (h33 e) h8 h427 hp9 hp428 (fun e => by have z := hg13; rw [e] at z; have := hg432; omega) h447)
              have ht452 : ty443 c6 = nI r19 := ((ChE.at hF (by omega) hn9 h8 h427 hp9 hp428 (fun e => by have z := hg13; rw [e] at z; have := hg432; omega) h447).trans h34)
              refine lv_aload_n hx hb dX12_two_137 rfl (lv_at hl 2 rfl) ?_
              refine lv_iload_n hx hb dX12_two_138 rfl (lv_at hl 0 rfl) ?_
              have hP : va_P G.1 pCl (mW G h0 a (upd (upd (upd (upd (upd (upd (upd (upd (upd (upd F 15 (nI fa438)) 16 pl439) 44 (nI fd)) 49 (nI md)) 73 (nI sc)) 74 (nI k9)) 77 dn440) 78 wt441) 79 wf442) 77 dn440) (updA (updA (updA (updA (updA B 14 nc) 17 ty443) 18 mn444) 48 vn) 49 vt)) _ := mW_to (F := F) (l1 := [(15, (nI fa438)), (16, pl439), (44, (nI fd)), (49, (nI md)), (73, (nI sc)), (74, (nI k9)), (77, dn440), (78, wt441), (79, wf442)]) (l2 := [(15, (nI fa438)), (16, pl439), (44, (nI fd)), (49, (nI md)), (73, (nI sc)), (74, (nI k9)), (77, dn440), (78, wt441), (79, wf442), (77, dn440)]) (V := [(nI fa438), pl439, (nI fd), (nI md), (nI sc), (nI k9), dn440, wt441, wf442, (nI fa438), pl439, (nI fd), (nI md), (nI sc), (nI k9), dn440, wt441, wf442, dn440]) rfl rfl rfl hP
              have hD : va_D A (mW G h0 a (upd (upd (upd (upd (upd (upd (upd (upd (upd (upd F 15 (nI fa438)) 16 pl439) 44 (nI fd)) 49 (nI md)) 73 (nI sc)) 74 (nI k9)) 77 dn440) 78 wt441) 79 wf442) 77 dn440) (updA (updA (updA (updA (updA B 14 nc) 17 ty443) 18 mn444) 48 vn) 49 vt)) := mW_D hD
              refine pc_V0 (G := G) (As := [.int (nI r19)]) (rest := []) hx hb hml hown hq hE hX pX0_al hP hD hS hA hl.1 (R_behind l G h0 a (upd (upd (upd (upd (upd (upd (upd (upd (upd F 15 (nI fa438)) 16 pl439) 44 (nI fd)) 49 (nI md)) 73 (nI sc)) 74 (nI k9)) 77 dn440) 78 wt441) 79 wf442) (updA (updA (updA (updA (updA B 14 nc) 17 ty443) 18 mn444) 48 vn) 49 vt) (nI r19) dn440) (gV pw_1832 pw_1833 pw_1834 pw_1523 pw_1804) hV_X12_behind 0 9 rfl rfl rfl rfl (Nat.le_of_ble_eq_true rfl) dX12_two_139 ⟨Nat.le_of_ble_eq_true rfl, Nat.le_of_ble_eq_true rfl⟩ ⟨(by show 2 + 1 ≤ (4 * z9 + 9); omega), (by show 8 + (2 + 11) + 60 ≤ (160 * z9 + 1360); omega)⟩ (fun v455 u453 H locs hw454 hP hD hS => ?_)
              obtain rfl : v455 = some (.int (nI r19)) := hw454
              have hP : va_P G.1 pCl (mW G h0 a (upd (upd (upd (upd (upd (upd (upd (upd (upd F 15 (nI fa438)) 16 pl439) 44 (nI fd)) 49 (nI md)) 73 (nI sc)) 74 (nI k9)) 77 dn440) 78 dn440) 79 dn440) (updA (updA (updA (updA (updA B 14 nc) 17 ty443) 18 mn444) 48 vn) 49 vt)) _ := mW_to (F := F) (l1 := [(15, (nI fa438)), (16, pl439), (44, (nI fd)), (49, (nI md)), (73, (nI sc)), (74, (nI k9)), (77, dn440), (78, wt441), (79, wf442), (77, dn440), (78, dn440), (79, dn440)]) (l2 := [(15, (nI fa438)), (16, pl439), (44, (nI fd)), (49, (nI md)), (73, (nI sc)), (74, (nI k9)), (77, dn440), (78, dn440), (79, dn440)]) (V := [(nI fa438), pl439, (nI fd), (nI md), (nI sc), (nI k9), dn440, dn440, dn440, dn440, dn440, dn440, (nI fa438), pl439, (nI fd), (nI md), (nI sc), (nI k9), dn440, dn440, dn440]) rfl rfl rfl hP
              have hD : va_D A (mW G h0 a (upd (upd (upd (upd (upd (upd (upd (upd (upd F 15 (nI fa438)) 16 pl439) 44 (nI fd)) 49 (nI md)) 73 (nI sc)) 74 (nI k9)) 77 dn440) 78 dn440) 79 dn440) (updA (updA (updA (updA (updA B 14 nc) 17 ty443) 18 mn444) 48 vn) 49 vt)) := mW_D hD
              refine W.widen (k := 0) (n := 0) (Nat.le_of_ble_eq_true rfl) (Nat.le_of_ble_eq_true rfl) ?_
              refine W.eq (g2 := F0 m 142 ls [.int (nI r19)]) rfl ?_
              have hz456 : fa ≤ fa438 := (by omega)
              have hz457 : fa438 ≤ 15 := (by omega)
              have hz458 : TyC dc r19 := h29
              have hz459 : r19 ≤ 2050 := (by omega)
              have hz460 : ChE B nd n9 ty ty443 mn mn444 := hch450
              have hz461 : mnN B nd mn444 := h448
              have hz462 : If (fa438 = 0) (Typ0 B dc fd md nd ty443 mn444 vt sc k9 n9 (nI r19)) := (fun e => Typ0.of (kids (kk := 18) (c1 := c6) (c2 := c425) (c3 := c6) hkd (by decide) ⟨by omega, by omega, by omega⟩ (Or.inr ⟨by decide, e7⟩) (Or.inr ⟨by decide, e426⟩) (Or.inl (by decide)) (by decide) (hy451 (by omega)) ((fun e => (h449 e).1) (by omega)) (hy451 (by omega))) (LT18 hkd hh12 hh431 ht452 (by omega) (h449 (by omega)).2 (by omega) (by first | exact Or.inl (by rw [show r19 = 1 by omega]; rfl) | exact Or.inr (by rw [show r19 = 2 by omega]; rfl))))
              have hP : va_P G.1 pCl (mW G h0 a (upd (upd (upd (upd (upd (upd (upd (upd (upd F 15 (nI fa438)) 16 pl439) 44 (nI fd)) 49 (nI md)) 73 (nI sc)) 74 (nI k9)) 77 dn440) 78 dn440) 79 dn440) (updA (updA (updA (updA (updA B 14 nc) 17 ty443) 18 mn444) 48 vn) 49 vt)) _ := hP
              have hD : va_D A (mW G h0 a (upd (upd (upd (upd (upd (upd (upd (upd (upd F 15 (nI fa438)) 16 pl439) 44 (nI fd)) 49 (nI md)) 73 (nI sc)) 74 (nI k9)) 77 dn440) 78 dn440) 79 dn440) (updA (updA (updA (updA (updA B 14 nc) 17 ty443) 18 mn444) 48 vn) 49 vt)) := mW_D hD
              exact W.iret (v := (nI r19)) hx hb hr (fun t9 ht9 hW9 => ⟨⟨_, (r19, fa438, pl439, dn440, dn440, dn440, ty443, mn444), rfl, ⟨rfl, hz456, hz457, hz458, hz459, hz460, hz461, hz462⟩, by rw [ht9]; exact hP, hD⟩, hS.F ht9⟩) hS.2.2 dX12_two_142
        · refine lv_iload_n hx hb dX12_two_87 rfl (lv_at hl 1 rfl) ?_
          refine lv_bipush (v := 94) hx hb dX12_two_88 (by decide) ?_
          refine lv_icmp_ne (tgt := 143) hx hb dX12_two_90 (by decide) (fun c463 => ?_) (fun c463 => ?_)
          · refine lv_aload_n hx hb dX12_two_143 rfl (lv_at hl 2 rfl) ?_
            refine lv_iload_n hx hb dX12_two_144 rfl (lv_at hl 0 rfl) ?_
            refine lv_iconst (v := 1) hx hb dX12_two_145 (by decide) ?_
            refine lv_icmp_ne (tgt := 153) hx hb dX12_two_146 (by decide) (fun c464 => ?_) (fun c464 => ?_)
            · have n465 : ¬ (r19 = 1) := fun h9 => c464 ((nI_eq (a := r19) (b := 1) (by omega) (by omega)).mpr h9)
              refine lv_iconst (v := 0) hx hb dX12_two_153 (by decide) ?_
              refine lv_bipush (v := 11) hx hb dX12_two_154 (by decide) ?_
              refine lv_aload_n hx hb dX12_two_156 rfl (lv_at hl 2 rfl) ?_
              refine r_get (v := .ref (a 10)) hx hb hown hq hE hP 18 41 tFX12_18 (by decide) pw_1440 rfl dX12_two_157 ?_
              refine lv_aload_n hx hb dX12_two_160 rfl (lv_at hl 2 rfl) ?_
              refine r_get (v := .ref (a 12)) hx hb hown hq hE hP 20 47 tFX12_20 (by decide) pw_1442 rfl dX12_two_161 ?_
              refine lv_iload_n hx hb dX12_two_164 rfl (lv_at hl 3 rfl) ?_
              refine r_ldi (f := (B 12)) (j := n9) hx hb hE hP 12 (ma_12 G a _) rfl (by omega) (by decide) dX12_two_165 ?_
              refine lv_topi (fun x466 e467 => ?_)
              obtain rfl : x466 = nI c6 := e467.trans e7
              refine r_ldi (f := (B 10)) (j := c6) hx hb hE hP 10 (ma_10 G a _) rfl (by omega) (by decide) dX12_two_166 ?_
              obtain ⟨⟨t468, e469, h470⟩, -⟩ := hF c6 h8
              refine lv_topi (fun x471 e472 => ?_)
              obtain rfl : x471 = nI t468 := e472.trans e469
              have hP : va_P G.1 pCl (mW G h0 a (upd (upd (upd (upd (upd (upd (upd (upd (upd (upd F 15 (nI fa20)) 16 pl21) 44 (nI fd)) 49 (nI md)) 73 (nI sc)) 74 (nI k9)) 77 dn22) 78 wt23) 79 wf24) 15 (nI fa20)) (updA (updA (updA (updA (updA B 14 nc) 17 ty25) 18 mn26) 48 vn) 49 vt)) _ := mW_to (F := F) (l1 := [(15, (nI fa20)), (16, pl21), (44, (nI fd)), (49, (nI md)), (73, (nI sc)), (74, (nI k9)), (77, dn22), (78, wt23), (79, wf24)]) (l2 := [(15, (nI fa20)), (16, pl21), (44, (nI fd)), (49, (nI md)), (73, (nI sc)), (74, (nI k9)), (77, dn22), (78, wt23), (79, wf24), (15, (nI fa20))]) (V := [(nI fa20), pl21, (nI fd), (nI md), (nI sc), (nI k9), dn22, wt23, wf24, (nI fa20), pl21, (nI fd), (nI md), (nI sc), (nI k9), dn22, wt23, wf24, (nI fa20)]) rfl rfl rfl hP
              have hD : va_D A (mW G h0 a (upd (upd (upd (upd (upd (upd (upd (upd (upd (upd F 15 (nI fa20)) 16 pl21) 44 (nI fd)) 49 (nI md)) 73 (nI sc)) 74 (nI k9)) 77 dn22) 78 wt23) 79 wf24) 15 (nI fa20)) (updA (updA (updA (updA (updA B 14 nc) 17 ty25) 18 mn26) 48 vn) 49 vt)) := mW_D hD
              refine pc_V0 (G := G) (As := [.int (nI 0), .int (nI 11), .int (nI t468)]) (rest := []) hx hb hml hown hq hE hX pX0_al hP hD hS hA hl.1 (R_judgeL l G h0 a (upd (upd (upd (upd (upd (upd (upd (upd (upd F 15 (nI fa20)) 16 pl21) 44 (nI fd)) 49 (nI md)) 73 (nI sc)) 74 (nI k9)) 77 dn22) 78 wt23) 79 wf24) (updA (updA (updA (updA (updA B 14 nc) 17 ty25) 18 mn26) 48 vn) 49 vt) 0 11 t468 fa20 (by omega) (by omega) (by omega) (by omega)) (gV pw_1798 pw_1799 pw_1800 pw_1523 pw_1793) hV_X12_judge 0 9 rfl rfl rfl rfl (Nat.le_of_ble_eq_true rfl) dX12_two_167 ⟨Nat.le_of_ble_eq_true rfl, Nat.le_of_ble_eq_true rfl⟩ ⟨(by show 3 + 1 ≤ (4 * z9 + 9); omega), (by show 8 + (4 + 11) + 82 ≤ (160 * z9 + 1360); omega)⟩ (fun v475 u473 H locs hw474 hP hD hS => ?_)
              obtain ⟨r476, fa477, pl478⟩ := u473
              obtain ⟨hw474, h479, h480, h481, h482, h483, h484, h485⟩ := hw474
              replace h479 : r476 ≤ 1 := h479
              replace h480 : fa20 ≤ fa477 := h480
              replace h481 : fa477 ≤ 15 := h481
              replace h482 : fa477 + 15 * r476 ≤ 15 := h482
              replace h483 : 1 ≤ r476 + fa477 := h483
              replace h484 : 1 ≤ 0 + fa477 := h484
              replace h485 : fa477 ≤ fa20 + 15 * (1 - 0) := h485
              obtain rfl : v475 = some (.int (nI r476)) := hw474
              have hP : va_P G.1 pCl (mW G h0 a (upd (upd (upd (upd (upd (upd (upd (upd (upd F 15 (nI fa477)) 16 pl478) 44 (nI fd)) 49 (nI md)) 73 (nI sc)) 74 (nI k9)) 77 dn22) 78 wt23) 79 wf24) (updA (updA (updA (updA (updA B 14 nc) 17 ty25) 18 mn26) 48 vn) 49 vt)) _ := mW_to (F := F) (l1 := [(15, (nI fa20)), (16, pl21), (44, (nI fd)), (49, (nI md)), (73, (nI sc)), (74, (nI k9)), (77, dn22), (78, wt23), (79, wf24), (15, (nI fa477)), (16, pl478)]) (l2 := [(15, (nI fa477)), (16, pl478), (44, (nI fd)), (49, (nI md)), (73, (nI sc)), (74, (nI k9)), (77, dn22), (78, wt23), (79, wf24)]) (V := [(nI fa477), pl478, (nI fd), (nI md), (nI sc), (nI k9), dn22, wt23, wf24, (nI fa477), pl478, (nI fa477), pl478, (nI fd), (nI md), (nI sc), (nI k9), dn22, wt23, wf24]) rfl rfl rfl hP
              have hD : va_D A (mW G h0 a (upd (upd (upd (upd (upd (upd (upd (upd (upd F 15 (nI fa477)) 16 pl478) 44 (nI fd)) 49 (nI md)) 73 (nI sc)) 74 (nI k9)) 77 dn22) 78 wt23) 79 wf24) (updA (updA (updA (updA (updA B 14 nc) 17 ty25) 18 mn26) 48 vn) 49 vt)) := mW_D hD
              refine W.widen (k := 0) (n := 0) (Nat.le_of_ble_eq_true rfl) (Nat.le_of_ble_eq_true rfl) ?_
              refine W.eq (g2 := F0 m 170 ls [.int (nI r476)]) rfl ?_
              refine lv_pop hx hb dX12_two_170 rfl ?_
              refine lv_aload_n hx hb dX12_two_171 rfl (lv_at hl 2 rfl) ?_
              refine lv_aload_n hx hb dX12_two_172 rfl (lv_at hl 2 rfl) ?_
              refine r_get (v := .ref (a 13)) hx hb hown hq hE hP 21 50 tFX12_21 (by decide) pw_1443 rfl dX12_two_173 ?_
              refine lv_iload_n hx hb dX12_two_176 rfl (lv_at hl 3 rfl) ?_
              refine r_ldi (f := (B 13)) (j := n9) hx hb hE hP 13 (ma_13 G a _) rfl (by omega) (by decide) dX12_two_177 ?_
              obtain ⟨c486, e487, h488, hp489, h490, hc491, hh492, hg493⟩ := Fs2.kid (kk := 18) (s := 2) hF hn9 hkd (by decide) (by decide) (by decide) (by decide) (by omega)
              refine lv_topi (fun x494 e495 => ?_)
              obtain rfl : x494 = nI c486 := e495.trans e487
              refine lv_iconst (v := 1) hx hb dX12_two_178 (by decide) ?_
              have hP : va_P G.1 pCl (mW G h0 a (upd (upd (upd (upd (upd (upd (upd (upd (upd (upd (upd (upd (upd (upd (upd (upd (upd F 15 (nI fa477)) 16 pl478) 44 (nI fd)) 49 (nI md)) 73 (nI sc)) 74 (nI k9)) 77 dn22) 78 wt23) 79 wf24) 15 (nI fa477)) 44 (nI fd)) 49 (nI md)) 73 (nI sc)) 74 (nI k9)) 77 dn22) 78 wt23) 79 wf24) (updA (updA (updA (updA (updA B 14 nc) 17 ty25) 18 mn26) 48 vn) 49 vt)) _ := mW_to (F := F) (l1 := [(15, (nI fa477)), (16, pl478), (44, (nI fd)), (49, (nI md)), (73, (nI sc)), (74, (nI k9)), (77, dn22), (78, wt23), (79, wf24)]) (l2 := [(15, (nI fa477)), (16, pl478), (44, (nI fd)), (49, (nI md)), (73, (nI sc)), (74, (nI k9)), (77, dn22), (78, wt23), (79, wf24), (15, (nI fa477)), (44, (nI fd)), (49, (nI md)), (73, (nI sc)), (74, (nI k9)), (77, dn22), (78, wt23), (79, wf24)]) (V := [(nI fa477), pl478, (nI fd), (nI md), (nI sc), (nI k9), dn22, wt23, wf24, (nI fa477), pl478, (nI fd), (nI md), (nI sc), (nI k9), dn22, wt23, wf24, (nI fa477), (nI fd), (nI md), (nI sc), (nI k9), dn22, wt23, wf24]) rfl rfl rfl hP
              have hD : va_D A (mW G h0 a (upd (upd (upd (upd (upd (upd (upd (upd (upd (upd (upd (upd (upd (upd (upd (upd (upd F 15 (nI fa477)) 16 pl478) 44 (nI fd)) 49 (nI md)) 73 (nI sc)) 74 (nI k9)) 77 dn22) 78 wt23) 79 wf24) 15 (nI fa477)) 44 (nI fd)) 49 (nI md)) 73 (nI sc)) 74 (nI k9)) 77 dn22) 78 wt23) 79 wf24) (updA (updA (updA (updA (updA B 14 nc) 17 ty25) 18 mn26) 48 vn) 49 vt)) := mW_D hD
              refine pc_V0 (G := G) (As := [.int (nI c486), .int (nI 1)]) (rest := []) hx hb hml hown hq hE hX pX0_al hP hD hS hA hl.1 (ihW h0 a (upd (upd (upd (upd (upd (upd (upd (upd (upd F 15 (nI fa477)) 16 pl478) 44 (nI fd)) 49 (nI md)) 73 (nI sc)) 74 (nI k9)) 77 dn22) 78 wt23) 79 wf24) B c486 fa477 sc k9 nd T nm wr lz dc fd md pr bk gh dn22 wt23 wf24 nc ty25 mn26 vn vt 1 hst hnm h488 (by omega) (by omega) (by omega) hk9 hnc h32 hvt (show kcl 1 _ = true from hc491) (by omega)) (gV pw_1826 pw_1827 pw_1828 pw_1523 pw_1865) hV_X12_wants 0 9 rfl rfl rfl rfl (Nat.le_of_ble_eq_true rfl) dX12_two_179 ⟨Nat.le_of_ble_eq_true rfl, Nat.le_of_ble_eq_true rfl⟩ ⟨(by show (4 * (z9 - 1) + 12) + 1 ≤ (4 * z9 + 9); omega), (by show 8 + (4 + 11) + (160 * (z9 - 1) + 1480) ≤ (160 * z9 + 1360); omega)⟩ (fun v498 u496 H locs hw497 hP hD hS => ?_)
              obtain ⟨fa499, pl500, dn501, wt502, wf503, ty504, mn505⟩ := u496
              obtain ⟨hw497, h506, h507, h508, h509, h510⟩ := hw497
              replace h506 : fa477 ≤ fa499 := h506
              replace h507 : fa499 ≤ 15 := h507
              replace h508 : ChE B nd c486 ty25 ty504 mn26 mn505 := h508
              replace h509 : mnN B nd mn505 := h509
              replace h510 : If (fa499 = 0) (Typ B dc fd md nd ty504 mn505 vt sc k9 c486 ∧ ty504 c486 = nI 1) := h510
              obtain rfl : v498 = none := hw497
              have hP : va_P G.1 pCl (mW G h0 a (upd (upd (upd (upd (upd (upd (upd (upd (upd F 15 (nI fa499)) 16 pl500) 44 (nI fd)) 49 (nI md)) 73 (nI sc)) 74 (nI k9)) 77 dn501) 78 wt502) 79 wf503) (updA (updA (updA (updA (updA B 14 nc) 17 ty504) 18 mn505) 48 vn) 49 vt)) _ := mW_to (F := F) (l1 := [(15, (nI fa477)), (16, pl478), (44, (nI fd)), (49, (nI md)), (73, (nI sc)), (74, (nI k9)), (77, dn22), (78, wt23), (79, wf24), (15, (nI fa499)), (16, pl500), (44, (nI fd)), (49, (nI md)), (73, (nI sc)), (74, (nI k9)), (77, dn501), (78, wt502), (79, wf503)]) (l2 := [(15, (nI fa499)), (16, pl500), (44, (nI fd)), (49, (nI md)), (73, (nI sc)), (74, (nI k9)), (77, dn501), (78, wt502), (79, wf503)]) (V := [(nI fa499), pl500, (nI fd), (nI md), (nI sc), (nI k9), dn501, wt502, wf503, (nI fa499), pl500, (nI fd), (nI md), (nI sc), (nI k9), dn501, wt502, wf503, (nI fa499), pl500, (nI fd), (nI md), (nI sc), (nI k9), dn501, wt502, wf503]) rfl rfl rfl hP
              have hD : va_D A (mW G h0 a (upd (upd (upd (upd (upd (upd (upd (upd (upd F 15 (nI fa499)) 16 pl500) 44 (nI fd)) 49 (nI md)) 73 (nI sc)) 74 (nI k9)) 77 dn501) 78 wt502) 79 wf503) (updA (updA (updA (updA (updA B 14 nc) 17 ty504) 18 mn505) 48 vn) 49 vt)) := mW_D hD
              refine W.widen (k := 0) (n := 0) (Nat.le_of_ble_eq_true rfl) (Nat.le_of_ble_eq_true rfl) ?_
              refine W.eq (g2 := F0 m 182 ls []) rfl ?_
              have hch511 : ChE B nd n9 ty ty504 mn mn505 := (ChE.trans hch35 (ChE.kid h508 (by omega) hp489))
              have hy512 : If (fa20 = 0) (Typ B dc fd md nd ty504 mn505 vt sc k9 c6) := (fun e => Typ.beside hF (by omega) hn9 (h33 e) h8 h488 hp9 hp489 (fun e => by have z := hg13; rw [e] at z; have := hg493; omega) h508)
              have ht513 : ty504 c6 = nI r19 := ((ChE.at hF (by omega) hn9 h8 h488 hp9 hp489 (fun e => by have z := hg13; rw [e] at z; have := hg493; omega) h508).trans h34)
              refine lv_aload_n hx hb dX12_two_182 rfl (lv_at hl 2 rfl) ?_
              refine lv_iload_n hx hb dX12_two_183 rfl (lv_at hl 1 rfl) ?_
              refine pc_SN (G := G) (As := [.int ((B 2) t1)]) (rest := [.ref h0]) hx hb hml hown hq hE hX pX0_al hP hS hA hl.1 (s_strengthN l G ((B 2) t1)) (gS pw_1668 pw_1669 pw_1523 pw_1635) hS_X12_strength rfl (Nat.le_of_ble_eq_true rfl) dX12_two_184 ⟨Nat.le_of_ble_eq_true rfl, Nat.le_of_ble_eq_true rfl⟩ ⟨(by show 2 + 1 ≤ (4 * z9 + 9); omega), (by show 8 + (1 + 11) + 60 ≤ (160 * z9 + 1360); omega)⟩ (fun v516 u514 H locs hw515 hP hS => ?_)
              obtain ⟨x517, rfl, hr518⟩ := hw515
              refine W.widen (k := 0) (n := 0) (Nat.le_of_ble_eq_true rfl) (Nat.le_of_ble_eq_true rfl) ?_
              refine W.eq (g2 := F0 m 187 ls [.int x517, .ref h0]) rfl ?_
              refine lv_bipush (v := 6) hx hb dX12_two_187 (by decide) ?_
              refine lv_icmp_ne (tgt := 196) hx hb dX12_two_189 (by decide) (fun c519 => ?_) (fun c519 => ?_)
              · refine lv_iconst (v := 1) hx hb dX12_two_196 (by decide) ?_
                have hP : va_P G.1 pCl (mW G h0 a (upd (upd (upd (upd (upd (upd (upd (upd (upd (upd F 15 (nI fa499)) 16 pl500) 44 (nI fd)) 49 (nI md)) 73 (nI sc)) 74 (nI k9)) 77 dn501) 78 wt502) 79 wf503) 77 dn501) (updA (updA (updA (updA (updA B 14 nc) 17 ty504) 18 mn505) 48 vn) 49 vt)) _ := hP
                have hD : va_D A (mW G h0 a (upd (upd (upd (upd (upd (upd (upd (upd (upd (upd F 15 (nI fa499)) 16 pl500) 44 (nI fd)) 49 (nI md)) 73 (nI sc)) 74 (nI k9)) 77 dn501) 78 wt502) 79 wf503) 77 dn501) (updA (updA (updA (updA (updA B 14 nc) 17 ty504) 18 mn505) 48 vn) 49 vt)) := mW_D hD
                refine pc_V0 (G := G) (As := [.int 1]) (rest := []) hx hb hml hown hq hE hX pX0_al hP hD hS hA hl.1 (R_behind l G h0 a (upd (upd (upd (upd (upd (upd (upd (upd (upd F 15 (nI fa499)) 16 pl500) 44 (nI fd)) 49 (nI md)) 73 (nI sc)) 74 (nI k9)) 77 dn501) 78 wt502) 79 wf503) (updA (updA (updA (updA (updA B 14 nc) 17 ty504) 18 mn505) 48 vn) 49 vt) 1 dn501) (gV pw_1832 pw_1833 pw_1834 pw_1523 pw_1804) hV_X12_behind 0 9 rfl rfl rfl rfl (Nat.le_of_ble_eq_true rfl) dX12_two_197 ⟨Nat.le_of_ble_eq_true rfl, Nat.le_of_ble_eq_true rfl⟩ ⟨(by show 2 + 1 ≤ (4 * z9 + 9); omega), (by show 8 + (2 + 11) + 60 ≤ (160 * z9 + 1360); omega)⟩ (fun v522 u520 H locs hw521 hP hD hS => ?_)
                obtain rfl : v522 = some (.int 1) := hw521
                have hP : va_P G.1 pCl (mW G h0 a (upd (upd (upd (upd (upd (upd (upd (upd (upd F 15 (nI fa499)) 16 pl500) 44 (nI fd)) 49 (nI md)) 73 (nI sc)) 74 (nI k9)) 77 dn501) 78 dn501) 79 dn501) (updA (updA (updA (updA (updA B 14 nc) 17 ty504) 18 mn505) 48 vn) 49 vt)) _ := mW_to (F := F) (l1 := [(15, (nI fa499)), (16, pl500), (44, (nI fd)), (49, (nI md)), (73, (nI sc)), (74, (nI k9)), (77, dn501), (78, wt502), (79, wf503), (77, dn501), (78, dn501), (79, dn501)]) (l2 := [(15, (nI fa499)), (16, pl500), (44, (nI fd)), (49, (nI md)), (73, (nI sc)), (74, (nI k9)), (77, dn501), (78, dn501), (79, dn501)]) (V := [(nI fa499), pl500, (nI fd), (nI md), (nI sc), (nI k9), dn501, dn501, dn501, dn501, dn501, dn501, (nI fa499), pl500, (nI fd), (nI md), (nI sc), (nI k9), dn501, dn501, dn501]) rfl rfl rfl hP
                have hD : va_D A (mW G h0 a (upd (upd (upd (upd (upd (upd (upd (upd (upd F 15 (nI fa499)) 16 pl500) 44 (nI fd)) 49 (nI md)) 73 (nI sc)) 74 (nI k9)) 77 dn501) 78 dn501) 79 dn501) (updA (updA (updA (updA (updA B 14 nc) 17 ty504) 18 mn505) 48 vn) 49 vt)) := mW_D hD
                refine W.widen (k := 0) (n := 0) (Nat.le_of_ble_eq_true rfl) (Nat.le_of_ble_eq_true rfl) ?_
                refine W.eq (g2 := F0 m 200 ls [.int 1]) rfl ?_
                have hz523 : fa ≤ fa499 := (by omega)
                have hz524 : fa499 ≤ 15 := (by omega)
                have hz525 : TyC dc 1 := (by unfold TyC; omega)
                have hz526 : 1 ≤ 2050 := (by omega)
                have hz527 : ChE B nd n9 ty ty504 mn mn505 := hch511
                have hz528 : mnN B nd mn505 := h509
                have hz529 : If (fa499 = 0) (Typ0 B dc fd md nd ty504 mn505 vt sc k9 n9 (nI 1)) := (fun e => absurd e (by omega))
                have hP : va_P G.1 pCl (mW G h0 a (upd (upd (upd (upd (upd (upd (upd (upd (upd F 15 (nI fa499)) 16 pl500) 44 (nI fd)) 49 (nI md)) 73 (nI sc)) 74 (nI k9)) 77 dn501) 78 dn501) 79 dn501) (updA (updA (updA (updA (updA B 14 nc) 17 ty504) 18 mn505) 48 vn) 49 vt)) _ := hP
                have hD : va_D A (mW G h0 a (upd (upd (upd (upd (upd (upd (upd (upd (upd F 15 (nI fa499)) 16 pl500) 44 (nI fd)) 49 (nI md)) 73 (nI sc)) 74 (nI k9)) 77 dn501) 78 dn501) 79 dn501) (updA (updA (updA (updA (updA B 14 nc) 17 ty504) 18 mn505) 48 vn) 49 vt)) := mW_D hD
                exact W.iret (v := 1) hx hb hr (fun t9 ht9 hW9 => ⟨⟨_, (1, fa499, pl500, dn501, dn501, dn501, ty504, mn505), rfl, ⟨rfl, hz523, hz524, hz525, hz526, hz527, hz528, hz529⟩, by rw [ht9]; exact hP, hD⟩, hS.F ht9⟩) hS.2.2 dX12_two_200
              · refine lv_iconst (v := 2) hx hb dX12_two_192 (by decide) ?_
                refine lv_goto (tgt := 197) hx hb dX12_two_193 (by decide) ?_
                have hP : va_P G.1 pCl (mW G h0 a (upd (upd (upd (upd (upd (upd (upd (upd (upd (upd F 15 (nI fa499)) 16 pl500) 44 (nI fd)) 49 (nI md)) 73 (nI sc)) 74 (nI k9)) 77 dn501) 78 wt502) 79 wf503) 77 dn501) (updA (updA (updA (updA (updA B 14 nc) 17 ty504) 18 mn505) 48 vn) 49 vt)) _ := hP
                have hD : va_D A (mW G h0 a (upd (upd (upd (upd (upd (upd (upd (upd (upd (upd F 15 (nI fa499)) 16 pl500) 44 (nI fd)) 49 (nI md)) 73 (nI sc)) 74 (nI k9)) 77 dn501) 78 wt502) 79 wf503) 77 dn501) (updA (updA (updA (updA (updA B 14 nc) 17 ty504) 18 mn505) 48 vn) 49 vt)) := mW_D hD
                refine pc_V0 (G := G) (As := [.int 2]) (rest := []) hx hb hml hown hq hE hX pX0_al hP hD hS hA hl.1 (R_behind l G h0 a (upd (upd (upd (upd (upd (upd (upd (upd (upd F 15 (nI fa499)) 16 pl500) 44 (nI fd)) 49 (nI md)) 73 (nI sc)) 74 (nI k9)) 77 dn501) 78 wt502) 79 wf503) (updA (updA (updA (updA (updA B 14 nc) 17 ty504) 18 mn505) 48 vn) 49 vt) 2 dn501) (gV pw_1832 pw_1833 pw_1834 pw_1523 pw_1804) hV_X12_behind 0 9 rfl rfl rfl rfl (Nat.le_of_ble_eq_true rfl) dX12_two_197 ⟨Nat.le_of_ble_eq_true rfl, Nat.le_of_ble_eq_true rfl⟩ ⟨(by show 2 + 1 ≤ (4 * z9 + 9); omega), (by show 8 + (2 + 11) + 60 ≤ (160 * z9 + 1360); omega)⟩ (fun v532 u530 H locs hw531 hP hD hS => ?_)
                obtain rfl : v532 = some (.int 2) := hw531
                have hP : va_P G.1 pCl (mW G h0 a (upd (upd (upd (upd (upd (upd (upd (upd (upd F 15 (nI fa499)) 16 pl500) 44 (nI fd)) 49 (nI md)) 73 (nI sc)) 74 (nI k9)) 77 dn501) 78 dn501) 79 dn501) (updA (updA (updA (updA (updA B 14 nc) 17 ty504) 18 mn505) 48 vn) 49 vt)) _ := mW_to (F := F) (l1 := [(15, (nI fa499)), (16, pl500), (44, (nI fd)), (49, (nI md)), (73, (nI sc)), (74, (nI k9)), (77, dn501), (78, wt502), (79, wf503), (77, dn501), (78, dn501), (79, dn501)]) (l2 := [(15, (nI fa499)), (16, pl500), (44, (nI fd)), (49, (nI md)), (73, (nI sc)), (74, (nI k9)), (77, dn501), (78, dn501), (79, dn501)]) (V := [(nI fa499), pl500, (nI fd), (nI md), (nI sc), (nI k9), dn501, dn501, dn501, dn501, dn501, dn501, (nI fa499), pl500, (nI fd), (nI md), (nI sc), (nI k9), dn501, dn501, dn501]) rfl rfl rfl hP
                have hD : va_D A (mW G h0 a (upd (upd (upd (upd (upd (upd (upd (upd (upd F 15 (nI fa499)) 16 pl500) 44 (nI fd)) 49 (nI md)) 73 (nI sc)) 74 (nI k9)) 77 dn501) 78 dn501) 79 dn501) (updA (updA (updA (updA (updA B 14 nc) 17 ty504) 18 mn505) 48 vn) 49 vt)) := mW_D hD
                refine W.widen (k := 0) (n := 0) (Nat.le_of_ble_eq_true rfl) (Nat.le_of_ble_eq_true rfl) ?_
                refine W.eq (g2 := F0 m 200 ls [.int 2]) rfl ?_
                have hz533 : fa ≤ fa499 := (by omega)
                have hz534 : fa499 ≤ 15 := (by omega)
                have hz535 : TyC dc 2 := (by unfold TyC; omega)
                have hz536 : 2 ≤ 2050 := (by omega)
                have hz537 : ChE B nd n9 ty ty504 mn mn505 := hch511
                have hz538 : mnN B nd mn505 := h509
                have hz539 : If (fa499 = 0) (Typ0 B dc fd md nd ty504 mn505 vt sc k9 n9 (nI 2)) := (fun e => absurd e (by omega))
                have hP : va_P G.1 pCl (mW G h0 a (upd (upd (upd (upd (upd (upd (upd (upd (upd F 15 (nI fa499)) 16 pl500) 44 (nI fd)) 49 (nI md)) 73 (nI sc)) 74 (nI k9)) 77 dn501) 78 dn501) 79 dn501) (updA (updA (updA (updA (updA B 14 nc) 17 ty504) 18 mn505) 48 vn) 49 vt)) _ := hP
                have hD : va_D A (mW G h0 a (upd (upd (upd (upd (upd (upd (upd (upd (upd F 15 (nI fa499)) 16 pl500) 44 (nI fd)) 49 (nI md)) 73 (nI sc)) 74 (nI k9)) 77 dn501) 78 dn501) 79 dn501) (updA (updA (updA (updA (updA B 14 nc) 17 ty504) 18 mn505) 48 vn) 49 vt)) := mW_D hD
                exact W.iret (v := 2) hx hb hr (fun t9 ht9 hW9 => ⟨⟨_, (2, fa499, pl500, dn501, dn501, dn501, ty504, mn505), rfl, ⟨rfl, hz533, hz534, hz535, hz536, hz537, hz538, hz539⟩, by rw [ht9]; exact hP, hD⟩, hS.F ht9⟩) hS.2.2 dX12_two_200
            · have n540 : r19 = 1 := (nI_eq (a := r19) (b := 1) (by omega) (by omega)).mp c464
              refine lv_iconst (v := 1) hx hb dX12_two_149 (by decide) ?_
              refine lv_goto (tgt := 154) hx hb dX12_two_150 (by decide) ?_
              refine lv_bipush (v := 11) hx hb dX12_two_154 (by decide) ?_
              refine lv_aload_n hx hb dX12_two_156 rfl (lv_at hl 2 rfl) ?_
              refine r_get (v := .ref (a 10)) hx hb hown hq hE hP 18 41 tFX12_18 (by decide) pw_1440 rfl dX12_two_157 ?_
              refine lv_aload_n hx hb dX12_two_160 rfl (lv_at hl 2 rfl) ?_
              refine r_get (v := .ref (a 12)) hx hb hown hq hE hP 20 47 tFX12_20 (by decide) pw_1442 rfl dX12_two_161 ?_
              refine lv_iload_n hx hb dX12_two_164 rfl (lv_at hl 3 rfl) ?_
              refine r_ldi (f := (B 12)) (j := n9) hx hb hE hP 12 (ma_12 G a _) rfl (by omega) (by decide) dX12_two_165 ?_
              refine lv_topi (fun x541 e542 => ?_)
              obtain rfl : x541 = nI c6 := e542.trans e7
              refine r_ldi (f := (B 10)) (j := c6) hx hb hE hP 10 (ma_10 G a _) rfl (by omega) (by decide) dX12_two_166 ?_
              obtain ⟨⟨t543, e544, h545⟩, -⟩ := hF c6 h8
              refine lv_topi (fun x546 e547 => ?_)
              obtain rfl : x546 = nI t543 := e547.trans e544
              have hP : va_P G.1 pCl (mW G h0 a (upd (upd (upd (upd (upd (upd (upd (upd (upd (upd F 15 (nI fa20)) 16 pl21) 44 (nI fd)) 49 (nI md)) 73 (nI sc)) 74 (nI k9)) 77 dn22) 78 wt23) 79 wf24) 15 (nI fa20)) (updA (updA (updA (updA (updA B 14 nc) 17 ty25) 18 mn26) 48 vn) 49 vt)) _ := mW_to (F := F) (l1 := [(15, (nI fa20)), (16, pl21), (44, (nI fd)), (49, (nI md)), (73, (nI sc)), (74, (nI k9)), (77, dn22), (78, wt23), (79, wf24)]) (l2 := [(15, (nI fa20)), (16, pl21), (44, (nI fd)), (49, (nI md)), (73, (nI sc)), (74, (nI k9)), (77, dn22), (78, wt23), (79, wf24), (15, (nI fa20))]) (V := [(nI fa20), pl21, (nI fd), (nI md), (nI sc), (nI k9), dn22, wt23, wf24, (nI fa20), pl21, (nI fd), (nI md), (nI sc), (nI k9), dn22, wt23, wf24, (nI fa20)]) rfl rfl rfl hP
              have hD : va_D A (mW G h0 a (upd (upd (upd (upd (upd (upd (upd (upd (upd (upd F 15 (nI fa20)) 16 pl21) 44 (nI fd)) 49 (nI md)) 73 (nI sc)) 74 (nI k9)) 77 dn22) 78 wt23) 79 wf24) 15 (nI fa20)) (updA (updA (updA (updA (updA B 14 nc) 17 ty25) 18 mn26) 48 vn) 49 vt)) := mW_D hD
              refine pc_V0 (G := G) (As := [.int (nI 1), .int (nI 11), .int (nI t543)]) (rest := []) hx hb hml hown hq hE hX pX0_al hP hD hS hA hl.1 (R_judgeL l G h0 a (upd (upd (upd (upd (upd (upd (upd (upd (upd F 15 (nI fa20)) 16 pl21) 44 (nI fd)) 49 (nI md)) 73 (nI sc)) 74 (nI k9)) 77 dn22) 78 wt23) 79 wf24) (updA (updA (updA (updA (updA B 14 nc) 17 ty25) 18 mn26) 48 vn) 49 vt) 1 11 t543 fa20 (by omega) (by omega) (by omega) (by omega)) (gV pw_1798 pw_1799 pw_1800 pw_1523 pw_1793) hV_X12_judge 0 9 rfl rfl rfl rfl (Nat.le_of_ble_eq_true rfl) dX12_two_167 ⟨Nat.le_of_ble_eq_true rfl, Nat.le_of_ble_eq_true rfl⟩ ⟨(by show 3 + 1 ≤ (4 * z9 + 9); omega), (by show 8 + (4 + 11) + 82 ≤ (160 * z9 + 1360); omega)⟩ (fun v550 u548 H locs hw549 hP hD hS => ?_)
              obtain ⟨r551, fa552, pl553⟩ := u548
              obtain ⟨hw549, h554, h555, h556, h557, h558, h559, h560⟩ := hw549
              replace h554 : r551 ≤ 1 := h554
              replace h555 : fa20 ≤ fa552 := h555
              replace h556 : fa552 ≤ 15 := h556
              replace h557 : fa552 + 15 * r551 ≤ 15 := h557
              replace h558 : 1 ≤ r551 + fa552 := h558
              replace h559 : 1 ≤ 1 + fa552 := h559
              replace h560 : fa552 ≤ fa20 + 15 * (1 - 1) := h560
              obtain rfl : v550 = some (.int (nI r551)) := hw549
              have hP : va_P G.1 pCl (mW G h0 a (upd (upd (upd (upd (upd (upd (upd (upd (upd F 15 (nI fa552)) 16 pl553) 44 (nI fd)) 49 (nI md)) 73 (nI sc)) 74 (nI k9)) 77 dn22) 78 wt23) 79 wf24) (updA (updA (updA (updA (updA B 14 nc) 17 ty25) 18 mn26) 48 vn) 49 vt)) _ := mW_to (F := F) (l1 := [(15, (nI fa20)), (16, pl21), (44, (nI fd)), (49, (nI md)), (73, (nI sc)), (74, (nI k9)), (77, dn22), (78, wt23), (79, wf24), (15, (nI fa552)), (16, pl553)]) (l2 := [(15, (nI fa552)), (16, pl553), (44, (nI fd)), (49, (nI md)), (73, (nI sc)), (74, (nI k9)), (77, dn22), (78, wt23), (79, wf24)]) (V := [(nI fa552), pl553, (nI fd), (nI md), (nI sc), (nI k9), dn22, wt23, wf24, (nI fa552), pl553, (nI fa552), pl553, (nI fd), (nI md), (nI sc), (nI k9), dn22, wt23, wf24]) rfl rfl rfl hP
              have hD : va_D A (mW G h0 a (upd (upd (upd (upd (upd (upd (upd (upd (upd F 15 (nI fa552)) 16 pl553) 44 (nI fd)) 49 (nI md)) 73 (nI sc)) 74 (nI k9)) 77 dn22) 78 wt23) 79 wf24) (updA (updA (updA (updA (updA B 14 nc) 17 ty25) 18 mn26) 48 vn) 49 vt)) := mW_D hD
              refine W.widen (k := 0) (n := 0) (Nat.le_of_ble_eq_true rfl) (Nat.le_of_ble_eq_true rfl) ?_
              refine W.eq (g2 := F0 m 170 ls [.int (nI r551)]) rfl ?_
              refine lv_pop hx hb dX12_two_170 rfl ?_
              refine lv_aload_n hx hb dX12_two_171 rfl (lv_at hl 2 rfl) ?_
              refine lv_aload_n hx hb dX12_two_172 rfl (lv_at hl 2 rfl) ?_
              refine r_get (v := .ref (a 13)) hx hb hown hq hE hP 21 50 tFX12_21 (by decide) pw_1443 rfl dX12_two_173 ?_
              refine lv_iload_n hx hb dX12_two_176 rfl (lv_at hl 3 rfl) ?_
              refine r_ldi (f := (B 13)) (j := n9) hx hb hE hP 13 (ma_13 G a _) rfl (by omega) (by decide) dX12_two_177 ?_
              obtain ⟨c561, e562, h563, hp564, h565, hc566, hh567, hg568⟩ := Fs2.kid (kk := 18) (s := 2) hF hn9 hkd (by decide) (by decide) (by decide) (by decide) (by omega)
              refine lv_topi (fun x569 e570 => ?_)
              obtain rfl : x569 = nI c561 := e570.trans e562
              refine lv_iconst (v := 1) hx hb dX12_two_178 (by decide) ?_
              have hP : va_P G.1 pCl (mW G h0 a (upd (upd (upd (upd (upd (upd (upd (upd (upd (upd (upd (upd (upd (upd (upd (upd (upd F 15 (nI fa552)) 16 pl553) 44 (nI fd)) 49 (nI md)) 73 (nI sc)) 74 (nI k9)) 77 dn22) 78 wt23) 79 wf24) 15 (nI fa552)) 44 (nI fd)) 49 (nI md)) 73 (nI sc)) 74 (nI k9)) 77 dn22) 78 wt23) 79 wf24) (updA (updA (updA (updA (updA B 14 nc) 17 ty25) 18 mn26) 48 vn) 49 vt)) _ := mW_to (F := F) (l1 := [(15, (nI fa552)), (16, pl553), (44, (nI fd)), (49, (nI md)), (73, (nI sc)), (74, (nI k9)), (77, dn22), (78, wt23), (79, wf24)]) (l2 := [(15, (nI fa552)), (16, pl553), (44, (nI fd)), (49, (nI md)), (73, (nI sc)), (74, (nI k9)), (77, dn22), (78, wt23), (79, wf24), (15, (nI fa552)), (44, (nI fd)), (49, (nI md)), (73, (nI sc)), (74, (nI k9)), (77, dn22), (78, wt23), (79, wf24)]) (V := [(nI fa552), pl553, (nI fd), (nI md), (nI sc), (nI k9), dn22, wt23, wf24, (nI fa552), pl553, (nI fd), (nI md), (nI sc), (nI k9), dn22, wt23, wf24, (nI fa552), (nI fd), (nI md), (nI sc), (nI k9), dn22, wt23, wf24]) rfl rfl rfl hP
              have hD : va_D A (mW G h0 a (upd (upd (upd (upd (upd (upd (upd (upd (upd (upd (upd (upd (upd (upd (upd (upd (upd F 15 (nI fa552)) 16 pl553) 44 (nI fd)) 49 (nI md)) 73 (nI sc)) 74 (nI k9)) 77 dn22) 78 wt23) 79 wf24) 15 (nI fa552)) 44 (nI fd)) 49 (nI md)) 73 (nI sc)) 74 (nI k9)) 77 dn22) 78 wt23) 79 wf24) (updA (updA (updA (updA (updA B 14 nc) 17 ty25) 18 mn26) 48 vn) 49 vt)) := mW_D hD
              refine pc_V0 (G := G) (As := [.int (nI c561), .int (nI 1)]) (rest := []) hx hb hml hown hq hE hX pX0_al hP hD hS hA hl.1 (ihW h0 a (upd (upd (upd (upd (upd (upd (upd (upd (upd F 15 (nI fa552)) 16 pl553) 44 (nI fd)) 49 (nI md)) 73 (nI sc)) 74 (nI k9)) 77 dn22) 78 wt23) 79 wf24) B c561 fa552 sc k9 nd T nm wr lz dc fd md pr bk gh dn22 wt23 wf24 nc ty25 mn26 vn vt 1 hst hnm h563 (by omega) (by omega) (by omega) hk9 hnc h32 hvt (show kcl 1 _ = true from hc566) (by omega)) (gV pw_1826 pw_1827 pw_1828 pw_1523 pw_1865) hV_X12_wants 0 9 rfl rfl rfl rfl (Nat.le_of_ble_eq_true rfl) dX12_two_179 ⟨Nat.le_of_ble_eq_true rfl, Nat.le_of_ble_eq_true rfl⟩ ⟨(by show (4 * (z9 - 1) + 12) + 1 ≤ (4 * z9 + 9); omega), (by show 8 + (4 + 11) + (160 * (z9 - 1) + 1480) ≤ (160 * z9 + 1360); omega)⟩ (fun v573 u571 H locs hw572 hP hD hS => ?_)
              obtain ⟨fa574, pl575, dn576, wt577, wf578, ty579, mn580⟩ := u571
              obtain ⟨hw572, h581, h582, h583, h584, h585⟩ := hw572
              replace h581 : fa552 ≤ fa574 := h581
              replace h582 : fa574 ≤ 15 := h582
              replace h583 : ChE B nd c561 ty25 ty579 mn26 mn580 := h583
              replace h584 : mnN B nd mn580 := h584
              replace h585 : If (fa574 = 0) (Typ B dc fd md nd ty579 mn580 vt sc k9 c561 ∧ ty579 c561 = nI 1) := h585
              obtain rfl : v573 = none := hw572
              have hP : va_P G.1 pCl (mW G h0 a (upd (upd (upd (upd (upd (upd (upd (upd (upd F 15 (nI fa574)) 16 pl575) 44 (nI fd)) 49 (nI md)) 73 (nI sc)) 74 (nI k9)) 77 dn576) 78 wt577) 79 wf578) (updA (updA (updA (updA (updA B 14 nc) 17 ty579) 18 mn580) 48 vn) 49 vt)) _ := mW_to (F := F) (l1 := [(15, (nI fa552)), (16, pl553), (44, (nI fd)), (49, (nI md)), (73, (nI sc)), (74, (nI k9)), (77, dn22), (78, wt23), (79, wf24), (15, (nI fa574)), (16, pl575), (44, (nI fd)), (49, (nI md)), (73, (nI sc)), (74, (nI k9)), (77, dn576), (78, wt577), (79, wf578)]) (l2 := [(15, (nI fa574)), (16, pl575), (44, (nI fd)), (49, (nI md)), (73, (nI sc)), (74, (nI k9)), (77, dn576), (78, wt577), (79, wf578)]) (V := [(nI fa574), pl575, (nI fd), (nI md), (nI sc), (nI k9), dn576, wt577, wf578, (nI fa574), pl575, (nI fd), (nI md), (nI sc), (nI k9), dn576, wt577, wf578, (nI fa574), pl575, (nI fd), (nI md), (nI sc), (nI k9), dn576, wt577, wf578]) rfl rfl rfl hP
              have hD : va_D A (mW G h0 a (upd (upd (upd (upd (upd (upd (upd (upd (upd F 15 (nI fa574)) 16 pl575) 44 (nI fd)) 49 (nI md)) 73 (nI sc)) 74 (nI k9)) 77 dn576) 78 wt577) 79 wf578) (updA (updA (updA (updA (updA B 14 nc) 17 ty579) 18 mn580) 48 vn) 49 vt)) := mW_D hD
              refine W.widen (k := 0) (n := 0) (Nat.le_of_ble_eq_true rfl) (Nat.le_of_ble_eq_true rfl) ?_
              refine W.eq (g2 := F0 m 182 ls []) rfl ?_
              have hch586 : ChE B nd n9 ty ty579 mn mn580 := (ChE.trans hch35 (ChE.kid h583 (by omega) hp564))
              have hy587 : If (fa20 = 0) (Typ B dc fd md nd ty579 mn580 vt sc k9 c6) := (fun e => Typ.beside hF (by omega) hn9 (h33 e) h8 h563 hp9 hp564 (fun e => by have z := hg13; rw [e] at z; have := hg568; omega) h583)
              have ht588 : ty579 c6 = nI r19 := ((ChE.at hF (by omega) hn9 h8 h563 hp9 hp564 (fun e => by have z := hg13; rw [e] at z; have := hg568; omega) h583).trans h34)
              refine lv_aload_n hx hb dX12_two_182 rfl (lv_at hl 2 rfl) ?_
              refine lv_iload_n hx hb dX12_two_183 rfl (lv_at hl 1 rfl) ?_
              refine pc_SN (G := G) (As := [.int ((B 2) t1)]) (rest := [.ref h0]) hx hb hml hown hq hE hX pX0_al hP hS hA hl.1 (s_strengthN l G ((B 2) t1)) (gS pw_1668 pw_1669 pw_1523 pw_1635) hS_X12_strength rfl (Nat.le_of_ble_eq_true rfl) dX12_two_184 ⟨Nat.le_of_ble_eq_true rfl, Nat.le_of_ble_eq_true rfl⟩ ⟨(by show 2 + 1 ≤ (4 * z9 + 9); omega), (by show 8 + (1 + 11) + 60 ≤ (160 * z9 + 1360); omega)⟩ (fun v591 u589 H locs hw590 hP hS => ?_)
              obtain ⟨x592, rfl, hr593⟩ := hw590
              refine W.widen (k := 0) (n := 0) (Nat.le_of_ble_eq_true rfl) (Nat.le_of_ble_eq_true rfl) ?_
              refine W.eq (g2 := F0 m 187 ls [.int x592, .ref h0]) rfl ?_
              refine lv_bipush (v := 6) hx hb dX12_two_187 (by decide) ?_
              refine lv_icmp_ne (tgt := 196) hx hb dX12_two_189 (by decide) (fun c594 => ?_) (fun c594 => ?_)
              · refine lv_iconst (v := 1) hx hb dX12_two_196 (by decide) ?_
                have hP : va_P G.1 pCl (mW G h0 a (upd (upd (upd (upd (upd (upd (upd (upd (upd (upd F 15 (nI fa574)) 16 pl575) 44 (nI fd)) 49 (nI md)) 73 (nI sc)) 74 (nI k9)) 77 dn576) 78 wt577) 79 wf578) 77 dn576) (updA (updA (updA (updA (updA B 14 nc) 17 ty579) 18 mn580) 48 vn) 49 vt)) _ := hP
                have hD : va_D A (mW G h0 a (upd (upd (upd (upd (upd (upd (upd (upd (upd (upd F 15 (nI fa574)) 16 pl575) 44 (nI fd)) 49 (nI md)) 73 (nI sc)) 74 (nI k9)) 77 dn576) 78 wt577) 79 wf578) 77 dn576) (updA (updA (updA (updA (updA B 14 nc) 17 ty579) 18 mn580) 48 vn) 49 vt)) := mW_D hD
                refine pc_V0 (G := G) (As := [.int 1]) (rest := []) hx hb hml hown hq hE hX pX0_al hP hD hS hA hl.1 (R_behind l G h0 a (upd (upd (upd (upd (upd (upd (upd (upd (upd F 15 (nI fa574)) 16 pl575) 44 (nI fd)) 49 (nI md)) 73 (nI sc)) 74 (nI k9)) 77 dn576) 78 wt577) 79 wf578) (updA (updA (updA (updA (updA B 14 nc) 17 ty579) 18 mn580) 48 vn) 49 vt) 1 dn576) (gV pw_1832 pw_1833 pw_1834 pw_1523 pw_1804) hV_X12_behind 0 9 rfl rfl rfl rfl (Nat.le_of_ble_eq_true rfl) dX12_two_197 ⟨Nat.le_of_ble_eq_true rfl, Nat.le_of_ble_eq_true rfl⟩ ⟨(by show 2 + 1 ≤ (4 * z9 + 9); omega), (by show 8 + (2 + 11) + 60 ≤ (160 * z9 + 1360); omega)⟩ (fun v597 u595 H locs hw596 hP hD hS => ?_)
                obtain rfl : v597 = some (.int 1) := hw596
                have hP : va_P G.1 pCl (mW G h0 a (upd (upd (upd (upd (upd (upd (upd (upd (upd F 15 (nI fa574)) 16 pl575) 44 (nI fd)) 49 (nI md)) 73 (nI sc)) 74 (nI k9)) 77 dn576) 78 dn576) 79 dn576) (updA (updA (updA (updA (updA B 14 nc) 17 ty579) 18 mn580) 48 vn) 49 vt)) _ := mW_to (F := F) (l1 := [(15, (nI fa574)), (16, pl575), (44, (nI fd)), (49, (nI md)), (73, (nI sc)), (74, (nI k9)), (77, dn576), (78, wt577), (79, wf578), (77, dn576), (78, dn576), (79, dn576)]) (l2 := [(15, (nI fa574)), (16, pl575), (44, (nI fd)), (49, (nI md)), (73, (nI sc)), (74, (nI k9)), (77, dn576), (78, dn576), (79, dn576)]) (V := [(nI fa574), pl575, (nI fd), (nI md), (nI sc), (nI k9), dn576, dn576, dn576, dn576, dn576, dn576, (nI fa574), pl575, (nI fd), (nI md), (nI sc), (nI k9), dn576, dn576, dn576]) rfl rfl rfl hP
                have hD : va_D A (mW G h0 a (upd (upd (upd (upd (upd (upd (upd (upd (upd F 15 (nI fa574)) 16 pl575) 44 (nI fd)) 49 (nI md)) 73 (nI sc)) 74 (nI k9)) 77 dn576) 78 dn576) 79 dn576) (updA (updA (updA (updA (updA B 14 nc) 17 ty579) 18 mn580) 48 vn) 49 vt)) := mW_D hD
                refine W.widen (k := 0) (n := 0) (Nat.le_of_ble_eq_true rfl) (Nat.le_of_ble_eq_true rfl) ?_
                refine W.eq (g2 := F0 m 200 ls [.int 1]) rfl ?_
                have hz598 : fa ≤ fa574 := (by omega)
                have hz599 : fa574 ≤ 15 := (by omega)
                have hz600 : TyC dc 1 := (by unfold TyC; omega)
                have hz601 : 1 ≤ 2050 := (by omega)
                have hz602 : ChE B nd n9 ty ty579 mn mn580 := hch586
                have hz603 : mnN B nd mn580 := h584
                have hz604 : If (fa574 = 0) (Typ0 B dc fd md nd ty579 mn580 vt sc k9 n9 (nI 1)) := (fun e => Typ0.of (kids (kk := 18) (c1 := c6) (c2 := c561) (c3 := c6) hkd (by decide) ⟨by omega, by omega, by omega⟩ (Or.inr ⟨by decide, e7⟩) (Or.inr ⟨by decide, e562⟩) (Or.inl (by decide)) (by decide) (hy587 (by omega)) ((fun e => (h585 e).1) (by omega)) (hy587 (by omega))) (LT18 hkd hh12 hh567 ht588 (by omega) (h585 (by omega)).2 (by omega) (Or.inl rfl)))
                have hP : va_P G.1 pCl (mW G h0 a (upd (upd (upd (upd (upd (upd (upd (upd (upd F 15 (nI fa574)) 16 pl575) 44 (nI fd)) 49 (nI md)) 73 (nI sc)) 74 (nI k9)) 77 dn576) 78 dn576) 79 dn576) (updA (updA (updA (updA (updA B 14 nc) 17 ty579) 18 mn580) 48 vn) 49 vt)) _ := hP
                have hD : va_D A (mW G h0 a (upd (upd (upd (upd (upd (upd (upd (upd (upd F 15 (nI fa574)) 16 pl575) 44 (nI fd)) 49 (nI md)) 73 (nI sc)) 74 (nI k9)) 77 dn576) 78 dn576) 79 dn576) (updA (updA (updA (updA (updA B 14 nc) 17 ty579) 18 mn580) 48 vn) 49 vt)) := mW_D hD
                exact W.iret (v := 1) hx hb hr (fun t9 ht9 hW9 => ⟨⟨_, (1, fa574, pl575, dn576, dn576, dn576, ty579, mn580), rfl, ⟨rfl, hz598, hz599, hz600, hz601, hz602, hz603, hz604⟩, by rw [ht9]; exact hP, hD⟩, hS.F ht9⟩) hS.2.2 dX12_two_200
              · refine lv_iconst (v := 2) hx hb dX12_two_192 (by decide) ?_
                refine lv_goto (tgt := 197) hx hb dX12_two_193 (by decide) ?_
                have hP : va_P G.1 pCl (mW G h0 a (upd (upd (upd (upd (upd (upd (upd (upd (upd (upd F 15 (nI fa574)) 16 pl575) 44 (nI fd)) 49 (nI md)) 73 (nI sc)) 74 (nI k9)) 77 dn576) 78 wt577) 79 wf578) 77 dn576) (updA (updA (updA (updA (updA B 14 nc) 17 ty579) 18 mn580) 48 vn) 49 vt)) _ := hP
                have hD : va_D A (mW G h0 a (upd (upd (upd (upd (upd (upd (upd (upd (upd (upd F 15 (nI fa574)) 16 pl575) 44 (nI fd)) 49 (nI md)) 73 (nI sc)) 74 (nI k9)) 77 dn576) 78 wt577) 79 wf578) 77 dn576) (updA (updA (updA (updA (updA B 14 nc) 17 ty579) 18 mn580) 48 vn) 49 vt)) := mW_D hD
                refine pc_V0 (G := G) (As := [.int 2]) (rest := []) hx hb hml hown hq hE hX pX0_al hP hD hS hA hl.1 (R_behind l G h0 a (upd (upd (upd (upd (upd (upd (upd (upd (upd F 15 (nI fa574)) 16 pl575) 44 (nI fd)) 49 (nI md)) 73 (nI sc)) 74 (nI k9)) 77 dn576) 78 wt577) 79 wf578) (updA (updA (updA (updA (updA B 14 nc) 17 ty579) 18 mn580) 48 vn) 49 vt) 2 dn576) (gV pw_1832 pw_1833 pw_1834 pw_1523 pw_1804) hV_X12_behind 0 9 rfl rfl rfl rfl (Nat.le_of_ble_eq_true rfl) dX12_two_197 ⟨Nat.le_of_ble_eq_true rfl, Nat.le_of_ble_eq_true rfl⟩ ⟨(by show 2 + 1 ≤ (4 * z9 + 9); omega), (by show 8 + (2 + 11) + 60 ≤ (160 * z9 + 1360); omega)⟩ (fun v607 u605 H locs hw606 hP hD hS => ?_)
                obtain rfl : v607 = some (.int 2) := hw606
                have hP : va_P G.1 pCl (mW G h0 a (upd (upd (upd (upd (upd (upd (upd (upd (upd F 15 (nI fa574)) 16 pl575) 44 (nI fd)) 49 (nI md)) 73 (nI sc)) 74 (nI k9)) 77 dn576) 78 dn576) 79 dn576) (updA (updA (updA (updA (updA B 14 nc) 17 ty579) 18 mn580) 48 vn) 49 vt)) _ := mW_to (F := F) (l1 := [(15, (nI fa574)), (16, pl575), (44, (nI fd)), (49, (nI md)), (73, (nI sc)), (74, (nI k9)), (77, dn576), (78, wt577), (79, wf578), (77, dn576), (78, dn576), (79, dn576)]) (l2 := [(15, (nI fa574)), (16, pl575), (44, (nI fd)), (49, (nI md)), (73, (nI sc)), (74, (nI k9)), (77, dn576), (78, dn576), (79, dn576)]) (V := [(nI fa574), pl575, (nI fd), (nI md), (nI sc), (nI k9), dn576, dn576, dn576, dn576, dn576, dn576, (nI fa574), pl575, (nI fd), (nI md), (nI sc), (nI k9), dn576, dn576, dn576]) rfl rfl rfl hP
                have hD : va_D A (mW G h0 a (upd (upd (upd (upd (upd (upd (upd (upd (upd F 15 (nI fa574)) 16 pl575) 44 (nI fd)) 49 (nI md)) 73 (nI sc)) 74 (nI k9)) 77 dn576) 78 dn576) 79 dn576) (updA (updA (updA (updA (updA B 14 nc) 17 ty579) 18 mn580) 48 vn) 49 vt)) := mW_D hD
                refine W.widen (k := 0) (n := 0) (Nat.le_of_ble_eq_true rfl) (Nat.le_of_ble_eq_true rfl) ?_
                refine W.eq (g2 := F0 m 200 ls [.int 2]) rfl ?_
                have hz608 : fa ≤ fa574 := (by omega)
                have hz609 : fa574 ≤ 15 := (by omega)
                have hz610 : TyC dc 2 := (by unfold TyC; omega)
                have hz611 : 2 ≤ 2050 := (by omega)
                have hz612 : ChE B nd n9 ty ty579 mn mn580 := hch586
                have hz613 : mnN B nd mn580 := h584
                have hz614 : If (fa574 = 0) (Typ0 B dc fd md nd ty579 mn580 vt sc k9 n9 (nI 2)) := (fun e => Typ0.of (kids (kk := 18) (c1 := c6) (c2 := c561) (c3 := c6) hkd (by decide) ⟨by omega, by omega, by omega⟩ (Or.inr ⟨by decide, e7⟩) (Or.inr ⟨by decide, e562⟩) (Or.inl (by decide)) (by decide) (hy587 (by omega)) ((fun e => (h585 e).1) (by omega)) (hy587 (by omega))) (LT18 hkd hh12 hh567 ht588 (by omega) (h585 (by omega)).2 (by omega) (Or.inr rfl)))
                have hP : va_P G.1 pCl (mW G h0 a (upd (upd (upd (upd (upd (upd (upd (upd (upd F 15 (nI fa574)) 16 pl575) 44 (nI fd)) 49 (nI md)) 73 (nI sc)) 74 (nI k9)) 77 dn576) 78 dn576) 79 dn576) (updA (updA (updA (updA (updA B 14 nc) 17 ty579) 18 mn580) 48 vn) 49 vt)) _ := hP
                have hD : va_D A (mW G h0 a (upd (upd (upd (upd (upd (upd (upd (upd (upd F 15 (nI fa574)) 16 pl575) 44 (nI fd)) 49 (nI md)) 73 (nI sc)) 74 (nI k9)) 77 dn576) 78 dn576) 79 dn576) (updA (updA (updA (updA (updA B 14 nc) 17 ty579) 18 mn580) 48 vn) 49 vt)) := mW_D hD
                exact W.iret (v := 2) hx hb hr (fun t9 ht9 hW9 => ⟨⟨_, (2, fa574, pl575, dn576, dn576, dn576, ty579, mn580), rfl, ⟨rfl, hz608, hz609, hz610, hz611, hz612, hz613, hz614⟩, by rw [ht9]; exact hP, hD⟩, hS.F ht9⟩) hS.2.2 dX12_two_200
          · refine lv_aload_n hx hb dX12_two_93 rfl (lv_at hl 2 rfl) ?_
            refine lv_iload_n hx hb dX12_two_94 rfl (lv_at hl 0 rfl) ?_
            refine lv_iconst (v := 1) hx hb dX12_two_95 (by decide) ?_
            refine lv_icmp_eq (tgt := 104) hx hb dX12_two_96 (by decide) (fun c615 => ?_) (fun c615 => ?_)
            · have n616 : r19 = 1 := (nI_eq (a := r19) (b := 1) (by omega) (by omega)).mp c615
              refine lv_iconst (v := 1) hx hb dX12_two_104 (by decide) ?_
              refine lv_goto (tgt := 109) hx hb dX12_two_105 (by decide) ?_
              refine lv_bipush (v := 11) hx hb dX12_two_109 (by decide) ?_
              refine lv_aload_n hx hb dX12_two_111 rfl (lv_at hl 2 rfl) ?_
              refine r_get (v := .ref (a 10)) hx hb hown hq hE hP 18 41 tFX12_18 (by decide) pw_1440 rfl dX12_two_112 ?_
              refine lv_aload_n hx hb dX12_two_115 rfl (lv_at hl 2 rfl) ?_
              refine r_get (v := .ref (a 12)) hx hb hown hq hE hP 20 47 tFX12_20 (by decide) pw_1442 rfl dX12_two_116 ?_
              refine lv_iload_n hx hb dX12_two_119 rfl (lv_at hl 3 rfl) ?_
              refine r_ldi (f := (B 12)) (j := n9) hx hb hE hP 12 (ma_12 G a _) rfl (by omega) (by decide) dX12_two_120 ?_
              refine lv_topi (fun x617 e618 => ?_)
              obtain rfl : x617 = nI c6 := e618.trans e7
              refine r_ldi (f := (B 10)) (j := c6) hx hb hE hP 10 (ma_10 G a _) rfl (by omega) (by decide) dX12_two_121 ?_
              obtain ⟨⟨t619, e620, h621⟩, -⟩ := hF c6 h8
              refine lv_topi (fun x622 e623 => ?_)
              obtain rfl : x622 = nI t619 := e623.trans e620
              have hP : va_P G.1 pCl (mW G h0 a (upd (upd (upd (upd (upd (upd (upd (upd (upd (upd F 15 (nI fa20)) 16 pl21) 44 (nI fd)) 49 (nI md)) 73 (nI sc)) 74 (nI k9)) 77 dn22) 78 wt23) 79 wf24) 15 (nI fa20)) (updA (updA (updA (updA (updA B 14 nc) 17 ty25) 18 mn26) 48 vn) 49 vt)) _ := mW_to (F := F) (l1 := [(15, (nI fa20)), (16, pl21), (44, (nI fd)), (49, (nI md)), (73, (nI sc)), (74, (nI k9)), (77, dn22), (78, wt23), (79, wf24)]) (l2 := [(15, (nI fa20)), (16, pl21), (44, (nI fd)), (49, (nI md)), (73, (nI sc)), (74, (nI k9)), (77, dn22), (78, wt23), (79, wf24), (15, (nI fa20))]) (V := [(nI fa20), pl21, (nI fd), (nI md), (nI sc), (nI k9), dn22, wt23, wf24, (nI fa20), pl21, (nI fd), (nI md), (nI sc), (nI k9), dn22, wt23, wf24, (nI fa20)]) rfl rfl rfl hP
              have hD : va_D A (mW G h0 a (upd (upd (upd (upd (upd (upd (upd (upd (upd (upd F 15 (nI fa20)) 16 pl21) 44 (nI fd)) 49 (nI md)) 73 (nI sc)) 74 (nI k9)) 77 dn22) 78 wt23) 79 wf24) 15 (nI fa20)) (updA (updA (updA (updA (updA B 14 nc) 17 ty25) 18 mn26) 48 vn) 49 vt)) := mW_D hD
              refine pc_V0 (G := G) (As := [.int (nI 1), .int (nI 11), .int (nI t619)]) (rest := []) hx hb hml hown hq hE hX pX0_al hP hD hS hA hl.1 (R_judgeL l G h0 a (upd (upd (upd (upd (upd (upd (upd (upd (upd F 15 (nI fa20)) 16 pl21) 44 (nI fd)) 49 (nI md)) 73 (nI sc)) 74 (nI k9)) 77 dn22) 78 wt23) 79 wf24) (updA (updA (updA (updA (updA B 14 nc) 17 ty25) 18 mn26) 48 vn) 49 vt) 1 11 t619 fa20 (by omega) (by omega) (by omega) (by omega)) (gV pw_1798 pw_1799 pw_1800 pw_1523 pw_1793) hV_X12_judge 0 9 rfl rfl rfl rfl (Nat.le_of_ble_eq_true rfl) dX12_two_122 ⟨Nat.le_of_ble_eq_true rfl, Nat.le_of_ble_eq_true rfl⟩ ⟨(by show 3 + 1 ≤ (4 * z9 + 9); omega), (by show 8 + (4 + 11) + 82 ≤ (160 * z9 + 1360); omega)⟩ (fun v626 u624 H locs hw625 hP hD hS => ?_)
              obtain ⟨r627, fa628, pl629⟩ := u624
              obtain ⟨hw625, h630, h631, h632, h633, h634, h635, h636⟩ := hw625
              replace h630 : r627 ≤ 1 := h630
              replace h631 : fa20 ≤ fa628 := h631
              replace h632 : fa628 ≤ 15 := h632
              replace h633 : fa628 + 15 * r627 ≤ 15 := h633
              replace h634 : 1 ≤ r627 + fa628 := h634
              replace h635 : 1 ≤ 1 + fa628 := h635
              replace h636 : fa628 ≤ fa20 + 15 * (1 - 1) := h636
              obtain rfl : v626 = some (.int (nI r627)) := hw625
              have hP : va_P G.1 pCl (mW G h0 a (upd (upd (upd (upd (upd (upd (upd (upd (upd F 15 (nI fa628)) 16 pl629) 44 (nI fd)) 49 (nI md)) 73 (nI sc)) 74 (nI k9)) 77 dn22) 78 wt23) 79 wf24) (updA (updA (updA (updA (updA B 14 nc) 17 ty25) 18 mn26) 48 vn) 49 vt)) _ := mW_to (F := F) (l1 := [(15, (nI fa20)), (16, pl21), (44, (nI fd)), (49, (nI md)), (73, (nI sc)), (74, (nI k9)), (77, dn22), (78, wt23), (79, wf24), (15, (nI fa628)), (16, pl629)]) (l2 := [(15, (nI fa628)), (16, pl629), (44, (nI fd)), (49, (nI md)), (73, (nI sc)), (74, (nI k9)), (77, dn22), (78, wt23), (79, wf24)]) (V := [(nI fa628), pl629, (nI fd), (nI md), (nI sc), (nI k9), dn22, wt23, wf24, (nI fa628), pl629, (nI fa628), pl629, (nI fd), (nI md), (nI sc), (nI k9), dn22, wt23, wf24]) rfl rfl rfl hP
              have hD : va_D A (mW G h0 a (upd (upd (upd (upd (upd (upd (upd (upd (upd F 15 (nI fa628)) 16 pl629) 44 (nI fd)) 49 (nI md)) 73 (nI sc)) 74 (nI k9)) 77 dn22) 78 wt23) 79 wf24) (updA (updA (updA (updA (updA B 14 nc) 17 ty25) 18 mn26) 48 vn) 49 vt)) := mW_D hD
              refine W.widen (k := 0) (n := 0) (Nat.le_of_ble_eq_true rfl) (Nat.le_of_ble_eq_true rfl) ?_
              refine W.eq (g2 := F0 m 125 ls [.int (nI r627)]) rfl ?_
              refine lv_pop hx hb dX12_two_125 rfl ?_
              refine lv_aload_n hx hb dX12_two_126 rfl (lv_at hl 2 rfl) ?_
              refine lv_aload_n hx hb dX12_two_127 rfl (lv_at hl 2 rfl) ?_
              refine r_get (v := .ref (a 13)) hx hb hown hq hE hP 21 50 tFX12_21 (by decide) pw_1443 rfl dX12_two_128 ?_
              refine lv_iload_n hx hb dX12_two_131 rfl (lv_at hl 3 rfl) ?_
              refine r_ldi (f := (B 13)) (j := n9) hx hb hE hP 13 (ma_13 G a _) rfl (by omega) (by decide) dX12_two_132 ?_
              obtain ⟨c637, e638, h639, hp640, h641, hc642, hh643, hg644⟩ := Fs2.kid (kk := 18) (s := 2) hF hn9 hkd (by decide) (by decide) (by decide) (by decide) (by omega)
              refine lv_topi (fun x645 e646 => ?_)
              obtain rfl : x645 = nI c637 := e646.trans e638
              refine lv_iload_n hx hb dX12_two_133 rfl (lv_at hl 0 rfl) ?_
              have hP : va_P G.1 pCl (mW G h0 a (upd (upd (upd (upd (upd (upd (upd (upd (upd (upd (upd (upd (upd (upd (upd (upd (upd F 15 (nI fa628)) 16 pl629) 44 (nI fd)) 49 (nI md)) 73 (nI sc)) 74 (nI k9)) 77 dn22) 78 wt23) 79 wf24) 15 (nI fa628)) 44 (nI fd)) 49 (nI md)) 73 (nI sc)) 74 (nI k9)) 77 dn22) 78 wt23) 79 wf24) (updA (updA (updA (updA (updA B 14 nc) 17 ty25) 18 mn26) 48 vn) 49 vt)) _ := mW_to (F := F) (l1 := [(15, (nI fa628)), (16, pl629), (44, (nI fd)), (49, (nI md)), (73, (nI sc)), (74, (nI k9)), (77, dn22), (78, wt23), (79, wf24)]) (l2 := [(15, (nI fa628)), (16, pl629), (44, (nI fd)), (49, (nI md)), (73, (nI sc)), (74, (nI k9)), (77, dn22), (78, wt23), (79, wf24), (15, (nI fa628)), (44, (nI fd)), (49, (nI md)), (73, (nI sc)), (74, (nI k9)), (77, dn22), (78, wt23), (79, wf24)]) (V := [(nI fa628), pl629, (nI fd), (nI md), (nI sc), (nI k9), dn22, wt23, wf24, (nI fa628), pl629, (nI fd), (nI md), (nI sc), (nI k9), dn22, wt23, wf24, (nI fa628), (nI fd), (nI md), (nI sc), (nI k9), dn22, wt23, wf24]) rfl rfl rfl hP
              have hD : va_D A (mW G h0 a (upd (upd (upd (upd (upd (upd (upd (upd (upd (upd (upd (upd (upd (upd (upd (upd (upd F 15 (nI fa628)) 16 pl629) 44 (nI fd)) 49 (nI md)) 73 (nI sc)) 74 (nI k9)) 77 dn22) 78 wt23) 79 wf24) 15 (nI fa628)) 44 (nI fd)) 49 (nI md)) 73 (nI sc)) 74 (nI k9)) 77 dn22) 78 wt23) 79 wf24) (updA (updA (updA (updA (updA B 14 nc) 17 ty25) 18 mn26) 48 vn) 49 vt)) := mW_D hD
              refine pc_V0 (G := G) (As := [.int (nI c637), .int (nI r19)]) (rest := []) hx hb hml hown hq hE hX pX0_al hP hD hS hA hl.1 (ihW h0 a (upd (upd (upd (upd (upd (upd (upd (upd (upd F 15 (nI fa628)) 16 pl629) 44 (nI fd)) 49 (nI md)) 73 (nI sc)) 74 (nI k9)) 77 dn22) 78 wt23) 79 wf24) B c637 fa628 sc k9 nd T nm wr lz dc fd md pr bk gh dn22 wt23 wf24 nc ty25 mn26 vn vt r19 hst hnm h639 (by omega) (by omega) (by omega) hk9 hnc h32 hvt (show kcl 1 _ = true from hc642) (by omega)) (gV pw_1826 pw_1827 pw_1828 pw_1523 pw_1865) hV_X12_wants 0 9 rfl rfl rfl rfl (Nat.le_of_ble_eq_true rfl) dX12_two_134 ⟨Nat.le_of_ble_eq_true rfl, Nat.le_of_ble_eq_true rfl⟩ ⟨(by show (4 * (z9 - 1) + 12) + 1 ≤ (4 * z9 + 9); omega), (by show 8 + (4 + 11) + (160 * (z9 - 1) + 1480) ≤ (160 * z9 + 1360); omega)⟩ (fun v649 u647 H locs hw648 hP hD hS => ?_)
              obtain ⟨fa650, pl651, dn652, wt653, wf654, ty655, mn656⟩ := u647
              obtain ⟨hw648, h657, h658, h659, h660, h661⟩ := hw648
              replace h657 : fa628 ≤ fa650 := h657
              replace h658 : fa650 ≤ 15 := h658
              replace h659 : ChE B nd c637 ty25 ty655 mn26 mn656 := h659
              replace h660 : mnN B nd mn656 := h660
              replace h661 : If (fa650 = 0) (Typ B dc fd md nd ty655 mn656 vt sc k9 c637 ∧ ty655 c637 = nI r19) := h661
              obtain rfl : v649 = none := hw648
              have hP : va_P G.1 pCl (mW G h0 a (upd (upd (upd (upd (upd (upd (upd (upd (upd F 15 (nI fa650)) 16 pl651) 44 (nI fd)) 49 (nI md)) 73 (nI sc)) 74 (nI k9)) 77 dn652) 78 wt653) 79 wf654) (updA (updA (updA (updA (updA B 14 nc) 17 ty655) 18 mn656) 48 vn) 49 vt)) _ := mW_to (F := F) (l1 := [(15, (nI fa628)), (16, pl629), (44, (nI fd)), (49, (nI md)), (73, (nI sc)), (74, (nI k9)), (77, dn22), (78, wt23), (79, wf24), (15, (nI fa650)), (16, pl651), (44, (nI fd)), (49, (nI md)), (73, (nI sc)), (74, (nI k9)), (77, dn652), (78, wt653), (79, wf654)]) (l2 := [(15, (nI fa650)), (16, pl651), (44, (nI fd)), (49, (nI md)), (73, (nI sc)), (74, (nI k9)), (77, dn652), (78, wt653), (79, wf654)]) (V := [(nI fa650), pl651, (nI fd), (nI md), (nI sc), (nI k9), dn652, wt653, wf654, (nI fa650), pl651, (nI fd), (nI md), (nI sc), (nI k9), dn652, wt653, wf654, (nI fa650), pl651, (nI fd), (nI md), (nI sc), (nI k9), dn652, wt653, wf654]) rfl rfl rfl hP
              have hD : va_D A (mW G h0 a (upd (upd (upd (upd (upd (upd (upd (upd (upd F 15 (nI fa650)) 16 pl651) 44 (nI fd)) 49 (nI md)) 73 (nI sc)) 74 (nI k9)) 77 dn652) 78 wt653) 79 wf654) (updA (updA (updA (updA (updA B 14 nc) 17 ty655) 18 mn656) 48 vn) 49 vt)) := mW_D hD
              refine W.widen (k := 0) (n := 0) (Nat.le_of_ble_eq_true rfl) (Nat.le_of_ble_eq_true rfl) ?_
              refine W.eq (g2 := F0 m 137 ls []) rfl ?_
              have hch662 : ChE B nd n9 ty ty655 mn mn656 := (ChE.trans hch35 (ChE.kid h659 (by omega) hp640))
              have hy663 : If (fa20 = 0) (Typ B dc fd md nd ty655 mn656 vt sc k9 c6) := (fun e => Typ.beside hF (by omega) hn9 (h33 e) h8 h639 hp9 hp640 (fun e => by have z := hg13; rw [e] at z; have := hg644; omega) h659)
              have ht664 : ty655 c6 = nI r19 := ((ChE.at hF (by omega) hn9 h8 h639 hp9 hp640 (fun e => by have z := hg13; rw [e] at z; have := hg644; omega) h659).trans h34)
              refine lv_aload_n hx hb dX12_two_137 rfl (lv_at hl 2 rfl) ?_
              refine lv_iload_n hx hb dX12_two_138 rfl (lv_at hl 0 rfl) ?_
              have hP : va_P G.1 pCl (mW G h0 a (upd (upd (upd (upd (upd (upd (upd (upd (upd (upd F 15 (nI fa650)) 16 pl651) 44 (nI fd)) 49 (nI md)) 73 (nI sc)) 74 (nI k9)) 77 dn652) 78 wt653) 79 wf654) 77 dn652) (updA (updA (updA (updA (updA B 14 nc) 17 ty655) 18 mn656) 48 vn) 49 vt)) _ := mW_to (F := F) (l1 := [(15, (nI fa650)), (16, pl651), (44, (nI fd)), (49, (nI md)), (73, (nI sc)), (74, (nI k9)), (77, dn652), (78, wt653), (79, wf654)]) (l2 := [(15, (nI fa650)), (16, pl651), (44, (nI fd)), (49, (nI md)), (73, (nI sc)), (74, (nI k9)), (77, dn652), (78, wt653), (79, wf654), (77, dn652)]) (V := [(nI fa650), pl651, (nI fd), (nI md), (nI sc), (nI k9), dn652, wt653, wf654, (nI fa650), pl651, (nI fd), (nI md), (nI sc), (nI k9), dn652, wt653, wf654, dn652]) rfl rfl rfl hP
              have hD : va_D A (mW G h0 a (upd (upd (upd (upd (upd (upd (upd (upd (upd (upd F 15 (nI fa650)) 16 pl651) 44 (nI fd)) 49 (nI md)) 73 (nI sc)) 74 (nI k9)) 77 dn652) 78 wt653) 79 wf654) 77 dn652) (updA (updA (updA (updA (updA B 14 nc) 17 ty655) 18 mn656) 48 vn) 49 vt)) := mW_D hD
              refine pc_V0 (G := G) (As := [.int (nI r19)]) (rest := []) hx hb hml hown hq hE hX pX0_al hP hD hS hA hl.1 (R_behind l G h0 a (upd (upd (upd (upd (upd (upd (upd (upd (upd F 15 (nI fa650)) 16 pl651) 44 (nI fd)) 49 (nI md)) 73 (nI sc)) 74 (nI k9)) 77 dn652) 78 wt653) 79 wf654) (updA (updA (updA (updA (updA B 14 nc) 17 ty655) 18 mn656) 48 vn) 49 vt) (nI r19) dn652) (gV pw_1832 pw_1833 pw_1834 pw_1523 pw_1804) hV_X12_behind 0 9 rfl rfl rfl rfl (Nat.le_of_ble_eq_true rfl) dX12_two_139 ⟨Nat.le_of_ble_eq_true rfl, Nat.le_of_ble_eq_true rfl⟩ ⟨(by show 2 + 1 ≤ (4 * z9 + 9); omega), (by show 8 + (2 + 11) + 60 ≤ (160 * z9 + 1360); omega)⟩ (fun v667 u665 H locs hw666 hP hD hS => ?_)
              obtain rfl : v667 = some (.int (nI r19)) := hw666
              have hP : va_P G.1 pCl (mW G h0 a (upd (upd (upd (upd (upd (upd (upd (upd (upd F 15 (nI fa650)) 16 pl651) 44 (nI fd)) 49 (nI md)) 73 (nI sc)) 74 (nI k9)) 77 dn652) 78 dn652) 79 dn652) (updA (updA (updA (updA (updA B 14 nc) 17 ty655) 18 mn656) 48 vn) 49 vt)) _ := mW_to (F := F) (l1 := [(15, (nI fa650)), (16, pl651), (44, (nI fd)), (49, (nI md)), (73, (nI sc)), (74, (nI k9)), (77, dn652), (78, wt653), (79, wf654), (77, dn652), (78, dn652), (79, dn652)]) (l2 := [(15, (nI fa650)), (16, pl651), (44, (nI fd)), (49, (nI md)), (73, (nI sc)), (74, (nI k9)), (77, dn652), (78, dn652), (79, dn652)]) (V := [(nI fa650), pl651, (nI fd), (nI md), (nI sc), (nI k9), dn652, dn652, dn652, dn652, dn652, dn652, (nI fa650), pl651, (nI fd), (nI md), (nI sc), (nI k9), dn652, dn652, dn652]) rfl rfl rfl hP
              have hD : va_D A (mW G h0 a (upd (upd (upd (upd (upd (upd (upd (upd (upd F 15 (nI fa650)) 16 pl651) 44 (nI fd)) 49 (nI md)) 73 (nI sc)) 74 (nI k9)) 77 dn652) 78 dn652) 79 dn652) (updA (updA (updA (updA (updA B 14 nc) 17 ty655) 18 mn656) 48 vn) 49 vt)) := mW_D hD
              refine W.widen (k := 0) (n := 0) (Nat.le_of_ble_eq_true rfl) (Nat.le_of_ble_eq_true rfl) ?_
              refine W.eq (g2 := F0 m 142 ls [.int (nI r19)]) rfl ?_
              have hz668 : fa ≤ fa650 := (by omega)
              have hz669 : fa650 ≤ 15 := (by omega)
              have hz670 : TyC dc r19 := h29
              have hz671 : r19 ≤ 2050 := (by omega)
              have hz672 : ChE B nd n9 ty ty655 mn mn656 := hch662
              have hz673 : mnN B nd mn656 := h660
              have hz674 : If (fa650 = 0) (Typ0 B dc fd md nd ty655 mn656 vt sc k9 n9 (nI r19)) := (fun e => Typ0.of (kids (kk := 18) (c1 := c6) (c2 := c637) (c3 := c6) hkd (by decide) ⟨by omega, by omega, by omega⟩ (Or.inr ⟨by decide, e7⟩) (Or.inr ⟨by decide, e638⟩) (Or.inl (by decide)) (by decide) (hy663 (by omega)) ((fun e => (h661 e).1) (by omega)) (hy663 (by omega))) (LT18 hkd hh12 hh643 ht664 (by omega) (h661 (by omega)).2 (by omega) (by first | exact Or.inl (by rw [show r19 = 1 by omega]; rfl) | exact Or.inr (by rw [show r19 = 2 by omega]; rfl))))
              have hP : va_P G.1 pCl (mW G h0 a (upd (upd (upd (upd (upd (upd (upd (upd (upd F 15 (nI fa650)) 16 pl651) 44 (nI fd)) 49 (nI md)) 73 (nI sc)) 74 (nI k9)) 77 dn652) 78 dn652) 79 dn652) (updA (updA (updA (updA (updA B 14 nc) 17 ty655) 18 mn656) 48 vn) 49 vt)) _ := hP
              have hD : va_D A (mW G h0 a (upd (upd (upd (upd (upd (upd (upd (upd (upd F 15 (nI fa650)) 16 pl651) 44 (nI fd)) 49 (nI md)) 73 (nI sc)) 74 (nI k9)) 77 dn652) 78 dn652) 79 dn652) (updA (updA (updA (updA (updA B 14 nc) 17 ty655) 18 mn656) 48 vn) 49 vt)) := mW_D hD
              exact W.iret (v := (nI r19)) hx hb hr (fun t9 ht9 hW9 => ⟨⟨_, (r19, fa650, pl651, dn652, dn652, dn652, ty655, mn656), rfl, ⟨rfl, hz668, hz669, hz670, hz671, hz672, hz673, hz674⟩, by rw [ht9]; exact hP, hD⟩, hS.F ht9⟩) hS.2.2 dX12_two_142
            · have n675 : ¬ (r19 = 1) := fun h9 => c615 ((nI_eq (a := r19) (b := 1) (by omega) (by omega)).mpr h9)
              refine lv_iload_n hx hb dX12_two_99 rfl (lv_at hl 0 rfl) ?_
              refine lv_iconst (v := 2) hx hb dX12_two_100 (by decide) ?_
              refine lv_icmp_ne (tgt := 108) hx hb dX12_two_101 (by decide) (fun c676 => ?_) (fun c676 => ?_)
              · have n677 : ¬ (r19 = 2) := fun h9 => c676 ((nI_eq (a := r19) (b := 2) (by omega) (by omega)).mpr h9)
                refine lv_iconst (v := 0) hx hb dX12_two_108 (by decide) ?_
                refine lv_bipush (v := 11) hx hb dX12_two_109 (by decide) ?_
                refine lv_aload_n hx hb dX12_two_111 rfl (lv_at hl 2 rfl) ?_
                refine r_get (v := .ref (a 10)) hx hb hown hq hE hP 18 41 tFX12_18 (by decide) pw_1440 rfl dX12_two_112 ?_
                refine lv_aload_n hx hb dX12_two_115 rfl (lv_at hl 2 rfl) ?_
                refine r_get (v := .ref (a 12)) hx hb hown hq hE hP 20 47 tFX12_20 (by decide) pw_1442 rfl dX12_two_116 ?_
                refine lv_iload_n hx hb dX12_two_119 rfl (lv_at hl 3 rfl) ?_
                refine r_ldi (f := (B 12)) (j := n9) hx hb hE hP 12 (ma_12 G a _) rfl (by omega) (by decide) dX12_two_120 ?_
                refine lv_topi (fun x678 e679 => ?_)
                obtain rfl : x678 = nI c6 := e679.trans e7
                refine r_ldi (f := (B 10)) (j := c6) hx hb hE hP 10 (ma_10 G a _) rfl (by omega) (by decide) dX12_two_121 ?_
                obtain ⟨⟨t680, e681, h682⟩, -⟩ := hF c6 h8
                refine lv_topi (fun x683 e684 => ?_)
                obtain rfl : x683 = nI t680 := e684.trans e681
                have hP : va_P G.1 pCl (mW G h0 a (upd (upd (upd (upd (upd (upd (upd (upd (upd (upd F 15 (nI fa20)) 16 pl21) 44 (nI fd)) 49 (nI md)) 73 (nI sc)) 74 (nI k9)) 77 dn22) 78 wt23) 79 wf24) 15 (nI fa20)) (updA (updA (updA (updA (updA B 14 nc) 17 ty25) 18 mn26) 48 vn) 49 vt)) _ := mW_to (F := F) (l1 := [(15, (nI fa20)), (16, pl21), (44, (nI fd)), (49, (nI md)), (73, (nI sc)), (74, (nI k9)), (77, dn22), (78, wt23), (79, wf24)]) (l2 := [(15, (nI fa20)), (16, pl21), (44, (nI fd)), (49, (nI md)), (73, (nI sc)), (74, (nI k9)), (77, dn22), (78, wt23), (79, wf24), (15, (nI fa20))]) (V := [(nI fa20), pl21, (nI fd), (nI md), (nI sc), (nI k9), dn22, wt23, wf24, (nI fa20), pl21, (nI fd), (nI md), (nI sc), (nI k9), dn22, wt23, wf24, (nI fa20)]) rfl rfl rfl hP
                have hD : va_D A (mW G h0 a (upd (upd (upd (upd (upd (upd (upd (upd (upd (upd F 15 (nI fa20)) 16 pl21) 44 (nI fd)) 49 (nI md)) 73 (nI sc)) 74 (nI k9)) 77 dn22) 78 wt23) 79 wf24) 15 (nI fa20)) (updA (updA (updA (updA (updA B 14 nc) 17 ty25) 18 mn26) 48 vn) 49 vt)) := mW_D hD
                refine pc_V0 (G := G) (As := [.int (nI 0), .int (nI 11), .int (nI t680)]) (rest := []) hx hb hml hown hq hE hX pX0_al hP hD hS hA hl.1 (R_judgeL l G h0 a (upd (upd (upd (upd (upd (upd (upd (upd (upd F 15 (nI fa20)) 16 pl21) 44 (nI fd)) 49 (nI md)) 73 (nI sc)) 74 (nI k9)) 77 dn22) 78 wt23) 79 wf24) (updA (updA (updA (updA (updA B 14 nc) 17 ty25) 18 mn26) 48 vn) 49 vt) 0 11 t680 fa20 (by omega) (by omega) (by omega) (by omega)) (gV pw_1798 pw_1799 pw_1800 pw_1523 pw_1793) hV_X12_judge 0 9 rfl rfl rfl rfl (Nat.le_of_ble_eq_true rfl) dX12_two_122 ⟨Nat.le_of_ble_eq_true rfl, Nat.le_of_ble_eq_true rfl⟩ ⟨(by show 3 + 1 ≤ (4 * z9 + 9); omega), (by show 8 + (4 + 11) + 82 ≤ (160 * z9 + 1360); omega)⟩ (fun v687 u685 H locs hw686 hP hD hS => ?_)
                obtain ⟨r688, fa689, pl690⟩ := u685
                obtain ⟨hw686, h691, h692, h693, h694, h695, h696, h697⟩ := hw686
                replace h691 : r688 ≤ 1 := h691
                replace h692 : fa20 ≤ fa689 := h692
                replace h693 : fa689 ≤ 15 := h693
                replace h694 : fa689 + 15 * r688 ≤ 15 := h694
                replace h695 : 1 ≤ r688 + fa689 := h695
                replace h696 : 1 ≤ 0 + fa689 := h696
                replace h697 : fa689 ≤ fa20 + 15 * (1 - 0) := h697
                obtain rfl : v687 = some (.int (nI r688)) := hw686
                have hP : va_P G.1 pCl (mW G h0 a (upd (upd (upd (upd (upd (upd (upd (upd (upd F 15 (nI fa689)) 16 pl690) 44 (nI fd)) 49 (nI md)) 73 (nI sc)) 74 (nI k9)) 77 dn22) 78 wt23) 79 wf24) (updA (updA (updA (updA (updA B 14 nc) 17 ty25) 18 mn26) 48 vn) 49 vt)) _ := mW_to (F := F) (l1 := [(15, (nI fa20)), (16, pl21), (44, (nI fd)), (49, (nI md)), (73, (nI sc)), (74, (nI k9)), (77, dn22), (78, wt23), (79, wf24), (15, (nI fa689)), (16, pl690)]) (l2 := [(15, (nI fa689)), (16, pl690), (44, (nI fd)), (49, (nI md)), (73, (nI sc)), (74, (nI k9)), (77, dn22), (78, wt23), (79, wf24)]) (V := [(nI fa689), pl690, (nI fd), (nI md), (nI sc), (nI k9), dn22, wt23, wf24, (nI fa689), pl690, (nI fa689), pl690, (nI fd), (nI md), (nI sc), (nI k9), dn22, wt23, wf24]) rfl rfl rfl hP
                have hD : va_D A (mW G h0 a (upd (upd (upd (upd (upd (upd (upd (upd (upd F 15 (nI fa689)) 16 pl690) 44 (nI fd)) 49 (nI md)) 73 (nI sc)) 74 (nI k9)) 77 dn22) 78 wt23) 79 wf24) (updA (updA (updA (updA (updA B 14 nc) 17 ty25) 18 mn26) 48 vn) 49 vt)) := mW_D hD
                refine W.widen (k := 0) (n := 0) (Nat.le_of_ble_eq_true rfl) (Nat.le_of_ble_eq_true rfl) ?_
                refine W.eq (g2 := F0 m 125 ls [.int (nI r688)]) rfl ?_
                refine lv_pop hx hb dX12_two_125 rfl ?_
                refine lv_aload_n hx hb dX12_two_126 rfl (lv_at hl 2 rfl) ?_
                refine lv_aload_n hx hb dX12_two_127 rfl (lv_at hl 2 rfl) ?_
                refine r_get (v := .ref (a 13)) hx hb hown hq hE hP 21 50 tFX12_21 (by decide) pw_1443 rfl dX12_two_128 ?_
                refine lv_iload_n hx hb dX12_two_131 rfl (lv_at hl 3 rfl) ?_
                refine r_ldi (f := (B 13)) (j := n9) hx hb hE hP 13 (ma_13 G a _) rfl (by omega) (by decide) dX12_two_132 ?_
                obtain ⟨c698, e699, h700, hp701, h702, hc703, hh704, hg705⟩ := Fs2.kid (kk := 18) (s := 2) hF hn9 hkd (by decide) (by decide) (by decide) (by decide) (by omega)
                refine lv_topi (fun x706 e707 => ?_)
                obtain rfl : x706 = nI c698 := e707.trans e699
                refine lv_iload_n hx hb dX12_two_133 rfl (lv_at hl 0 rfl) ?_
                have hP : va_P G.1 pCl (mW G h0 a (upd (upd (upd (upd (upd (upd (upd (upd (upd (upd (upd (upd (upd (upd (upd (upd (upd F 15 (nI fa689)) 16 pl690) 44 (nI fd)) 49 (nI md)) 73 (nI sc)) 74 (nI k9)) 77 dn22) 78 wt23) 79 wf24) 15 (nI fa689)) 44 (nI fd)) 49 (nI md)) 73 (nI sc)) 74 (nI k9)) 77 dn22) 78 wt23) 79 wf24) (updA (updA (updA (updA (updA B 14 nc) 17 ty25) 18 mn26) 48 vn) 49 vt)) _ := mW_to (F := F) (l1 := [(15, (nI fa689)), (16, pl690), (44, (nI fd)), (49, (nI md)), (73, (nI sc)), (74, (nI k9)), (77, dn22), (78, wt23), (79, wf24)]) (l2 := [(15, (nI fa689)), (16, pl690), (44, (nI fd)), (49, (nI md)), (73, (nI sc)), (74, (nI k9)), (77, dn22), (78, wt23), (79, wf24), (15, (nI fa689)), (44, (nI fd)), (49, (nI md)), (73, (nI sc)), (74, (nI k9)), (77, dn22), (78, wt23), (79, wf24)]) (V := [(nI fa689), pl690, (nI fd), (nI md), (nI sc), (nI k9), dn22, wt23, wf24, (nI fa689), pl690, (nI fd), (nI md), (nI sc), (nI k9), dn22, wt23, wf24, (nI fa689), (nI fd), (nI md), (nI sc), (nI k9), dn22, wt23, wf24]) rfl rfl rfl hP
                have hD : va_D A (mW G h0 a (upd (upd (upd (upd (upd (upd (upd (upd (upd (upd (upd (upd (upd (upd (upd (upd (upd F 15 (nI fa689)) 16 pl690) 44 (nI fd)) 49 (nI md)) 73 (nI sc)) 74 (nI k9)) 77 dn22) 78 wt23) 79 wf24) 15 (nI fa689)) 44 (nI fd)) 49 (nI md)) 73 (nI sc)) 74 (nI k9)) 77 dn22) 78 wt23) 79 wf24) (updA (updA (updA (updA (updA B 14 nc) 17 ty25) 18 mn26) 48 vn) 49 vt)) := mW_D hD
                refine pc_V0 (G := G) (As := [.int (nI c698), .int (nI r19)]) (rest := []) hx hb hml hown hq hE hX pX0_al hP hD hS hA hl.1 (ihW h0 a (upd (upd (upd (upd (upd (upd (upd (upd (upd F 15 (nI fa689)) 16 pl690) 44 (nI fd)) 49 (nI md)) 73 (nI sc)) 74 (nI k9)) 77 dn22) 78 wt23) 79 wf24) B c698 fa689 sc k9 nd T nm wr lz dc fd md pr bk gh dn22 wt23 wf24 nc ty25 mn26 vn vt r19 hst hnm h700 (by omega) (by omega) (by omega) hk9 hnc h32 hvt (show kcl 1 _ = true from hc703) (by omega)) (gV pw_1826 pw_1827 pw_1828 pw_1523 pw_1865) hV_X12_wants 0 9 rfl rfl rfl rfl (Nat.le_of_ble_eq_true rfl) dX12_two_134 ⟨Nat.le_of_ble_eq_true rfl, Nat.le_of_ble_eq_true rfl⟩ ⟨(by show (4 * (z9 - 1) + 12) + 1 ≤ (4 * z9 + 9); omega), (by show 8 + (4 + 11) + (160 * (z9 - 1) + 1480) ≤ (160 * z9 + 1360); omega)⟩ (fun v710 u708 H locs hw709 hP hD hS => ?_)
                obtain ⟨fa711, pl712, dn713, wt714, wf715, ty716, mn717⟩ := u708
                obtain ⟨hw709, h718, h719, h720, h721, h722⟩ := hw709
                replace h718 : fa689 ≤ fa711 := h718
                replace h719 : fa711 ≤ 15 := h719
                replace h720 : ChE B nd c698 ty25 ty716 mn26 mn717 := h720
                replace h721 : mnN B nd mn717 := h721
                replace h722 : If (fa711 = 0) (Typ B dc fd md nd ty716 mn717 vt sc k9 c698 ∧ ty716 c698 = nI r19) := h722
                obtain rfl : v710 = none := hw709
                have hP : va_P G.1 pCl (mW G h0 a (upd (upd (upd (upd (upd (upd (upd (upd (upd F 15 (nI fa711)) 16 pl712) 44 (nI fd)) 49 (nI md)) 73 (nI sc)) 74 (nI k9)) 77 dn713) 78 wt714) 79 wf715) (updA (updA (updA (updA (updA B 14 nc) 17 ty716) 18 mn717) 48 vn) 49 vt)) _ := mW_to (F := F) (l1 := [(15, (nI fa689)), (16, pl690), (44, (nI fd)), (49, (nI md)), (73, (nI sc)), (74, (nI k9)), (77, dn22), (78, wt23), (79, wf24), (15, (nI fa711)), (16, pl712), (44, (nI fd)), (49, (nI md)), (73, (nI sc)), (74, (nI k9)), (77, dn713), (78, wt714), (79, wf715)]) (l2 := [(15, (nI fa711)), (16, pl712), (44, (nI fd)), (49, (nI md)), (73, (nI sc)), (74, (nI k9)), (77, dn713), (78, wt714), (79, wf715)]) (V := [(nI fa711), pl712, (nI fd), (nI md), (nI sc), (nI k9), dn713, wt714, wf715, (nI fa711), pl712, (nI fd), (nI md), (nI sc), (nI k9), dn713, wt714, wf715, (nI fa711), pl712, (nI fd), (nI md), (nI sc), (nI k9), dn713, wt714, wf715]) rfl rfl rfl hP
                have hD : va_D A (mW G h0 a (upd (upd (upd (upd (upd (upd (upd (upd (upd F 15 (nI fa711)) 16 pl712) 44 (nI fd)) 49 (nI md)) 73 (nI sc)) 74 (nI k9)) 77 dn713) 78 wt714) 79 wf715) (updA (updA (updA (updA (updA B 14 nc) 17 ty716) 18 mn717) 48 vn) 49 vt)) := mW_D hD
                refine W.widen (k := 0) (n := 0) (Nat.le_of_ble_eq_true rfl) (Nat.le_of_ble_eq_true rfl) ?_
                refine W.eq (g2 := F0 m 137 ls []) rfl ?_
                have hch723 : ChE B nd n9 ty ty716 mn mn717 := (ChE.trans hch35 (ChE.kid h720 (by omega) hp701))
                have hy724 : If (fa20 = 0) (Typ B dc fd md nd ty716 mn717 vt sc k9 c6) := (fun e => Typ.beside hF (by omega) hn9 (h33 e) h8 h700 hp9 hp701 (fun e => by have z := hg13; rw [e] at z; have := hg705; omega) h720)
                have ht725 : ty716 c6 = nI r19 := ((ChE.at hF (by omega) hn9 h8 h700 hp9 hp701 (fun e => by have z := hg13; rw [e] at z; have := hg705; omega) h720).trans h34)
                refine lv_aload_n hx hb dX12_two_137 rfl (lv_at hl 2 rfl) ?_
                refine lv_iload_n hx hb dX12_two_138 rfl (lv_at hl 0 rfl) ?_
                have hP : va_P G.1 pCl (mW G h0 a (upd (upd (upd (upd (upd (upd (upd (upd (upd (upd F 15 (nI fa711)) 16 pl712) 44 (nI fd)) 49 (nI md)) 73 (nI sc)) 74 (nI k9)) 77 dn713) 78 wt714) 79 wf715) 77 dn713) (updA (updA (updA (updA (updA B 14 nc) 17 ty716) 18 mn717) 48 vn) 49 vt)) _ := mW_to (F := F) (l1 := [(15, (nI fa711)), (16, pl712), (44, (nI fd)), (49, (nI md)), (73, (nI sc)), (74, (nI k9)), (77, dn713), (78, wt714), (79, wf715)]) (l2 := [(15, (nI fa711)), (16, pl712), (44, (nI fd)), (49, (nI md)), (73, (nI sc)), (74, (nI k9)), (77, dn713), (78, wt714), (79, wf715), (77, dn713)]) (V := [(nI fa711), pl712, (nI fd), (nI md), (nI sc), (nI k9), dn713, wt714, wf715, (nI fa711), pl712, (nI fd), (nI md), (nI sc), (nI k9), dn713, wt714, wf715, dn713]) rfl rfl rfl hP
                have hD : va_D A (mW G h0 a (upd (upd (upd (upd (upd (upd (upd (upd (upd (upd F 15 (nI fa711)) 16 pl712) 44 (nI fd)) 49 (nI md)) 73 (nI sc)) 74 (nI k9)) 77 dn713) 78 wt714) 79 wf715) 77 dn713) (updA (updA (updA (updA (updA B 14 nc) 17 ty716) 18 mn717) 48 vn) 49 vt)) := mW_D hD
                refine pc_V0 (G := G) (As := [.int (nI r19)]) (rest := []) hx hb hml hown hq hE hX pX0_al hP hD hS hA hl.1 (R_behind l G h0 a (upd (upd (upd (upd (upd (upd (upd (upd (upd F 15 (nI fa711)) 16 pl712) 44 (nI fd)) 49 (nI md)) 73 (nI sc)) 74 (nI k9)) 77 dn713) 78 wt714) 79 wf715) (updA (updA (updA (updA (updA B 14 nc) 17 ty716) 18 mn717) 48 vn) 49 vt) (nI r19) dn713) (gV pw_1832 pw_1833 pw_1834 pw_1523 pw_1804) hV_X12_behind 0 9 rfl rfl rfl rfl (Nat.le_of_ble_eq_true rfl) dX12_two_139 ⟨Nat.le_of_ble_eq_true rfl, Nat.le_of_ble_eq_true rfl⟩ ⟨(by show 2 + 1 ≤ (4 * z9 + 9); omega), (by show 8 + (2 + 11) + 60 ≤ (160 * z9 + 1360); omega)⟩ (fun v728 u726 H locs hw727 hP hD hS => ?_)
                obtain rfl : v728 = some (.int (nI r19)) := hw727
                have hP : va_P G.1 pCl (mW G h0 a (upd (upd (upd (upd (upd (upd (upd (upd (upd F 15 (nI fa711)) 16 pl712) 44 (nI fd)) 49 (nI md)) 73 (nI sc)) 74 (nI k9)) 77 dn713) 78 dn713) 79 dn713) (updA (updA (updA (updA (updA B 14 nc) 17 ty716) 18 mn717) 48 vn) 49 vt)) _ := mW_to (F := F) (l1 := [(15, (nI fa711)), (16, pl712), (44, (nI fd)), (49, (nI md)), (73, (nI sc)), (74, (nI k9)), (77, dn713), (78, wt714), (79, wf715), (77, dn713), (78, dn713), (79, dn713)]) (l2 := [(15, (nI fa711)), (16, pl712), (44, (nI fd)), (49, (nI md)), (73, (nI sc)), (74, (nI k9)), (77, dn713), (78, dn713), (79, dn713)]) (V := [(nI fa711), pl712, (nI fd), (nI md), (nI sc), (nI k9), dn713, dn713, dn713, dn713, dn713, dn713, (nI fa711), pl712, (nI fd), (nI md), (nI sc), (nI k9), dn713, dn713, dn713]) rfl rfl rfl hP
                have hD : va_D A (mW G h0 a (upd (upd (upd (upd (upd (upd (upd (upd (upd F 15 (nI fa711)) 16 pl712) 44 (nI fd)) 49 (nI md)) 73 (nI sc)) 74 (nI k9)) 77 dn713) 78 dn713) 79 dn713) (updA (updA (updA (updA (updA B 14 nc) 17 ty716) 18 mn717) 48 vn) 49 vt)) := mW_D hD
                refine W.widen (k := 0) (n := 0) (Nat.le_of_ble_eq_true rfl) (Nat.le_of_ble_eq_true rfl) ?_
                refine W.eq (g2 := F0 m 142 ls [.int (nI r19)]) rfl ?_
                have hz729 : fa ≤ fa711 := (by omega)
                have hz730 : fa711 ≤ 15 := (by omega)
                have hz731 : TyC dc r19 := h29
                have hz732 : r19 ≤ 2050 := (by omega)
                have hz733 : ChE B nd n9 ty ty716 mn mn717 := hch723
                have hz734 : mnN B nd mn717 := h721
                have hz735 : If (fa711 = 0) (Typ0 B dc fd md nd ty716 mn717 vt sc k9 n9 (nI r19)) := (fun e => absurd e (by omega))
                have hP : va_P G.1 pCl (mW G h0 a (upd (upd (upd (upd (upd (upd (upd (upd (upd F 15 (nI fa711)) 16 pl712) 44 (nI fd)) 49 (nI md)) 73 (nI sc)) 74 (nI k9)) 77 dn713) 78 dn713) 79 dn713) (updA (updA (updA (updA (updA B 14 nc) 17 ty716) 18 mn717) 48 vn) 49 vt)) _ := hP
                have hD : va_D A (mW G h0 a (upd (upd (upd (upd (upd (upd (upd (upd (upd F 15 (nI fa711)) 16 pl712) 44 (nI fd)) 49 (nI md)) 73 (nI sc)) 74 (nI k9)) 77 dn713) 78 dn713) 79 dn713) (updA (updA (updA (updA (updA B 14 nc) 17 ty716) 18 mn717) 48 vn) 49 vt)) := mW_D hD
                exact W.iret (v := (nI r19)) hx hb hr (fun t9 ht9 hW9 => ⟨⟨_, (r19, fa711, pl712, dn713, dn713, dn713, ty716, mn717), rfl, ⟨rfl, hz729, hz730, hz731, hz732, hz733, hz734, hz735⟩, by rw [ht9]; exact hP, hD⟩, hS.F ht9⟩) hS.2.2 dX12_two_142
              · have n736 : r19 = 2 := (nI_eq (a := r19) (b := 2) (by omega) (by omega)).mp c676
                refine lv_iconst (v := 1) hx hb dX12_two_104 (by decide) ?_
                refine lv_goto (tgt := 109) hx hb dX12_two_105 (by decide) ?_
                refine lv_bipush (v := 11) hx hb dX12_two_109 (by decide) ?_
                refine lv_aload_n hx hb dX12_two_111 rfl (lv_at hl 2 rfl) ?_
                refine r_get (v := .ref (a 10)) hx hb hown hq hE hP 18 41 tFX12_18 (by decide) pw_1440 rfl dX12_two_112 ?_
                refine lv_aload_n hx hb dX12_two_115 rfl (lv_at hl 2 rfl) ?_
                refine r_get (v := .ref (a 12)) hx hb hown hq hE hP 20 47 tFX12_20 (by decide) pw_1442 rfl dX12_two_116 ?_
                refine lv_iload_n hx hb dX12_two_119 rfl (lv_at hl 3 rfl) ?_
                refine r_ldi (f := (B 12)) (j := n9) hx hb hE hP 12 (ma_12 G a _) rfl (by omega) (by decide) dX12_two_120 ?_
                refine lv_topi (fun x737 e738 => ?_)
                obtain rfl : x737 = nI c6 := e738.trans e7
                refine r_ldi (f := (B 10)) (j := c6) hx hb hE hP 10 (ma_10 G a _) rfl (by omega) (by decide) dX12_two_121 ?_
                obtain ⟨⟨t739, e740, h741⟩, -⟩ := hF c6 h8
                refine lv_topi (fun x742 e743 => ?_)
                obtain rfl : x742 = nI t739 := e743.trans e740
                have hP : va_P G.1 pCl (mW G h0 a (upd (upd (upd (upd (upd (upd (upd (upd (upd (upd F 15 (nI fa20)) 16 pl21) 44 (nI fd)) 49 (nI md)) 73 (nI sc)) 74 (nI k9)) 77 dn22) 78 wt23) 79 wf24) 15 (nI fa20)) (updA (updA (updA (updA (updA B 14 nc) 17 ty25) 18 mn26) 48 vn) 49 vt)) _ := mW_to (F := F) (l1 := [(15, (nI fa20)), (16, pl21), (44, (nI fd)), (49, (nI md)), (73, (nI sc)), (74, (nI k9)), (77, dn22), (78, wt23), (79, wf24)]) (l2 := [(15, (nI fa20)), (16, pl21), (44, (nI fd)), (49, (nI md)), (73, (nI sc)), (74, (nI k9)), (77, dn22), (78, wt23), (79, wf24), (15, (nI fa20))]) (V := [(nI fa20), pl21, (nI fd), (nI md), (nI sc), (nI k9), dn22, wt23, wf24, (nI fa20), pl21, (nI fd), (nI md), (nI sc), (nI k9), dn22, wt23, wf24, (nI fa20)]) rfl rfl rfl hP
                have hD : va_D A (mW G h0 a (upd (upd (upd (upd (upd (upd (upd (upd (upd (upd F 15 (nI fa20)) 16 pl21) 44 (nI fd)) 49 (nI md)) 73 (nI sc)) 74 (nI k9)) 77 dn22) 78 wt23) 79 wf24) 15 (nI fa20)) (updA (updA (updA (updA (updA B 14 nc) 17 ty25) 18 mn26) 48 vn) 49 vt)) := mW_D hD
                refine pc_V0 (G := G) (As := [.int (nI 1), .int (nI 11), .int (nI t739)]) (rest := []) hx hb hml hown hq hE hX pX0_al hP hD hS hA hl.1 (R_judgeL l G h0 a (upd (upd (upd (upd (upd (upd (upd (upd (upd F 15 (nI fa20)) 16 pl21) 44 (nI fd)) 49 (nI md)) 73 (nI sc)) 74 (nI k9)) 77 dn22) 78 wt23) 79 wf24) (updA (updA (updA (updA (updA B 14 nc) 17 ty25) 18 mn26) 48 vn) 49 vt) 1 11 t739 fa20 (by omega) (by omega) (by omega) (by omega)) (gV pw_1798 pw_1799 pw_1800 pw_1523 pw_1793) hV_X12_judge 0 9 rfl rfl rfl rfl (Nat.le_of_ble_eq_true rfl) dX12_two_122 ⟨Nat.le_of_ble_eq_true rfl, Nat.le_of_ble_eq_true rfl⟩ ⟨(by show 3 + 1 ≤ (4 * z9 + 9); omega), (by show 8 + (4 + 11) + 82 ≤ (160 * z9 + 1360); omega)⟩ (fun v746 u744 H locs hw745 hP hD hS => ?_)
                obtain ⟨r747, fa748, pl749⟩ := u744
                obtain ⟨hw745, h750, h751, h752, h753, h754, h755, h756⟩ := hw745
                replace h750 : r747 ≤ 1 := h750
                replace h751 : fa20 ≤ fa748 := h751
                replace h752 : fa748 ≤ 15 := h752
                replace h753 : fa748 + 15 * r747 ≤ 15 := h753
                replace h754 : 1 ≤ r747 + fa748 := h754
                replace h755 : 1 ≤ 1 + fa748 := h755
                replace h756 : fa748 ≤ fa20 + 15 * (1 - 1) := h756
                obtain rfl : v746 = some (.int (nI r747)) := hw745
                have hP : va_P G.1 pCl (mW G h0 a (upd (upd (upd (upd (upd (upd (upd (upd (upd F 15 (nI fa748)) 16 pl749) 44 (nI fd)) 49 (nI md)) 73 (nI sc)) 74 (nI k9)) 77 dn22) 78 wt23) 79 wf24) (updA (updA (updA (updA (updA B 14 nc) 17 ty25) 18 mn26) 48 vn) 49 vt)) _ := mW_to (F := F) (l1 := [(15, (nI fa20)), (16, pl21), (44, (nI fd)), (49, (nI md)), (73, (nI sc)), (74, (nI k9)), (77, dn22), (78, wt23), (79, wf24), (15, (nI fa748)), (16, pl749)]) (l2 := [(15, (nI fa748)), (16, pl749), (44, (nI fd)), (49, (nI md)), (73, (nI sc)), (74, (nI k9)), (77, dn22), (78, wt23), (79, wf24)]) (V := [(nI fa748), pl749, (nI fd), (nI md), (nI sc), (nI k9), dn22, wt23, wf24, (nI fa748), pl749, (nI fa748), pl749, (nI fd), (nI md), (nI sc), (nI k9), dn22, wt23, wf24]) rfl rfl rfl hP
                have hD : va_D A (mW G h0 a (upd (upd (upd (upd (upd (upd (upd (upd (upd F 15 (nI fa748)) 16 pl749) 44 (nI fd)) 49 (nI md)) 73 (nI sc)) 74 (nI k9)) 77 dn22) 78 wt23) 79 wf24) (updA (updA (updA (updA (updA B 14 nc) 17 ty25) 18 mn26) 48 vn) 49 vt)) := mW_D hD
                refine W.widen (k := 0) (n := 0) (Nat.le_of_ble_eq_true rfl) (Nat.le_of_ble_eq_true rfl) ?_
                refine W.eq (g2 := F0 m 125 ls [.int (nI r747)]) rfl ?_
                refine lv_pop hx hb dX12_two_125 rfl ?_
                refine lv_aload_n hx hb dX12_two_126 rfl (lv_at hl 2 rfl) ?_
                refine lv_aload_n hx hb dX12_two_127 rfl (lv_at hl 2 rfl) ?_
                refine r_get (v := .ref (a 13)) hx hb hown hq hE hP 21 50 tFX12_21 (by decide) pw_1443 rfl dX12_two_128 ?_
                refine lv_iload_n hx hb dX12_two_131 rfl (lv_at hl 3 rfl) ?_
                refine r_ldi (f := (B 13)) (j := n9) hx hb hE hP 13 (ma_13 G a _) rfl (by omega) (by decide) dX12_two_132 ?_
                obtain ⟨c757, e758, h759, hp760, h761, hc762, hh763, hg764⟩ := Fs2.kid (kk := 18) (s := 2) hF hn9 hkd (by decide) (by decide) (by decide) (by decide) (by omega)
                refine lv_topi (fun x765 e766 => ?_)
                obtain rfl : x765 = nI c757 := e766.trans e758
                refine lv_iload_n hx hb dX12_two_133 rfl (lv_at hl 0 rfl) ?_
                have hP : va_P G.1 pCl (mW G h0 a (upd (upd (upd (upd (upd (upd (upd (upd (upd (upd (upd (upd (upd (upd (upd (upd (upd F 15 (nI fa748)) 16 pl749) 44 (nI fd)) 49 (nI md)) 73 (nI sc)) 74 (nI k9)) 77 dn22) 78 wt23) 79 wf24) 15 (nI fa748)) 44 (nI fd)) 49 (nI md)) 73 (nI sc)) 74 (nI k9)) 77 dn22) 78 wt23) 79 wf24) (updA (updA (updA (updA (updA B 14 nc) 17 ty25) 18 mn26) 48 vn) 49 vt)) _ := mW_to (F := F) (l1 := [(15, (nI fa748)), (16, pl749), (44, (nI fd)), (49, (nI md)), (73, (nI sc)), (74, (nI k9)), (77, dn22), (78, wt23), (79, wf24)]) (l2 := [(15, (nI fa748)), (16, pl749), (44, (nI fd)), (49, (nI md)), (73, (nI sc)), (74, (nI k9)), (77, dn22), (78, wt23), (79, wf24), (15, (nI fa748)), (44, (nI fd)), (49, (nI md)), (73, (nI sc)), (74, (nI k9)), (77, dn22), (78, wt23), (79, wf24)]) (V := [(nI fa748), pl749, (nI fd), (nI md), (nI sc), (nI k9), dn22, wt23, wf24, (nI fa748), pl749, (nI fd), (nI md), (nI sc), (nI k9), dn22, wt23, wf24, (nI fa748), (nI fd), (nI md), (nI sc), (nI k9), dn22, wt23, wf24]) rfl rfl rfl hP
                have hD : va_D A (mW G h0 a (upd (upd (upd (upd (upd (upd (upd (upd (upd (upd (upd (upd (upd (upd (upd (upd (upd F 15 (nI fa748)) 16 pl749) 44 (nI fd)) 49 (nI md)) 73 (nI sc)) 74 (nI k9)) 77 dn22) 78 wt23) 79 wf24) 15 (nI fa748)) 44 (nI fd)) 49 (nI md)) 73 (nI sc)) 74 (nI k9)) 77 dn22) 78 wt23) 79 wf24) (updA (updA (updA (updA (updA B 14 nc) 17 ty25) 18 mn26) 48 vn) 49 vt)) := mW_D hD
                refine pc_V0 (G := G) (As := [.int (nI c757), .int (nI r19)]) (rest := []) hx hb hml hown hq hE hX pX0_al hP hD hS hA hl.1 (ihW h0 a (upd (upd (upd (upd (upd (upd (upd (upd (upd F 15 (nI fa748)) 16 pl749) 44 (nI fd)) 49 (nI md)) 73 (nI sc)) 74 (nI k9)) 77 dn22) 78 wt23) 79 wf24) B c757 fa748 sc k9 nd T nm wr lz dc fd md pr bk gh dn22 wt23 wf24 nc ty25 mn26 vn vt r19 hst hnm h759 (by omega) (by omega) (by omega) hk9 hnc h32 hvt (show kcl 1 _ = true from hc762) (by omega)) (gV pw_1826 pw_1827 pw_1828 pw_1523 pw_1865) hV_X12_wants 0 9 rfl rfl rfl rfl (Nat.le_of_ble_eq_true rfl) dX12_two_134 ⟨Nat.le_of_ble_eq_true rfl, Nat.le_of_ble_eq_true rfl⟩ ⟨(by show (4 * (z9 - 1) + 12) + 1 ≤ (4 * z9 + 9); omega), (by show 8 + (4 + 11) + (160 * (z9 - 1) + 1480) ≤ (160 * z9 + 1360); omega)⟩ (fun v769 u767 H locs hw768 hP hD hS => ?_)
                obtain ⟨fa770, pl771, dn772, wt773, wf774, ty775, mn776⟩ := u767
                obtain ⟨hw768, h777, h778, h779, h780, h781⟩ := hw768
                replace h777 : fa748 ≤ fa770 := h777
                replace h778 : fa770 ≤ 15 := h778
                replace h779 : ChE B nd c757 ty25 ty775 mn26 mn776 := h779
                replace h780 : mnN B nd mn776 := h780
                replace h781 : If (fa770 = 0) (Typ B dc fd md nd ty775 mn776 vt sc k9 c757 ∧ ty775 c757 = nI r19) := h781
                obtain rfl : v769 = none := hw768
                have hP : va_P G.1 pCl (mW G h0 a (upd (upd (upd (upd (upd (upd (upd (upd (upd F 15 (nI fa770)) 16 pl771) 44 (nI fd)) 49 (nI md)) 73 (nI sc)) 74 (nI k9)) 77 dn772) 78 wt773) 79 wf774) (updA (updA (updA (updA (updA B 14 nc) 17 ty775) 18 mn776) 48 vn) 49 vt)) _ := mW_to (F := F) (l1 := [(15, (nI fa748)), (16, pl749), (44, (nI fd)), (49, (nI md)), (73, (nI sc)), (74, (nI k9)), (77, dn22), (78, wt23), (79, wf24), (15, (nI fa770)), (16, pl771), (44, (nI fd)), (49, (nI md)), (73, (nI sc)), (74, (nI k9)), (77, dn772), (78, wt773), (79, wf774)]) (l2 := [(15, (nI fa770)), (16, pl771), (44, (nI fd)), (49, (nI md)), (73, (nI sc)), (74, (nI k9)), (77, dn772), (78, wt773), (79, wf774)]) (V := [(nI fa770), pl771, (nI fd), (nI md), (nI sc), (nI k9), dn772, wt773, wf774, (nI fa770), pl771, (nI fd), (nI md), (nI sc), (nI k9), dn772, wt773, wf774, (nI fa770), pl771, (nI fd), (nI md), (nI sc), (nI k9), dn772, wt773, wf774]) rfl rfl rfl hP
                have hD : va_D A (mW G h0 a (upd (upd (upd (upd (upd (upd (upd (upd (upd F 15 (nI fa770)) 16 pl771) 44 (nI fd)) 49 (nI md)) 73 (nI sc)) 74 (nI k9)) 77 dn772) 78 wt773) 79 wf774) (updA (updA (updA (updA (updA B 14 nc) 17 ty775) 18 mn776) 48 vn) 49 vt)) := mW_D hD
                refine W.widen (k := 0) (n := 0) (Nat.le_of_ble_eq_true rfl) (Nat.le_of_ble_eq_true rfl) ?_
                refine W.eq (g2 := F0 m 137 ls []) rfl ?_
                have hch782 : ChE B nd n9 ty ty775 mn mn776 := (ChE.trans hch35 (ChE.kid h779 (by omega) hp760))
                have hy783 : If (fa20 = 0) (Typ B dc fd md nd ty775 mn776 vt sc k9 c6) := (fun e => Typ.beside hF (by omega) hn9 (h33 e) h8 h759 hp9 hp760 (fun e => by have z := hg13; rw [e] at z; have := hg764; omega) h779)
                have ht784 : ty775 c6 = nI r19 := ((ChE.at hF (by omega) hn9 h8 h759 hp9 hp760 (fun e => by have z := hg13; rw [e] at z; have := hg764; omega) h779).trans h34)
                refine lv_aload_n hx hb dX12_two_137 rfl (lv_at hl 2 rfl) ?_
                refine lv_iload_n hx hb dX12_two_138 rfl (lv_at hl 0 rfl) ?_
                have hP : va_P G.1 pCl (mW G h0 a (upd (upd (upd (upd (upd (upd (upd (upd (upd (upd F 15 (nI fa770)) 16 pl771) 44 (nI fd)) 49 (nI md)) 73 (nI sc)) 74 (nI k9)) 77 dn772) 78 wt773) 79 wf774) 77 dn772) (updA (updA (updA (updA (updA B 14 nc) 17 ty775) 18 mn776) 48 vn) 49 vt)) _ := mW_to (F := F) (l1 := [(15, (nI fa770)), (16, pl771), (44, (nI fd)), (49, (nI md)), (73, (nI sc)), (74, (nI k9)), (77, dn772), (78, wt773), (79, wf774)]) (l2 := [(15, (nI fa770)), (16, pl771), (44, (nI fd)), (49, (nI md)), (73, (nI sc)), (74, (nI k9)), (77, dn772), (78, wt773), (79, wf774), (77, dn772)]) (V := [(nI fa770), pl771, (nI fd), (nI md), (nI sc), (nI k9), dn772, wt773, wf774, (nI fa770), pl771, (nI fd), (nI md), (nI sc), (nI k9), dn772, wt773, wf774, dn772]) rfl rfl rfl hP
                have hD : va_D A (mW G h0 a (upd (upd (upd (upd (upd (upd (upd (upd (upd (upd F 15 (nI fa770)) 16 pl771) 44 (nI fd)) 49 (nI md)) 73 (nI sc)) 74 (nI k9)) 77 dn772) 78 wt773) 79 wf774) 77 dn772) (updA (updA (updA (updA (updA B 14 nc) 17 ty775) 18 mn776) 48 vn) 49 vt)) := mW_D hD
                refine pc_V0 (G := G) (As := [.int (nI r19)]) (rest := []) hx hb hml hown hq hE hX pX0_al hP hD hS hA hl.1 (R_behind l G h0 a (upd (upd (upd (upd (upd (upd (upd (upd (upd F 15 (nI fa770)) 16 pl771) 44 (nI fd)) 49 (nI md)) 73 (nI sc)) 74 (nI k9)) 77 dn772) 78 wt773) 79 wf774) (updA (updA (updA (updA (updA B 14 nc) 17 ty775) 18 mn776) 48 vn) 49 vt) (nI r19) dn772) (gV pw_1832 pw_1833 pw_1834 pw_1523 pw_1804) hV_X12_behind 0 9 rfl rfl rfl rfl (Nat.le_of_ble_eq_true rfl) dX12_two_139 ⟨Nat.le_of_ble_eq_true rfl, Nat.le_of_ble_eq_true rfl⟩ ⟨(by show 2 + 1 ≤ (4 * z9 + 9); omega), (by show 8 + (2 + 11) + 60 ≤ (160 * z9 + 1360); omega)⟩ (fun v787 u785 H locs hw786 hP hD hS => ?_)
                obtain rfl : v787 = some (.int (nI r19)) := hw786
                have hP : va_P G.1 pCl (mW G h0 a (upd (upd (upd (upd (upd (upd (upd (upd (upd F 15 (nI fa770)) 16 pl771) 44 (nI fd)) 49 (nI md)) 73 (nI sc)) 74 (nI k9)) 77 dn772) 78 dn772) 79 dn772) (updA (updA (updA (updA (updA B 14 nc) 17 ty775) 18 mn776) 48 vn) 49 vt)) _ := mW_to (F := F) (l1 := [(15, (nI fa770)), (16, pl771), (44, (nI fd)), (49, (nI md)), (73, (nI sc)), (74, (nI k9)), (77, dn772), (78, wt773), (79, wf774), (77, dn772), (78, dn772), (79, dn772)]) (l2 := [(15, (nI fa770)), (16, pl771), (44, (nI fd)), (49, (nI md)), (73, (nI sc)), (74, (nI k9)), (77, dn772), (78, dn772), (79, dn772)]) (V := [(nI fa770), pl771, (nI fd), (nI md), (nI sc), (nI k9), dn772, dn772, dn772, dn772, dn772, dn772, (nI fa770), pl771, (nI fd), (nI md), (nI sc), (nI k9), dn772, dn772, dn772]) rfl rfl rfl hP
                have hD : va_D A (mW G h0 a (upd (upd (upd (upd (upd (upd (upd (upd (upd F 15 (nI fa770)) 16 pl771) 44 (nI fd)) 49 (nI md)) 73 (nI sc)) 74 (nI k9)) 77 dn772) 78 dn772) 79 dn772) (updA (updA (updA (updA (updA B 14 nc) 17 ty775) 18 mn776) 48 vn) 49 vt)) := mW_D hD
                refine W.widen (k := 0) (n := 0) (Nat.le_of_ble_eq_true rfl) (Nat.le_of_ble_eq_true rfl) ?_
                refine W.eq (g2 := F0 m 142 ls [.int (nI r19)]) rfl ?_
                have hz788 : fa ≤ fa770 := (by omega)
                have hz789 : fa770 ≤ 15 := (by omega)
                have hz790 : TyC dc r19 := h29
                have hz791 : r19 ≤ 2050 := (by omega)
                have hz792 : ChE B nd n9 ty ty775 mn mn776 := hch782
                have hz793 : mnN B nd mn776 := h780
                have hz794 : If (fa770 = 0) (Typ0 B dc fd md nd ty775 mn776 vt sc k9 n9 (nI r19)) := (fun e => Typ0.of (kids (kk := 18) (c1 := c6) (c2 := c757) (c3 := c6) hkd (by decide) ⟨by omega, by omega, by omega⟩ (Or.inr ⟨by decide, e7⟩) (Or.inr ⟨by decide, e758⟩) (Or.inl (by decide)) (by decide) (hy783 (by omega)) ((fun e => (h781 e).1) (by omega)) (hy783 (by omega))) (LT18 hkd hh12 hh763 ht784 (by omega) (h781 (by omega)).2 (by omega) (by first | exact Or.inl (by rw [show r19 = 1 by omega]; rfl) | exact Or.inr (by rw [show r19 = 2 by omega]; rfl))))
                have hP : va_P G.1 pCl (mW G h0 a (upd (upd (upd (upd (upd (upd (upd (upd (upd F 15 (nI fa770)) 16 pl771) 44 (nI fd)) 49 (nI md)) 73 (nI sc)) 74 (nI k9)) 77 dn772) 78 dn772) 79 dn772) (updA (updA (updA (updA (updA B 14 nc) 17 ty775) 18 mn776) 48 vn) 49 vt)) _ := hP
                have hD : va_D A (mW G h0 a (upd (upd (upd (upd (upd (upd (upd (upd (upd F 15 (nI fa770)) 16 pl771) 44 (nI fd)) 49 (nI md)) 73 (nI sc)) 74 (nI k9)) 77 dn772) 78 dn772) 79 dn772) (updA (updA (updA (updA (updA B 14 nc) 17 ty775) 18 mn776) 48 vn) 49 vt)) := mW_D hD
                exact W.iret (v := (nI r19)) hx hb hr (fun t9 ht9 hW9 => ⟨⟨_, (r19, fa770, pl771, dn772, dn772, dn772, ty775, mn776), rfl, ⟨rfl, hz788, hz789, hz790, hz791, hz792, hz793, hz794⟩, by rw [ht9]; exact hP, hD⟩, hS.F ht9⟩) hS.2.2 dX12_two_142
    · refine lv_aload_n hx hb dX12_two_37 rfl (lv_at hl 2 rfl) ?_
      refine lv_aload_n hx hb dX12_two_38 rfl (lv_at hl 2 rfl) ?_
      refine r_get (v := .ref (a 13)) hx hb hown hq hE hP 21 50 tFX12_21 (by decide) pw_1443 rfl dX12_two_39 ?_
      refine lv_iload_n hx hb dX12_two_42 rfl (lv_at hl 3 rfl) ?_
      refine r_ldi (f := (B 13)) (j := n9) hx hb hE hP 13 (ma_13 G a _) rfl (by omega) (by decide) dX12_two_43 ?_
      obtain ⟨c795, e796, h797, hp798, h799, hc800, hh801, hg802⟩ := Fs2.kid (kk := 18) (s := 2) hF hn9 hkd (by decide) (by decide) (by decide) (by decide) (by omega)
      refine lv_topi (fun x803 e804 => ?_)
      obtain rfl : x803 = nI c795 := e804.trans e796
      have hP : va_P G.1 pCl (mW G h0 a (upd (upd (upd (upd (upd (upd (upd (upd (upd (upd (upd (upd (upd (upd (upd (upd (upd F 15 (nI fa20)) 16 pl21) 44 (nI fd)) 49 (nI md)) 73 (nI sc)) 74 (nI k9)) 77 dn22) 78 wt23) 79 wf24) 15 (nI fa20)) 44 (nI fd)) 49 (nI md)) 73 (nI sc)) 74 (nI k9)) 77 dn22) 78 wt23) 79 wf24) (updA (updA (updA (updA (updA B 14 nc) 17 ty25) 18 mn26) 48 vn) 49 vt)) _ := mW_to (F := F) (l1 := [(15, (nI fa20)), (16, pl21), (44, (nI fd)), (49, (nI md)), (73, (nI sc)), (74, (nI k9)), (77, dn22), (78, wt23), (79, wf24)]) (l2 := [(15, (nI fa20)), (16, pl21), (44, (nI fd)), (49, (nI md)), (73, (nI sc)), (74, (nI k9)), (77, dn22), (78, wt23), (79, wf24), (15, (nI fa20)), (44, (nI fd)), (49, (nI md)), (73, (nI sc)), (74, (nI k9)), (77, dn22), (78, wt23), (79, wf24)]) (V := [(nI fa20), pl21, (nI fd), (nI md), (nI sc), (nI k9), dn22, wt23, wf24, (nI fa20), pl21, (nI fd), (nI md), (nI sc), (nI k9), dn22, wt23, wf24, (nI fa20), (nI fd), (nI md), (nI sc), (nI k9), dn22, wt23, wf24]) rfl rfl rfl hP
      have hD : va_D A (mW G h0 a (upd (upd (upd (upd (upd (upd (upd (upd (upd (upd (upd (upd (upd (upd (upd (upd (upd F 15 (nI fa20)) 16 pl21) 44 (nI fd)) 49 (nI md)) 73 (nI sc)) 74 (nI k9)) 77 dn22) 78 wt23) 79 wf24) 15 (nI fa20)) 44 (nI fd)) 49 (nI md)) 73 (nI sc)) 74 (nI k9)) 77 dn22) 78 wt23) 79 wf24) (updA (updA (updA (updA (updA B 14 nc) 17 ty25) 18 mn26) 48 vn) 49 vt)) := mW_D hD
      refine pc_V0 (G := G) (As := [.int (nI c795)]) (rest := []) hx hb hml hown hq hE hX pX0_al hP hD hS hA hl.1 (ihL h0 a (upd (upd (upd (upd (upd (upd (upd (upd (upd F 15 (nI fa20)) 16 pl21) 44 (nI fd)) 49 (nI md)) 73 (nI sc)) 74 (nI k9)) 77 dn22) 78 wt23) 79 wf24) B c795 fa20 sc k9 nd T nm wr lz dc fd md pr bk gh dn22 wt23 wf24 nc ty25 mn26 vn vt hst hnm h797 (by omega) (by omega) (by omega) hk9 hnc h32 hvt (show kcl 1 _ = true from hc800)) (gV pw_1822 pw_1823 pw_1824 pw_1523 pw_1830) hV_X12_look 0 9 rfl rfl rfl rfl (Nat.le_of_ble_eq_true rfl) dX12_two_44 ⟨Nat.le_of_ble_eq_true rfl, Nat.le_of_ble_eq_true rfl⟩ ⟨(by show (4 * (z9 - 1) + 11) + 1 ≤ (4 * z9 + 9); omega), (by show 8 + (3 + 11) + (160 * (z9 - 1) + 1440) ≤ (160 * z9 + 1360); omega)⟩ (fun v807 u805 H locs hw806 hP hD hS => ?_)
      obtain ⟨r808, fa809, pl810, dn811, wt812, wf813, ty814, mn815⟩ := u805
      obtain ⟨hw806, h816, h817, h818, h819, h820, h821, h822, h823⟩ := hw806
      replace h816 : fa20 ≤ fa809 := h816
      replace h817 : fa809 ≤ 15 := h817
      replace h818 : TyC dc r808 := h818
      replace h819 : r808 ≤ 2050 := h819
      replace h820 : ChE B nd c795 ty25 ty814 mn26 mn815 := h820
      replace h821 : mnN B nd mn815 := h821
      replace h822 : If (fa809 = 0) (Typ B dc fd md nd ty814 mn815 vt sc k9 c795) := h822
      replace h823 : ty814 c795 = nI r808 := h823
      obtain rfl : v807 = some (.int (nI r808)) := hw806
      have hP : va_P G.1 pCl (mW G h0 a (upd (upd (upd (upd (upd (upd (upd (upd (upd F 15 (nI fa809)) 16 pl810) 44 (nI fd)) 49 (nI md)) 73 (nI sc)) 74 (nI k9)) 77 dn811) 78 wt812) 79 wf813) (updA (updA (updA (updA (updA B 14 nc) 17 ty814) 18 mn815) 48 vn) 49 vt)) _ := mW_to (F := F) (l1 := [(15, (nI fa20)), (16, pl21), (44, (nI fd)), (49, (nI md)), (73, (nI sc)), (74, (nI k9)), (77, dn22), (78, wt23), (79, wf24), (15, (nI fa809)), (16, pl810), (44, (nI fd)), (49, (nI md)), (73, (nI sc)), (74, (nI k9)), (77, dn811), (78, wt812), (79, wf813)]) (l2 := [(15, (nI fa809)), (16, pl810), (44, (nI fd)), (49, (nI md)), (73, (nI sc)), (74, (nI k9)), (77, dn811), (78, wt812), (79, wf813)]) (V := [(nI fa809), pl810, (nI fd), (nI md), (nI sc), (nI k9), dn811, wt812, wf813, (nI fa809), pl810, (nI fd), (nI md), (nI sc), (nI k9), dn811, wt812, wf813, (nI fa809), pl810, (nI fd), (nI md), (nI sc), (nI k9), dn811, wt812, wf813]) rfl rfl rfl hP
      have hD : va_D A (mW G h0 a (upd (upd (upd (upd (upd (upd (upd (upd (upd F 15 (nI fa809)) 16 pl810) 44 (nI fd)) 49 (nI md)) 73 (nI sc)) 74 (nI k9)) 77 dn811) 78 wt812) 79 wf813) (updA (updA (updA (updA (updA B 14 nc) 17 ty814) 18 mn815) 48 vn) 49 vt)) := mW_D hD
      refine W.widen (k := 0) (n := 0) (Nat.le_of_ble_eq_true rfl) (Nat.le_of_ble_eq_true rfl) ?_
      refine W.eq (g2 := F0 m 47 ls [.int (nI r808)]) rfl ?_
      have hch824 : ChE B nd n9 ty ty814 mn mn815 := (ChE.trans hch35 (ChE.kid h820 (by omega) hp798))
      have hy825 : If (fa20 = 0) (Typ B dc fd md nd ty814 mn815 vt sc k9 c6) := (fun e => Typ.beside hF (by omega) hn9 (h33 e) h8 h797 hp9 hp798 (fun e => by have z := hg13; rw [e] at z; have := hg802; omega) h820)
      have ht826 : ty814 c6 = nI r19 := ((ChE.at hF (by omega) hn9 h8 h797 hp9 hp798 (fun e => by have z := hg13; rw [e] at z; have := hg802; omega) h820).trans h34)
      refine lv_istore (lv' := [(4, .int (nI r808)), (3, .int (nI r19)), (2, .int ((B 2) t1)), (0, .ref h0), (1, .int (nI n9))]) hx hb dX12_two_47 hl (by decide) rfl (fun ls hl => ?_)
      refine lv_aload_n hx hb dX12_two_49 rfl (lv_at hl 3 rfl) ?_
      refine lv_aload_n hx hb dX12_two_50 rfl (lv_at hl 3 rfl) ?_
      refine lv_iload_n hx hb dX12_two_51 rfl (lv_at hl 1 rfl) ?_
      refine lv_iload hx hb dX12_two_52 (lv_at hl 0 rfl) ?_
      have hP : va_P G.1 pCl (mW G h0 a (upd (upd (upd (upd (upd (upd (upd (upd (upd F 15 (nI fa809)) 16 pl810) 44 (nI fd)) 49 (nI md)) 73 (nI sc)) 74 (nI k9)) 77 dn811) 78 wt812) 79 wf813) (updA (updA (updA (updA (updA (updA B 14 nc) 17 ty814) 18 mn815) 48 vn) 49 vt) 31 (B 31))) _ := mW_to (F := F) (l1 := [(15, (nI fa809)), (16, pl810), (44, (nI fd)), (49, (nI md)), (73, (nI sc)), (74, (nI k9)), (77, dn811), (78, wt812), (79, wf813)]) (l2 := [(15, (nI fa809)), (16, pl810), (44, (nI fd)), (49, (nI md)), (73, (nI sc)), (74, (nI k9)), (77, dn811), (78, wt812), (79, wf813)]) (V := [(nI fa809), pl810, (nI fd), (nI md), (nI sc), (nI k9), dn811, wt812, wf813, (nI fa809), pl810, (nI fd), (nI md), (nI sc), (nI k9), dn811, wt812, wf813]) rfl rfl (show (updA (updA (updA (updA (updA B 14 nc) 17 ty814) 18 mn815) 48 vn) 49 vt) = (updA (updA (updA (updA (updA (updA B 14 nc) 17 ty814) 18 mn815) 48 vn) 49 vt) 31 (B 31)) from updsA_eq2 (F := B) (l1 := [(14, nc), (17, ty814), (18, mn815), (48, vn), (49, vt)]) (l2 := [(14, nc), (17, ty814), (18, mn815), (48, vn), (49, vt), (31, (B 31))]) (V := [nc, ty814, mn815, vn, vt, nc, ty814, mn815, vn, vt, (B 31)]) rfl rfl) hP
      have hD : va_D A (mW G h0 a (upd (upd (upd (upd (upd (upd (upd (upd (upd F 15 (nI fa809)) 16 pl810) 44 (nI fd)) 49 (nI md)) 73 (nI sc)) 74 (nI k9)) 77 dn811) 78 wt812) 79 wf813) (updA (updA (updA (updA (updA (updA B 14 nc) 17 ty814) 18 mn815) 48 vn) 49 vt) 31 (B 31))) := mW_D hD
      refine pc_V0 (G := G) (As := [.int (nI r19), .int (nI r808)]) (rest := [.ref h0]) hx hb hml hown hq hE hX pX0_al hP hD hS hA hl.1 (R_areSides l G h0 a (upd (upd (upd (upd (upd (upd (upd (upd (upd F 15 (nI fa809)) 16 pl810) 44 (nI fd)) 49 (nI md)) 73 (nI sc)) 74 (nI k9)) 77 dn811) 78 wt812) 79 wf813) (updA (updA (updA (updA (updA B 14 nc) 17 ty814) 18 mn815) 48 vn) 49 vt) r19 r808 dc (B 31) h29 h818 (by omega) hBI) (gV pw_1818 pw_1819 pw_1820 pw_1523 pw_1803) hV_X12_areSides 0 9 rfl rfl rfl rfl (Nat.le_of_ble_eq_true rfl) dX12_two_54 ⟨Nat.le_of_ble_eq_true rfl, Nat.le_of_ble_eq_true rfl⟩ ⟨(by show 5 + 1 ≤ (4 * z9 + 9); omega), (by show 8 + (3 + 11) + 126 ≤ (160 * z9 + 1360); omega)⟩ (fun v829 u827 H locs hw828 hP hD hS => ?_)
      obtain ⟨r830, rfl⟩ : ∃ z, z = u827 := ⟨_, rfl⟩
      obtain ⟨hw828, h831, h832⟩ := hw828
      replace h831 : r830 ≤ 1 := h831
      replace h832 : If (r830 = 1) (SideP (B 31) r19 r808) := h832
      obtain rfl : v829 = some (.int (nI r830)) := hw828
      have hP : va_P G.1 pCl (mW G h0 a (upd (upd (upd (upd (upd (upd (upd (upd (upd F 15 (nI fa809)) 16 pl810) 44 (nI fd)) 49 (nI md)) 73 (nI sc)) 74 (nI k9)) 77 dn811) 78 wt812) 79 wf813) (updA (updA (updA (updA (updA B 14 nc) 17 ty814) 18 mn815) 48 vn) 49 vt)) _ := mW_to (F := F) (l1 := [(15, (nI fa809)), (16, pl810), (44, (nI fd)), (49, (nI md)), (73, (nI sc)), (74, (nI k9)), (77, dn811), (78, wt812), (79, wf813)]) (l2 := [(15, (nI fa809)), (16, pl810), (44, (nI fd)), (49, (nI md)), (73, (nI sc)), (74, (nI k9)), (77, dn811), (78, wt812), (79, wf813)]) (V := [(nI fa809), pl810, (nI fd), (nI md), (nI sc), (nI k9), dn811, wt812, wf813, (nI fa809), pl810, (nI fd), (nI md), (nI sc), (nI k9), dn811, wt812, wf813]) rfl rfl (show (updA (updA (updA (updA (updA (updA B 14 nc) 17 ty814) 18 mn815) 48 vn) 49 vt) 31 (B 31)) = (updA (updA (updA (updA (updA B 14 nc) 17 ty814) 18 mn815) 48 vn) 49 vt) from updsA_eq2 (F := B) (l1 := [(14, nc), (17, ty814), (18, mn815), (48, vn), (49, vt), (31, (B 31))]) (l2 := [(14, nc), (17, ty814), (18, mn815), (48, vn), (49, vt)]) (V := [nc, ty814, mn815, vn, vt, (B 31), nc, ty814, mn815, vn, vt]) rfl rfl) hP
      have hD : va_D A (mW G h0 a (upd (upd (upd (upd (upd (upd (upd (upd (upd F 15 (nI fa809)) 16 pl810) 44 (nI fd)) 49 (nI md)) 73 (nI sc)) 74 (nI k9)) 77 dn811) 78 wt812) 79 wf813) (updA (updA (updA (updA (updA B 14 nc) 17 ty814) 18 mn815) 48 vn) 49 vt)) := mW_D hD
      refine W.widen (k := 0) (n := 0) (Nat.le_of_ble_eq_true rfl) (Nat.le_of_ble_eq_true rfl) ?_
      refine W.eq (g2 := F0 m 57 ls [.int (nI r830), .ref h0]) rfl ?_
      refine lv_bipush (v := 11) hx hb dX12_two_57 (by decide) ?_
      refine lv_aload_n hx hb dX12_two_59 rfl (lv_at hl 3 rfl) ?_
      refine r_get (v := .ref (a 11)) hx hb hown hq hE hP 19 44 tFX12_19 (by decide) pw_1441 rfl dX12_two_60 ?_
      refine lv_iload_n hx hb dX12_two_63 rfl (lv_at hl 4 rfl) ?_
      refine r_ldi (f := (B 11)) (j := n9) hx hb hE hP 11 (ma_11 G a _) rfl (by omega) (by decide) dX12_two_64 ?_
      refine lv_topi (fun x833 e834 => ?_)
      obtain rfl : x833 = nI t1 := e834.trans e2
      have hP : va_P G.1 pCl (mW G h0 a (upd (upd (upd (upd (upd (upd (upd (upd (upd (upd F 15 (nI fa809)) 16 pl810) 44 (nI fd)) 49 (nI md)) 73 (nI sc)) 74 (nI k9)) 77 dn811) 78 wt812) 79 wf813) 15 (nI fa809)) (updA (updA (updA (updA (updA B 14 nc) 17 ty814) 18 mn815) 48 vn) 49 vt)) _ := mW_to (F := F) (l1 := [(15, (nI fa809)), (16, pl810), (44, (nI fd)), (49, (nI md)), (73, (nI sc)), (74, (nI k9)), (77, dn811), (78, wt812), (79, wf813)]) (l2 := [(15, (nI fa809)), (16, pl810), (44, (nI fd)), (49, (nI md)), (73, (nI sc)), (74, (nI k9)), (77, dn811), (78, wt812), (79, wf813), (15, (nI fa809))]) (V := [(nI fa809), pl810, (nI fd), (nI md), (nI sc), (nI k9), dn811, wt812, wf813, (nI fa809), pl810, (nI fd), (nI md), (nI sc), (nI k9), dn811, wt812, wf813, (nI fa809)]) rfl rfl rfl hP
      have hD : va_D A (mW G h0 a (upd (upd (upd (upd (upd (upd (upd (upd (upd (upd F 15 (nI fa809)) 16 pl810) 44 (nI fd)) 49 (nI md)) 73 (nI sc)) 74 (nI k9)) 77 dn811) 78 wt812) 79 wf813) 15 (nI fa809)) (updA (updA (updA (updA (updA B 14 nc) 17 ty814) 18 mn815) 48 vn) 49 vt)) := mW_D hD
      refine pc_V0 (G := G) (As := [.int (nI r830), .int (nI 11), .int (nI t1)]) (rest := []) hx hb hml hown hq hE hX pX0_al hP hD hS hA hl.1 (R_judgeL l G h0 a (upd (upd (upd (upd (upd (upd (upd (upd (upd F 15 (nI fa809)) 16 pl810) 44 (nI fd)) 49 (nI md)) 73 (nI sc)) 74 (nI k9)) 77 dn811) 78 wt812) 79 wf813) (updA (updA (updA (updA (updA B 14 nc) 17 ty814) 18 mn815) 48 vn) 49 vt) r830 11 t1 fa809 (by omega) (by omega) (by omega) (by omega)) (gV pw_1798 pw_1799 pw_1800 pw_1523 pw_1793) hV_X12_judge 0 9 rfl rfl rfl rfl (Nat.le_of_ble_eq_true rfl) dX12_two_65 ⟨Nat.le_of_ble_eq_true rfl, Nat.le_of_ble_eq_true rfl⟩ ⟨(by show 3 + 1 ≤ (4 * z9 + 9); omega), (by show 8 + (4 + 11) + 82 ≤ (160 * z9 + 1360); omega)⟩ (fun v837 u835 H locs hw836 hP hD hS => ?_)
      obtain ⟨r838, fa839, pl840⟩ := u835
      obtain ⟨hw836, h841, h842, h843, h844, h845, h846, h847⟩ := hw836
      replace h841 : r838 ≤ 1 := h841
      replace h842 : fa809 ≤ fa839 := h842
      replace h843 : fa839 ≤ 15 := h843
      replace h844 : fa839 + 15 * r838 ≤ 15 := h844
      replace h845 : 1 ≤ r838 + fa839 := h845
      replace h846 : 1 ≤ r830 + fa839 := h846
      replace h847 : fa839 ≤ fa809 + 15 * (1 - r830) := h847
      obtain rfl : v837 = some (.int (nI r838)) := hw836
      have hP : va_P G.1 pCl (mW G h0 a (upd (upd (upd (upd (upd (upd (upd (upd (upd F 15 (nI fa839)) 16 pl840) 44 (nI fd)) 49 (nI md)) 73 (nI sc)) 74 (nI k9)) 77 dn811) 78 wt812) 79 wf813) (updA (updA (updA (updA (updA B 14 nc) 17 ty814) 18 mn815) 48 vn) 49 vt)) _ := mW_to (F := F) (l1 := [(15, (nI fa809)), (16, pl810), (44, (nI fd)), (49, (nI md)), (73, (nI sc)), (74, (nI k9)), (77, dn811), (78, wt812), (79, wf813), (15, (nI fa839)), (16, pl840)]) (l2 := [(15, (nI fa839)), (16, pl840), (44, (nI fd)), (49, (nI md)), (73, (nI sc)), (74, (nI k9)), (77, dn811), (78, wt812), (79, wf813)]) (V := [(nI fa839), pl840, (nI fd), (nI md), (nI sc), (nI k9), dn811, wt812, wf813, (nI fa839), pl840, (nI fa839), pl840, (nI fd), (nI md), (nI sc), (nI k9), dn811, wt812, wf813]) rfl rfl rfl hP
      have hD : va_D A (mW G h0 a (upd (upd (upd (upd (upd (upd (upd (upd (upd F 15 (nI fa839)) 16 pl840) 44 (nI fd)) 49 (nI md)) 73 (nI sc)) 74 (nI k9)) 77 dn811) 78 wt812) 79 wf813) (updA (updA (updA (updA (updA B 14 nc) 17 ty814) 18 mn815) 48 vn) 49 vt)) := mW_D hD
      refine W.widen (k := 0) (n := 0) (Nat.le_of_ble_eq_true rfl) (Nat.le_of_ble_eq_true rfl) ?_
      refine W.eq (g2 := F0 m 68 ls [.int (nI r838)]) rfl ?_
      refine lv_pop hx hb dX12_two_68 rfl ?_
      refine lv_aload_n hx hb dX12_two_69 rfl (lv_at hl 3 rfl) ?_
      refine lv_iconst (v := 2) hx hb dX12_two_70 (by decide) ?_
      have hP : va_P G.1 pCl (mW G h0 a (upd (upd (upd (upd (upd (upd (upd (upd (upd (upd F 15 (nI fa839)) 16 pl840) 44 (nI fd)) 49 (nI md)) 73 (nI sc)) 74 (nI k9)) 77 dn811) 78 wt812) 79 wf813) 77 dn811) (updA (updA (updA (updA (updA B 14 nc) 17 ty814) 18 mn815) 48 vn) 49 vt)) _ := mW_to (F := F) (l1 := [(15, (nI fa839)), (16, pl840), (44, (nI fd)), (49, (nI md)), (73, (nI sc)), (74, (nI k9)), (77, dn811), (78, wt812), (79, wf813)]) (l2 := [(15, (nI fa839)), (16, pl840), (44, (nI fd)), (49, (nI md)), (73, (nI sc)), (74, (nI k9)), (77, dn811), (78, wt812), (79, wf813), (77, dn811)]) (V := [(nI fa839), pl840, (nI fd), (nI md), (nI sc), (nI k9), dn811, wt812, wf813, (nI fa839), pl840, (nI fd), (nI md), (nI sc), (nI k9), dn811, wt812, wf813, dn811]) rfl rfl rfl hP
      have hD : va_D A (mW G h0 a (upd (upd (upd (upd (upd (upd (upd (upd (upd (upd F 15 (nI fa839)) 16 pl840) 44 (nI fd)) 49 (nI md)) 73 (nI sc)) 74 (nI k9)) 77 dn811) 78 wt812) 79 wf813) 77 dn811) (updA (updA (updA (updA (updA B 14 nc) 17 ty814) 18 mn815) 48 vn) 49 vt)) := mW_D hD
      refine pc_V0 (G := G) (As := [.int 2]) (rest := []) hx hb hml hown hq hE hX pX0_al hP hD hS hA hl.1 (R_behind l G h0 a (upd (upd (upd (upd (upd (upd (upd (upd (upd F 15 (nI fa839)) 16 pl840) 44 (nI fd)) 49 (nI md)) 73 (nI sc)) 74 (nI k9)) 77 dn811) 78 wt812) 79 wf813) (updA (updA (updA (updA (updA B 14 nc) 17 ty814) 18 mn815) 48 vn) 49 vt) 2 dn811) (gV pw_1832 pw_1833 pw_1834 pw_1523 pw_1804) hV_X12_behind 0 9 rfl rfl rfl rfl (Nat.le_of_ble_eq_true rfl) dX12_two_71 ⟨Nat.le_of_ble_eq_true rfl, Nat.le_of_ble_eq_true rfl⟩ ⟨(by show 2 + 1 ≤ (4 * z9 + 9); omega), (by show 8 + (2 + 11) + 60 ≤ (160 * z9 + 1360); omega)⟩ (fun v850 u848 H locs hw849 hP hD hS => ?_)
      obtain rfl : v850 = some (.int 2) := hw849
      have hP : va_P G.1 pCl (mW G h0 a (upd (upd (upd (upd (upd (upd (upd (upd (upd F 15 (nI fa839)) 16 pl840) 44 (nI fd)) 49 (nI md)) 73 (nI sc)) 74 (nI k9)) 77 dn811) 78 dn811) 79 dn811) (updA (updA (updA (updA (updA B 14 nc) 17 ty814) 18 mn815) 48 vn) 49 vt)) _ := mW_to (F := F) (l1 := [(15, (nI fa839)), (16, pl840), (44, (nI fd)), (49, (nI md)), (73, (nI sc)), (74, (nI k9)), (77, dn811), (78, wt812), (79, wf813), (77, dn811), (78, dn811), (79, dn811)]) (l2 := [(15, (nI fa839)), (16, pl840), (44, (nI fd)), (49, (nI md)), (73, (nI sc)), (74, (nI k9)), (77, dn811), (78, dn811), (79, dn811)]) (V := [(nI fa839), pl840, (nI fd), (nI md), (nI sc), (nI k9), dn811, dn811, dn811, dn811, dn811, dn811, (nI fa839), pl840, (nI fd), (nI md), (nI sc), (nI k9), dn811, dn811, dn811]) rfl rfl rfl hP
      have hD : va_D A (mW G h0 a (upd (upd (upd (upd (upd (upd (upd (upd (upd F 15 (nI fa839)) 16 pl840) 44 (nI fd)) 49 (nI md)) 73 (nI sc)) 74 (nI k9)) 77 dn811) 78 dn811) 79 dn811) (updA (updA (updA (updA (updA B 14 nc) 17 ty814) 18 mn815) 48 vn) 49 vt)) := mW_D hD
      refine W.widen (k := 0) (n := 0) (Nat.le_of_ble_eq_true rfl) (Nat.le_of_ble_eq_true rfl) ?_
      refine W.eq (g2 := F0 m 74 ls [.int 2]) rfl ?_
      have hz851 : fa ≤ fa839 := (by omega)
      have hz852 : fa839 ≤ 15 := (by omega)
      have hz853 : TyC dc 2 := (by unfold TyC; omega)
      have hz854 : 2 ≤ 2050 := (by omega)
      have hz855 : ChE B nd n9 ty ty814 mn mn815 := hch824
      have hz856 : mnN B nd mn815 := h821
      have hz857 : If (fa839 = 0) (Typ0 B dc fd md nd ty814 mn815 vt sc k9 n9 (nI 2)) := (fun e => by have z := SideP.nz (h832 (by omega)); exact Typ0.of (kids (kk := 18) (c1 := c6) (c2 := c795) (c3 := c6) hkd (by decide) ⟨by omega, by omega, by omega⟩ (Or.inr ⟨by decide, e7⟩) (Or.inr ⟨by decide, e796⟩) (Or.inl (by decide)) (by decide) (hy825 (by omega)) (h822 (by omega)) (hy825 (by omega))) (LT18 hkd hh12 hh801 ht826 (by omega) h823 (by omega) (Or.inr rfl)))
      have hP : va_P G.1 pCl (mW G h0 a (upd (upd (upd (upd (upd (upd (upd (upd (upd F 15 (nI fa839)) 16 pl840) 44 (nI fd)) 49 (nI md)) 73 (nI sc)) 74 (nI k9)) 77 dn811) 78 dn811) 79 dn811) (updA (updA (updA (updA (updA B 14 nc) 17 ty814) 18 mn815) 48 vn) 49 vt)) _ := hP
      have hD : va_D A (mW G h0 a (upd (upd (upd (upd (upd (upd (upd (upd (upd F 15 (nI fa839)) 16 pl840) 44 (nI fd)) 49 (nI md)) 73 (nI sc)) 74 (nI k9)) 77 dn811) 78 dn811) 79 dn811) (updA (updA (updA (updA (updA B 14 nc) 17 ty814) 18 mn815) 48 vn) 49 vt)) := mW_D hD
      exact W.iret (v := 2) hx hb hr (fun t9 ht9 hW9 => ⟨⟨_, (2, fa839, pl840, dn811, dn811, dn811, ty814, mn815), rfl, ⟨rfl, hz851, hz852, hz853, hz854, hz855, hz856, hz857⟩, by rw [ht9]; exact hP, hD⟩, hS.F ht9⟩) hS.2.2 dX12_two_74

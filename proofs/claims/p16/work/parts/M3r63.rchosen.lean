theorem dX12_chosen_0 : decode cX12_chosen 0 = .ok (.aload_n 0, 1) := by decide +kernel
theorem dX12_chosen_1 : decode cX12_chosen 1 = .ok (.aload_n 0, 1) := by decide +kernel
theorem dX12_chosen_2 : decode cX12_chosen 2 = .ok (.getfield 47, 3) := by decide +kernel
theorem dX12_chosen_5 : decode cX12_chosen 5 = .ok (.iload_n 1, 1) := by decide +kernel
theorem dX12_chosen_6 : decode cX12_chosen 6 = .ok (.iaload, 1) := by decide +kernel
theorem dX12_chosen_7 : decode cX12_chosen 7 = .ok (.invokevirtual 548, 3) := by decide +kernel
theorem dX12_chosen_10 : decode cX12_chosen 10 = .ok (.istore_n 2, 1) := by decide +kernel
theorem dX12_chosen_11 : decode cX12_chosen 11 = .ok (.aload_n 0, 1) := by decide +kernel
theorem dX12_chosen_12 : decode cX12_chosen 12 = .ok (.getfield 62, 3) := by decide +kernel
theorem dX12_chosen_15 : decode cX12_chosen 15 = .ok (.aload_n 0, 1) := by decide +kernel
theorem dX12_chosen_16 : decode cX12_chosen 16 = .ok (.getfield 47, 3) := by decide +kernel
theorem dX12_chosen_19 : decode cX12_chosen 19 = .ok (.iload_n 1, 1) := by decide +kernel
theorem dX12_chosen_20 : decode cX12_chosen 20 = .ok (.iaload, 1) := by decide +kernel
theorem dX12_chosen_21 : decode cX12_chosen 21 = .ok (.iload_n 2, 1) := by decide +kernel
theorem dX12_chosen_22 : decode cX12_chosen 22 = .ok (.iastore, 1) := by decide +kernel
theorem dX12_chosen_23 : decode cX12_chosen 23 = .ok (.aload_n 0, 1) := by decide +kernel
theorem dX12_chosen_24 : decode cX12_chosen 24 = .ok (.iload_n 2, 1) := by decide +kernel
theorem dX12_chosen_25 : decode cX12_chosen 25 = .ok (.iconst 2, 1) := by decide +kernel
theorem dX12_chosen_26 : decode cX12_chosen 26 = .ok (.if_icmp .ne 7, 3) := by decide +kernel
theorem dX12_chosen_33 : decode cX12_chosen 33 = .ok (.iconst 0, 1) := by decide +kernel
theorem dX12_chosen_34 : decode cX12_chosen 34 = .ok (.bipush 11, 2) := by decide +kernel
theorem dX12_chosen_36 : decode cX12_chosen 36 = .ok (.aload_n 0, 1) := by decide +kernel
theorem dX12_chosen_37 : decode cX12_chosen 37 = .ok (.getfield 41, 3) := by decide +kernel
theorem dX12_chosen_40 : decode cX12_chosen 40 = .ok (.aload_n 0, 1) := by decide +kernel
theorem dX12_chosen_41 : decode cX12_chosen 41 = .ok (.getfield 47, 3) := by decide +kernel
theorem dX12_chosen_44 : decode cX12_chosen 44 = .ok (.iload_n 1, 1) := by decide +kernel
theorem dX12_chosen_45 : decode cX12_chosen 45 = .ok (.iaload, 1) := by decide +kernel
theorem dX12_chosen_46 : decode cX12_chosen 46 = .ok (.iaload, 1) := by decide +kernel
theorem dX12_chosen_47 : decode cX12_chosen 47 = .ok (.invokevirtual 540, 3) := by decide +kernel
theorem dX12_chosen_50 : decode cX12_chosen 50 = .ok (.pop, 1) := by decide +kernel
theorem dX12_chosen_51 : decode cX12_chosen 51 = .ok (.aload_n 0, 1) := by decide +kernel
theorem dX12_chosen_52 : decode cX12_chosen 52 = .ok (.getfield 551, 3) := by decide +kernel
theorem dX12_chosen_55 : decode cX12_chosen 55 = .ok (.istore_n 3, 1) := by decide +kernel
theorem dX12_chosen_56 : decode cX12_chosen 56 = .ok (.aload_n 0, 1) := by decide +kernel
theorem dX12_chosen_57 : decode cX12_chosen 57 = .ok (.getfield 554, 3) := by decide +kernel
theorem dX12_chosen_60 : decode cX12_chosen 60 = .ok (.istore 4, 2) := by decide +kernel
theorem dX12_chosen_62 : decode cX12_chosen 62 = .ok (.aload_n 0, 1) := by decide +kernel
theorem dX12_chosen_63 : decode cX12_chosen 63 = .ok (.iload_n 3, 1) := by decide +kernel
theorem dX12_chosen_64 : decode cX12_chosen 64 = .ok (.putfield 544, 3) := by decide +kernel
theorem dX12_chosen_67 : decode cX12_chosen 67 = .ok (.aload_n 0, 1) := by decide +kernel
theorem dX12_chosen_68 : decode cX12_chosen 68 = .ok (.aload_n 0, 1) := by decide +kernel
theorem dX12_chosen_69 : decode cX12_chosen 69 = .ok (.getfield 50, 3) := by decide +kernel
theorem dX12_chosen_72 : decode cX12_chosen 72 = .ok (.iload_n 1, 1) := by decide +kernel
theorem dX12_chosen_73 : decode cX12_chosen 73 = .ok (.iaload, 1) := by decide +kernel
theorem dX12_chosen_74 : decode cX12_chosen 74 = .ok (.invokevirtual 548, 3) := by decide +kernel
theorem dX12_chosen_77 : decode cX12_chosen 77 = .ok (.istore 5, 2) := by decide +kernel
theorem dX12_chosen_79 : decode cX12_chosen 79 = .ok (.aload_n 0, 1) := by decide +kernel
theorem dX12_chosen_80 : decode cX12_chosen 80 = .ok (.getfield 62, 3) := by decide +kernel
theorem dX12_chosen_83 : decode cX12_chosen 83 = .ok (.aload_n 0, 1) := by decide +kernel
theorem dX12_chosen_84 : decode cX12_chosen 84 = .ok (.getfield 50, 3) := by decide +kernel
theorem dX12_chosen_87 : decode cX12_chosen 87 = .ok (.iload_n 1, 1) := by decide +kernel
theorem dX12_chosen_88 : decode cX12_chosen 88 = .ok (.iaload, 1) := by decide +kernel
theorem dX12_chosen_89 : decode cX12_chosen 89 = .ok (.iload 5, 2) := by decide +kernel
theorem dX12_chosen_91 : decode cX12_chosen 91 = .ok (.iastore, 1) := by decide +kernel
theorem dX12_chosen_92 : decode cX12_chosen 92 = .ok (.aload_n 0, 1) := by decide +kernel
theorem dX12_chosen_93 : decode cX12_chosen 93 = .ok (.getfield 551, 3) := by decide +kernel
theorem dX12_chosen_96 : decode cX12_chosen 96 = .ok (.istore 6, 2) := by decide +kernel
theorem dX12_chosen_98 : decode cX12_chosen 98 = .ok (.aload_n 0, 1) := by decide +kernel
theorem dX12_chosen_99 : decode cX12_chosen 99 = .ok (.getfield 554, 3) := by decide +kernel
theorem dX12_chosen_102 : decode cX12_chosen 102 = .ok (.istore 7, 2) := by decide +kernel
theorem dX12_chosen_104 : decode cX12_chosen 104 = .ok (.aload_n 0, 1) := by decide +kernel
theorem dX12_chosen_105 : decode cX12_chosen 105 = .ok (.iload 4, 2) := by decide +kernel
theorem dX12_chosen_107 : decode cX12_chosen 107 = .ok (.putfield 544, 3) := by decide +kernel
theorem dX12_chosen_110 : decode cX12_chosen 110 = .ok (.aload_n 0, 1) := by decide +kernel
theorem dX12_chosen_111 : decode cX12_chosen 111 = .ok (.aload_n 0, 1) := by decide +kernel
theorem dX12_chosen_112 : decode cX12_chosen 112 = .ok (.getfield 53, 3) := by decide +kernel
theorem dX12_chosen_115 : decode cX12_chosen 115 = .ok (.iload_n 1, 1) := by decide +kernel
theorem dX12_chosen_116 : decode cX12_chosen 116 = .ok (.iaload, 1) := by decide +kernel
theorem dX12_chosen_117 : decode cX12_chosen 117 = .ok (.invokevirtual 548, 3) := by decide +kernel
theorem dX12_chosen_120 : decode cX12_chosen 120 = .ok (.istore 8, 2) := by decide +kernel
theorem dX12_chosen_122 : decode cX12_chosen 122 = .ok (.aload_n 0, 1) := by decide +kernel
theorem dX12_chosen_123 : decode cX12_chosen 123 = .ok (.getfield 62, 3) := by decide +kernel
theorem dX12_chosen_126 : decode cX12_chosen 126 = .ok (.aload_n 0, 1) := by decide +kernel
theorem dX12_chosen_127 : decode cX12_chosen 127 = .ok (.getfield 53, 3) := by decide +kernel
theorem dX12_chosen_130 : decode cX12_chosen 130 = .ok (.iload_n 1, 1) := by decide +kernel
theorem dX12_chosen_131 : decode cX12_chosen 131 = .ok (.iaload, 1) := by decide +kernel
theorem dX12_chosen_132 : decode cX12_chosen 132 = .ok (.iload 8, 2) := by decide +kernel
theorem dX12_chosen_134 : decode cX12_chosen 134 = .ok (.iastore, 1) := by decide +kernel
theorem dX12_chosen_135 : decode cX12_chosen 135 = .ok (.aload_n 0, 1) := by decide +kernel
theorem dX12_chosen_136 : decode cX12_chosen 136 = .ok (.dup, 1) := by decide +kernel
theorem dX12_chosen_137 : decode cX12_chosen 137 = .ok (.getfield 551, 3) := by decide +kernel
theorem dX12_chosen_140 : decode cX12_chosen 140 = .ok (.iload 6, 2) := by decide +kernel
theorem dX12_chosen_142 : decode cX12_chosen 142 = .ok (.iand, 1) := by decide +kernel
theorem dX12_chosen_143 : decode cX12_chosen 143 = .ok (.putfield 551, 3) := by decide +kernel
theorem dX12_chosen_146 : decode cX12_chosen 146 = .ok (.aload_n 0, 1) := by decide +kernel
theorem dX12_chosen_147 : decode cX12_chosen 147 = .ok (.dup, 1) := by decide +kernel
theorem dX12_chosen_148 : decode cX12_chosen 148 = .ok (.getfield 554, 3) := by decide +kernel
theorem dX12_chosen_151 : decode cX12_chosen 151 = .ok (.iload 7, 2) := by decide +kernel
theorem dX12_chosen_153 : decode cX12_chosen 153 = .ok (.iand, 1) := by decide +kernel
theorem dX12_chosen_154 : decode cX12_chosen 154 = .ok (.putfield 554, 3) := by decide +kernel
theorem dX12_chosen_157 : decode cX12_chosen 157 = .ok (.aload_n 0, 1) := by decide +kernel
theorem dX12_chosen_158 : decode cX12_chosen 158 = .ok (.aload_n 0, 1) := by decide +kernel
theorem dX12_chosen_159 : decode cX12_chosen 159 = .ok (.iload 5, 2) := by decide +kernel
theorem dX12_chosen_161 : decode cX12_chosen 161 = .ok (.iload 8, 2) := by decide +kernel
theorem dX12_chosen_163 : decode cX12_chosen 163 = .ok (.invokevirtual 603, 3) := by decide +kernel
theorem dX12_chosen_166 : decode cX12_chosen 166 = .ok (.bipush 11, 2) := by decide +kernel
theorem dX12_chosen_168 : decode cX12_chosen 168 = .ok (.aload_n 0, 1) := by decide +kernel
theorem dX12_chosen_169 : decode cX12_chosen 169 = .ok (.getfield 44, 3) := by decide +kernel
theorem dX12_chosen_172 : decode cX12_chosen 172 = .ok (.iload_n 1, 1) := by decide +kernel
theorem dX12_chosen_173 : decode cX12_chosen 173 = .ok (.iaload, 1) := by decide +kernel
theorem dX12_chosen_174 : decode cX12_chosen 174 = .ok (.invokevirtual 540, 3) := by decide +kernel
theorem dX12_chosen_177 : decode cX12_chosen 177 = .ok (.pop, 1) := by decide +kernel
theorem dX12_chosen_178 : decode cX12_chosen 178 = .ok (.aload_n 0, 1) := by decide +kernel
theorem dX12_chosen_179 : decode cX12_chosen 179 = .ok (.iload 5, 2) := by decide +kernel
theorem dX12_chosen_181 : decode cX12_chosen 181 = .ok (.iload 8, 2) := by decide +kernel
theorem dX12_chosen_183 : decode cX12_chosen 183 = .ok (.invokevirtual 534, 3) := by decide +kernel
theorem dX12_chosen_186 : decode cX12_chosen 186 = .ok (.ifCond .eq 8, 3) := by decide +kernel
theorem dX12_chosen_194 : decode cX12_chosen 194 = .ok (.iload 5, 2) := by decide +kernel
theorem dX12_chosen_196 : decode cX12_chosen 196 = .ok (.ireturn, 1) := by decide +kernel
theorem dX12_chosen_189 : decode cX12_chosen 189 = .ok (.iload 8, 2) := by decide +kernel
theorem dX12_chosen_191 : decode cX12_chosen 191 = .ok (.goto 5, 3) := by decide +kernel
theorem dX12_chosen_29 : decode cX12_chosen 29 = .ok (.iconst 1, 1) := by decide +kernel
theorem dX12_chosen_30 : decode cX12_chosen 30 = .ok (.goto 4, 3) := by decide +kernel
set_option maxHeartbeats 6000000 in
set_option maxRecDepth 100000 in
/-- chosen(n) -/
theorem L_chosen (l : Launch) (G : pT) (h0 : Nat) (a : Nat → Nat) (F : Nat → Int32) (B : Nat → Nat → Int32) (n9 : Nat) (z9 : Nat) (fa : Nat) (sc : Nat) (k9 : Nat) (nd : Nat) (T : Nat) (nm : Nat) (wr : Nat) (lz : Nat) (dc : Nat) (fd : Nat) (md : Nat) (pr : Nat) (bk : Nat) (gh : Nat → Nat → Nat) (dn : Int32) (wt : Int32) (wf : Int32) (nc : Nat → Int32) (ty : Nat → Int32) (mn : Nat → Int32) (vn : Nat → Int32) (vt : Nat → Int32) (hst : St B gh nd T nm wr lz dc fd md pr bk) (hnm : nd ≤ 12000 ∧ T ≤ 5000 ∧ wr ≤ 5000 ∧ 7 ≤ dc ∧ dc ≤ 37 ∧ fd ≤ 620 ∧ md ≤ 920 ∧ pr ≤ 5000) (hn9 : n9 < nd) (hz : gh 1 n9 < z9) (hfa : fa ≤ 15) (hsc : sc ≤ 30) (hk9 : 7 ≤ k9 ∧ k9 < dc) (hnc : ∀ i : Nat, i < nd → ¬ B 9 i = 44 → nc i = B 14 i) (hmn : mnN B nd mn) (hvt : ∀ i : Nat, i < sc → tyOK dc (vt i)) (hkd : B 9 n9 = nI 23) (ihA : PlookAt l G (z9 - 1)) : PM l G pX0 yX12_chosen cX12_chosen 9 (some .int) ({ frames := (4 * z9 + 9), cells := 0, slots := 0, locals := (160 * z9 + 1360) }) [.ref h0, .int (nI n9)] (mW G h0 a (upd (upd (upd (upd (upd (upd (upd (upd F 15 (nI fa)) 44 (nI fd)) 49 (nI md)) 73 (nI sc)) 74 (nI k9)) 77 dn) 78 wt) 79 wf) (updA (updA (updA (updA (updA B 14 nc) 17 ty) 18 mn) 48 vn) 49 vt)) (fun (v : Option Value) (u : Nat × Nat × Int32 × Int32 × Int32 × Int32 × (Nat → Int32) × (Nat → Int32)) => v = some (.int (nI u.1)) ∧ (fa ≤ u.2.1) ∧ (u.2.1 ≤ 15) ∧ (TyC dc u.1) ∧ (u.1 ≤ 2050) ∧ (ChE B nd n9 ty u.2.2.2.2.2.2.1 mn u.2.2.2.2.2.2.2) ∧ (mnN B nd u.2.2.2.2.2.2.2) ∧ (If (u.2.1 = 0) (Typ0 B dc fd md nd u.2.2.2.2.2.2.1 u.2.2.2.2.2.2.2 vt sc k9 n9 (nI u.1)))) (fun u => (mW G h0 a (upd (upd (upd (upd (upd (upd (upd (upd (upd F 15 (nI u.2.1)) 16 u.2.2.1) 44 (nI fd)) 49 (nI md)) 73 (nI sc)) 74 (nI k9)) 77 u.2.2.2.1) 78 u.2.2.2.2.1) 79 u.2.2.2.2.2.1) (updA (updA (updA (updA (updA B 14 nc) 17 u.2.2.2.2.2.2.1) 18 u.2.2.2.2.2.2.2) 48 vn) 49 vt))) := by
  intro sz
  refine Met.ofW (cc := cX12_chosen) (maxL := 9) (ret := (some .int)) (by decide) rfl ?_
  intro p e s m args below meth c s₁ B9 hml hv
  obtain ⟨rfl, hsz, hP, hD0, hE, hX⟩ := hv
  have hx := B9.exec
  have hb := B9.bytes
  have hr := B9.returns
  have hts := atoms_spec (ws := Cond.code yX12_chosen cX12_chosen 9 (some .int) :: pw) B9.pre
  have hq : ∀ w ∈ pw, w.before _ s = true := fun w h => hts w (List.mem_cons_of_mem _ h)
  have hown : s.vm.findClass RX12 = some m.cls := findClass_of_methodNamed B9.named
  have hlocks := B9.notSynchronized
  subst hsz
  have hD := hD0.self (sz := s.heap.size)
  have hA : ∀ q : Nat, s.heap.size ≤ q → va_A (mW G h0 a (upd (upd (upd (upd (upd (upd (upd (upd F 15 (nI fa)) 44 (nI fd)) 49 (nI md)) 73 (nI sc)) 74 (nI k9)) 77 dn) 78 wt) 79 wf) (updA (updA (updA (updA (updA B 14 nc) 17 ty) 18 mn) 48 vn) 49 vt)) s.heap.size q := fun q h => Or.inr h
  have hP : va_P G.1 pCl (mW G h0 a (upd (upd (upd (upd (upd (upd (upd (upd F 15 (nI fa)) 44 (nI fd)) 49 (nI md)) 73 (nI sc)) 74 (nI k9)) 77 dn) 78 wt) 79 wf) (updA (updA (updA (updA (updA B 14 nc) 17 ty) 18 mn) 48 vn) 49 vt)) s.heap := hP
  generalize va_A (mW G h0 a (upd (upd (upd (upd (upd (upd (upd (upd F 15 (nI fa)) 44 (nI fd)) 49 (nI md)) 73 (nI sc)) 74 (nI k9)) 77 dn) 78 wt) 79 wf) (updA (updA (updA (updA (updA B 14 nc) 17 ty) 18 mn) 48 vn) 49 vt)) s.heap.size = A at hD hE hA ⊢
  have hS : va_S A s.heap s.heap [] := va_S.rf
  have hl := lv_entry ([.ref h0, .int (nI n9)]) (n := 9) (Nat.le_of_ble_eq_true rfl)
  rw [lg_entry_eq]
  generalize (lg_sl ([.ref h0, .int (nI n9)]) ++ List.replicate (9 - (lg_sl ([.ref h0, .int (nI n9)])).length) Slot.unset).toArray = ls at hl ⊢
  have hl : lv_has ls 9 [(0, .ref h0), (1, .int (nI n9))] := hl
  have hF := hst.1
  have hPS := hst.2.1
  have hBI := hst.2.2.1
  have hRK := hst.2.2.2.1
  have hTY := hst.2.2.2.2.1
  have hNW := hst.2.2.2.2.2.1
  have hTK := hst.2.2.2.2.2.2
  refine lv_aload_n hx hb dX12_chosen_0 rfl (lv_at hl 0 rfl) ?_
  refine lv_aload_n hx hb dX12_chosen_1 rfl (lv_at hl 0 rfl) ?_
  refine r_get (v := .ref (a 12)) hx hb hown hq hE hP 20 47 tFX12_20 (by decide) pw_1442 rfl dX12_chosen_2 ?_
  refine lv_iload_n hx hb dX12_chosen_5 rfl (lv_at hl 1 rfl) ?_
  refine r_ldi (f := (B 12)) (j := n9) hx hb hE hP 12 (ma_12 G a _) rfl (by omega) (by decide) dX12_chosen_6 ?_
  obtain ⟨c1, e2, h3, hp4, h5, hc6, hh7, hg8⟩ := Fs2.kid (kk := 23) (s := 1) hF hn9 hkd (by decide) (by decide) (by decide) (by decide) (by omega)
  refine lv_topi (fun x9 e10 => ?_)
  obtain rfl : x9 = nI c1 := e10.trans e2
  have hP : va_P G.1 pCl (mW G h0 a (upd (upd (upd (upd (upd (upd (upd (upd (upd (upd (upd (upd (upd (upd (upd (upd F 15 (nI fa)) 44 (nI fd)) 49 (nI md)) 73 (nI sc)) 74 (nI k9)) 77 dn) 78 wt) 79 wf) 15 (nI fa)) 44 (nI fd)) 49 (nI md)) 73 (nI sc)) 74 (nI k9)) 77 dn) 78 wt) 79 wf) (updA (updA (updA (updA (updA B 14 nc) 17 ty) 18 mn) 48 vn) 49 vt)) _ := mW_to (F := F) (l1 := [(15, (nI fa)), (44, (nI fd)), (49, (nI md)), (73, (nI sc)), (74, (nI k9)), (77, dn), (78, wt), (79, wf)]) (l2 := [(15, (nI fa)), (44, (nI fd)), (49, (nI md)), (73, (nI sc)), (74, (nI k9)), (77, dn), (78, wt), (79, wf), (15, (nI fa)), (44, (nI fd)), (49, (nI md)), (73, (nI sc)), (74, (nI k9)), (77, dn), (78, wt), (79, wf)]) (V := [(nI fa), (nI fd), (nI md), (nI sc), (nI k9), dn, wt, wf, (nI fa), (nI fd), (nI md), (nI sc), (nI k9), dn, wt, wf, (nI fa), (nI fd), (nI md), (nI sc), (nI k9), dn, wt, wf]) rfl rfl rfl hP
  have hD : va_D A (mW G h0 a (upd (upd (upd (upd (upd (upd (upd (upd (upd (upd (upd (upd (upd (upd (upd (upd F 15 (nI fa)) 44 (nI fd)) 49 (nI md)) 73 (nI sc)) 74 (nI k9)) 77 dn) 78 wt) 79 wf) 15 (nI fa)) 44 (nI fd)) 49 (nI md)) 73 (nI sc)) 74 (nI k9)) 77 dn) 78 wt) 79 wf) (updA (updA (updA (updA (updA B 14 nc) 17 ty) 18 mn) 48 vn) 49 vt)) := mW_D hD
  refine pc_V0 (G := G) (As := [.int (nI c1)]) (rest := []) hx hb hml hown hq hE hX pX0_al hP hD hS hA hl.1 (ihA h0 a (upd (upd (upd (upd (upd (upd (upd (upd F 15 (nI fa)) 44 (nI fd)) 49 (nI md)) 73 (nI sc)) 74 (nI k9)) 77 dn) 78 wt) 79 wf) B c1 fa sc k9 nd T nm wr lz dc fd md pr bk gh dn wt wf nc ty mn vn vt hst hnm h3 (by omega) (by omega) (by omega) hk9 hnc hmn hvt (show kcl 1 _ = true from hc6)) (gV pw_1815 pw_1816 pw_1817 pw_1523 pw_1831) hV_X12_lookAt 0 9 rfl rfl rfl rfl (Nat.le_of_ble_eq_true rfl) dX12_chosen_7 ⟨Nat.le_of_ble_eq_true rfl, Nat.le_of_ble_eq_true rfl⟩ ⟨(by show (4 * (z9 - 1) + 10) + 1 ≤ (4 * z9 + 9); omega), (by show 8 + (3 + 11) + (160 * (z9 - 1) + 1400) ≤ (160 * z9 + 1360); omega)⟩ (fun v13 u11 H locs hw12 hP hD hS => ?_)
  obtain ⟨r14, fa15, pl16, dn17, wt18, wf19, ty20, mn21⟩ := u11
  obtain ⟨hw12, h22, h23, h24, h25, h26, h27, h28⟩ := hw12
  replace h22 : fa ≤ fa15 := h22
  replace h23 : fa15 ≤ 15 := h23
  replace h24 : TyC dc r14 := h24
  replace h25 : r14 ≤ 2050 := h25
  replace h26 : ChE B nd c1 ty ty20 mn mn21 := h26
  replace h27 : mnN B nd mn21 := h27
  replace h28 : If (fa15 = 0) (Typ0 B dc fd md nd ty20 mn21 vt sc k9 c1 (nI r14)) := h28
  obtain rfl : v13 = some (.int (nI r14)) := hw12
  have hP : va_P G.1 pCl (mW G h0 a (upd (upd (upd (upd (upd (upd (upd (upd (upd F 15 (nI fa15)) 16 pl16) 44 (nI fd)) 49 (nI md)) 73 (nI sc)) 74 (nI k9)) 77 dn17) 78 wt18) 79 wf19) (updA (updA (updA (updA (updA B 14 nc) 17 ty20) 18 mn21) 48 vn) 49 vt)) _ := mW_to (F := F) (l1 := [(15, (nI fa)), (44, (nI fd)), (49, (nI md)), (73, (nI sc)), (74, (nI k9)), (77, dn), (78, wt), (79, wf), (15, (nI fa15)), (16, pl16), (44, (nI fd)), (49, (nI md)), (73, (nI sc)), (74, (nI k9)), (77, dn17), (78, wt18), (79, wf19)]) (l2 := [(15, (nI fa15)), (16, pl16), (44, (nI fd)), (49, (nI md)), (73, (nI sc)), (74, (nI k9)), (77, dn17), (78, wt18), (79, wf19)]) (V := [(nI fa15), (nI fd), (nI md), (nI sc), (nI k9), dn17, wt18, wf19, (nI fa15), pl16, (nI fd), (nI md), (nI sc), (nI k9), dn17, wt18, wf19, (nI fa15), pl16, (nI fd), (nI md), (nI sc), (nI k9), dn17, wt18, wf19]) rfl rfl rfl hP
  have hD : va_D A (mW G h0 a (upd (upd (upd (upd (upd (upd (upd (upd (upd F 15 (nI fa15)) 16 pl16) 44 (nI fd)) 49 (nI md)) 73 (nI sc)) 74 (nI k9)) 77 dn17) 78 wt18) 79 wf19) (updA (updA (updA (updA (updA B 14 nc) 17 ty20) 18 mn21) 48 vn) 49 vt)) := mW_D hD
  refine W.widen (k := 0) (n := 0) (Nat.le_of_ble_eq_true rfl) (Nat.le_of_ble_eq_true rfl) ?_
  refine W.eq (g2 := F0 m 10 ls [.int (nI r14)]) rfl ?_
  have hch29 : ChE B nd n9 ty ty20 mn mn21 := (ChE.trans ChE.rfl (ChE.kid h26 (by omega) hp4))
  refine lv_istore_n (lv' := [(2, .int (nI r14)), (0, .ref h0), (1, .int (nI n9))]) hx hb dX12_chosen_10 rfl hl (by decide) rfl (fun ls hl => ?_)
  refine lv_aload_n hx hb dX12_chosen_11 rfl (lv_at hl 1 rfl) ?_
  refine r_get (v := .ref (a 17)) hx hb hown hq hE hP 25 62 tFX12_25 (by decide) pw_1447 rfl dX12_chosen_12 ?_
  refine lv_aload_n hx hb dX12_chosen_15 rfl (lv_at hl 1 rfl) ?_
  refine r_get (v := .ref (a 12)) hx hb hown hq hE hP 20 47 tFX12_20 (by decide) pw_1442 rfl dX12_chosen_16 ?_
  refine lv_iload_n hx hb dX12_chosen_19 rfl (lv_at hl 2 rfl) ?_
  refine r_ldi (f := (B 12)) (j := n9) hx hb hE hP 12 (ma_12 G a _) rfl (by omega) (by decide) dX12_chosen_20 ?_
  refine lv_topi (fun x30 e31 => ?_)
  obtain rfl : x30 = nI c1 := e31.trans e2
  refine lv_iload_n hx hb dX12_chosen_21 rfl (lv_at hl 0 rfl) ?_
  refine r_sti (f := ty20) (j := c1) hx hb hE hP hD hS 17 (ma_17 G a _) rfl (mas_17 G a _) (by omega) (by decide) dX12_chosen_22 (fun H locs hP hD hS => ?_)
  have hch32 : ChE B nd c1 ty20 (upd ty20 c1 (nI r14)) mn21 mn21 := (ChE.setT sub.rfl)
  have hch33 : ChE B nd n9 ty (upd ty20 c1 (nI r14)) mn mn21 := (ChE.trans hch29 (ChE.kid hch32 (by omega) hp4))
  have hy34 : If (fa15 = 0) (Typ B dc fd md nd (upd ty20 c1 (nI r14)) mn21 vt sc k9 c1) := (fun e => Typ0.st hF (by omega) h3 (h28 e))
  have ht35 : (upd ty20 c1 (nI r14)) c1 = nI r14 := upd_eq
  refine lv_aload_n hx hb dX12_chosen_23 rfl (lv_at hl 1 rfl) ?_
  refine lv_iload_n hx hb dX12_chosen_24 rfl (lv_at hl 0 rfl) ?_
  refine lv_iconst (v := 2) hx hb dX12_chosen_25 (by decide) ?_
  refine lv_icmp_ne (tgt := 33) hx hb dX12_chosen_26 (by decide) (fun c36 => ?_) (fun c36 => ?_)
  · have n37 : ¬ (r14 = 2) := fun h9 => c36 ((nI_eq (a := r14) (b := 2) (by omega) (by omega)).mpr h9)
    refine lv_iconst (v := 0) hx hb dX12_chosen_33 (by decide) ?_
    refine lv_bipush (v := 11) hx hb dX12_chosen_34 (by decide) ?_
    refine lv_aload_n hx hb dX12_chosen_36 rfl (lv_at hl 1 rfl) ?_
    refine r_get (v := .ref (a 10)) hx hb hown hq hE hP 18 41 tFX12_18 (by decide) pw_1440 rfl dX12_chosen_37 ?_
    refine lv_aload_n hx hb dX12_chosen_40 rfl (lv_at hl 1 rfl) ?_
    refine r_get (v := .ref (a 12)) hx hb hown hq hE hP 20 47 tFX12_20 (by decide) pw_1442 rfl dX12_chosen_41 ?_
    refine lv_iload_n hx hb dX12_chosen_44 rfl (lv_at hl 2 rfl) ?_
    refine r_ldi (f := (B 12)) (j := n9) hx hb hE hP 12 (ma_12 G a _) rfl (by omega) (by decide) dX12_chosen_45 ?_
    refine lv_topi (fun x38 e39 => ?_)
    obtain rfl : x38 = nI c1 := e39.trans e2
    refine r_ldi (f := (B 10)) (j := c1) hx hb hE hP 10 (ma_10 G a _) rfl (by omega) (by decide) dX12_chosen_46 ?_
    obtain ⟨⟨t40, e41, h42⟩, -⟩ := hF c1 h3
    refine lv_topi (fun x43 e44 => ?_)
    obtain rfl : x43 = nI t40 := e44.trans e41
    have hP : va_P G.1 pCl (mW G h0 a (upd (upd (upd (upd (upd (upd (upd (upd (upd (upd F 15 (nI fa15)) 16 pl16) 44 (nI fd)) 49 (nI md)) 73 (nI sc)) 74 (nI k9)) 77 dn17) 78 wt18) 79 wf19) 15 (nI fa15)) (updA (updA (updA (updA (updA B 14 nc) 17 (upd ty20 c1 (nI r14))) 18 mn21) 48 vn) 49 vt)) _ := mW_to (F := F) (l1 := [(15, (nI fa15)), (16, pl16), (44, (nI fd)), (49, (nI md)), (73, (nI sc)), (74, (nI k9)), (77, dn17), (78, wt18), (79, wf19)]) (l2 := [(15, (nI fa15)), (16, pl16), (44, (nI fd)), (49, (nI md)), (73, (nI sc)), (74, (nI k9)), (77, dn17), (78, wt18), (79, wf19), (15, (nI fa15))]) (V := [(nI fa15), pl16, (nI fd), (nI md), (nI sc), (nI k9), dn17, wt18, wf19, (nI fa15), pl16, (nI fd), (nI md), (nI sc), (nI k9), dn17, wt18, wf19, (nI fa15)]) rfl rfl (show (updA (updA (updA (updA (updA (updA B 14 nc) 17 ty20) 18 mn21) 48 vn) 49 vt) 17 (upd ty20 c1 (nI r14))) = (updA (updA (updA (updA (updA B 14 nc) 17 (upd ty20 c1 (nI r14))) 18 mn21) 48 vn) 49 vt) from updsA_eq2 (F := B) (l1 := [(14, nc), (17, ty20), (18, mn21), (48, vn), (49, vt), (17, (upd ty20 c1 (nI r14)))]) (l2 := [(14, nc), (17, (upd ty20 c1 (nI r14))), (18, mn21), (48, vn), (49, vt)]) (V := [nc, (upd ty20 c1 (nI r14)), mn21, vn, vt, (upd ty20 c1 (nI r14)), nc, (upd ty20 c1 (nI r14)), mn21, vn, vt]) rfl rfl) hP
    have hD : va_D A (mW G h0 a (upd (upd (upd (upd (upd (upd (upd (upd (upd (upd F 15 (nI fa15)) 16 pl16) 44 (nI fd)) 49 (nI md)) 73 (nI sc)) 74 (nI k9)) 77 dn17) 78 wt18) 79 wf19) 15 (nI fa15)) (updA (updA (updA (updA (updA B 14 nc) 17 (upd ty20 c1 (nI r14))) 18 mn21) 48 vn) 49 vt)) := mW_D hD
    refine pc_V0 (G := G) (As := [.int (nI 0), .int (nI 11), .int (nI t40)]) (rest := []) hx hb hml hown hq hE hX pX0_al hP hD hS hA hl.1 (R_judgeL l G h0 a (upd (upd (upd (upd (upd (upd (upd (upd (upd F 15 (nI fa15)) 16 pl16) 44 (nI fd)) 49 (nI md)) 73 (nI sc)) 74 (nI k9)) 77 dn17) 78 wt18) 79 wf19) (updA (updA (updA (updA (updA B 14 nc) 17 (upd ty20 c1 (nI r14))) 18 mn21) 48 vn) 49 vt) 0 11 t40 fa15 (by omega) (by omega) (by omega) (by omega)) (gV pw_1798 pw_1799 pw_1800 pw_1523 pw_1793) hV_X12_judge 0 9 rfl rfl rfl rfl (Nat.le_of_ble_eq_true rfl) dX12_chosen_47 ⟨Nat.le_of_ble_eq_true rfl, Nat.le_of_ble_eq_true rfl⟩ ⟨(by show 3 + 1 ≤ (4 * z9 + 9); omega), (by show 8 + (4 + 11) + 82 ≤ (160 * z9 + 1360); omega)⟩ (fun v47 u45 H locs hw46 hP hD hS => ?_)
    obtain ⟨r48, fa49, pl50⟩ := u45
    obtain ⟨hw46, h51, h52, h53, h54, h55, h56, h57⟩ := hw46
    replace h51 : r48 ≤ 1 := h51
    replace h52 : fa15 ≤ fa49 := h52
    replace h53 : fa49 ≤ 15 := h53
    replace h54 : fa49 + 15 * r48 ≤ 15 := h54
    replace h55 : 1 ≤ r48 + fa49 := h55
    replace h56 : 1 ≤ 0 + fa49 := h56
    replace h57 : fa49 ≤ fa15 + 15 * (1 - 0) := h57
    obtain rfl : v47 = some (.int (nI r48)) := hw46
    have hP : va_P G.1 pCl (mW G h0 a (upd (upd (upd (upd (upd (upd (upd (upd (upd F 15 (nI fa49)) 16 pl50) 44 (nI fd)) 49 (nI md)) 73 (nI sc)) 74 (nI k9)) 77 dn17) 78 wt18) 79 wf19) (updA (updA (updA (updA (updA B 14 nc) 17 (upd ty20 c1 (nI r14))) 18 mn21) 48 vn) 49 vt)) _ := mW_to (F := F) (l1 := [(15, (nI fa15)), (16, pl16), (44, (nI fd)), (49, (nI md)), (73, (nI sc)), (74, (nI k9)), (77, dn17), (78, wt18), (79, wf19), (15, (nI fa49)), (16, pl50)]) (l2 := [(15, (nI fa49)), (16, pl50), (44, (nI fd)), (49, (nI md)), (73, (nI sc)), (74, (nI k9)), (77, dn17), (78, wt18), (79, wf19)]) (V := [(nI fa49), pl50, (nI fd), (nI md), (nI sc), (nI k9), dn17, wt18, wf19, (nI fa49), pl50, (nI fa49), pl50, (nI fd), (nI md), (nI sc), (nI k9), dn17, wt18, wf19]) rfl rfl rfl hP
    have hD : va_D A (mW G h0 a (upd (upd (upd (upd (upd (upd (upd (upd (upd F 15 (nI fa49)) 16 pl50) 44 (nI fd)) 49 (nI md)) 73 (nI sc)) 74 (nI k9)) 77 dn17) 78 wt18) 79 wf19) (updA (updA (updA (updA (updA B 14 nc) 17 (upd ty20 c1 (nI r14))) 18 mn21) 48 vn) 49 vt)) := mW_D hD
    refine W.widen (k := 0) (n := 0) (Nat.le_of_ble_eq_true rfl) (Nat.le_of_ble_eq_true rfl) ?_
    refine W.eq (g2 := F0 m 50 ls [.int (nI r48)]) rfl ?_
    refine lv_pop hx hb dX12_chosen_50 rfl ?_
    refine lv_aload_n hx hb dX12_chosen_51 rfl (lv_at hl 1 rfl) ?_
    refine r_get (v := .int wt18) hx hb hown hq hE hP 78 551 tFX12_78 (by decide) pw_1805 rfl dX12_chosen_52 ?_
    refine lv_istore_n (lv' := [(3, .int wt18), (2, .int (nI r14)), (0, .ref h0), (1, .int (nI n9))]) hx hb dX12_chosen_55 rfl hl (by decide) rfl (fun ls hl => ?_)
    refine lv_aload_n hx hb dX12_chosen_56 rfl (lv_at hl 2 rfl) ?_
    refine r_get (v := .int wf19) hx hb hown hq hE hP 79 554 tFX12_79 (by decide) pw_1806 rfl dX12_chosen_57 ?_
    refine lv_istore (lv' := [(4, .int wf19), (3, .int wt18), (2, .int (nI r14)), (0, .ref h0), (1, .int (nI n9))]) hx hb dX12_chosen_60 hl (by decide) rfl (fun ls hl => ?_)
    refine lv_aload_n hx hb dX12_chosen_62 rfl (lv_at hl 3 rfl) ?_
    refine lv_iload_n hx hb dX12_chosen_63 rfl (lv_at hl 1 rfl) ?_
    refine r_put (v := wt18) (ty := .int) hx hb hown hq hE hP hD hS 77 544 tFX12_77 (by decide) pw_1796 (by decide) rfl rfl (ms_77 a _ _) dX12_chosen_64 (fun H locs hP hD hS => ?_)
    refine lv_aload_n hx hb dX12_chosen_67 rfl (lv_at hl 3 rfl) ?_
    refine lv_aload_n hx hb dX12_chosen_68 rfl (lv_at hl 3 rfl) ?_
    refine r_get (v := .ref (a 13)) hx hb hown hq hE hP 21 50 tFX12_21 (by decide) pw_1443 rfl dX12_chosen_69 ?_
    refine lv_iload_n hx hb dX12_chosen_72 rfl (lv_at hl 4 rfl) ?_
    refine r_ldi (f := (B 13)) (j := n9) hx hb hE hP 13 (ma_13 G a _) rfl (by omega) (by decide) dX12_chosen_73 ?_
    obtain ⟨c58, e59, h60, hp61, h62, hc63, hh64, hg65⟩ := Fs2.kid (kk := 23) (s := 2) hF hn9 hkd (by decide) (by decide) (by decide) (by decide) (by omega)
    refine lv_topi (fun x66 e67 => ?_)
    obtain rfl : x66 = nI c58 := e67.trans e59
    have hP : va_P G.1 pCl (mW G h0 a (upd (upd (upd (upd (upd (upd (upd (upd (upd (upd (upd (upd (upd (upd (upd (upd (upd F 15 (nI fa49)) 16 pl50) 44 (nI fd)) 49 (nI md)) 73 (nI sc)) 74 (nI k9)) 77 wt18) 78 wt18) 79 wf19) 15 (nI fa49)) 44 (nI fd)) 49 (nI md)) 73 (nI sc)) 74 (nI k9)) 77 wt18) 78 wt18) 79 wf19) (updA (updA (updA (updA (updA B 14 nc) 17 (upd ty20 c1 (nI r14))) 18 mn21) 48 vn) 49 vt)) _ := mW_to (F := F) (l1 := [(15, (nI fa49)), (16, pl50), (44, (nI fd)), (49, (nI md)), (73, (nI sc)), (74, (nI k9)), (77, dn17), (78, wt18), (79, wf19), (77, wt18)]) (l2 := [(15, (nI fa49)), (16, pl50), (44, (nI fd)), (49, (nI md)), (73, (nI sc)), (74, (nI k9)), (77, wt18), (78, wt18), (79, wf19), (15, (nI fa49)), (44, (nI fd)), (49, (nI md)), (73, (nI sc)), (74, (nI k9)), (77, wt18), (78, wt18), (79, wf19)]) (V := [(nI fa49), pl50, (nI fd), (nI md), (nI sc), (nI k9), wt18, wt18, wf19, wt18, (nI fa49), pl50, (nI fd), (nI md), (nI sc), (nI k9), wt18, wt18, wf19, (nI fa49), (nI fd), (nI md), (nI sc), (nI k9), wt18, wt18, wf19]) rfl rfl rfl hP
    have hD : va_D A (mW G h0 a (upd (upd (upd (upd (upd (upd (upd (upd (upd (upd (upd (upd (upd (upd (upd (upd (upd F 15 (nI fa49)) 16 pl50) 44 (nI fd)) 49 (nI md)) 73 (nI sc)) 74 (nI k9)) 77 wt18) 78 wt18) 79 wf19) 15 (nI fa49)) 44 (nI fd)) 49 (nI md)) 73 (nI sc)) 74 (nI k9)) 77 wt18) 78 wt18) 79 wf19) (updA (updA (updA (updA (updA B 14 nc) 17 (upd ty20 c1 (nI r14))) 18 mn21) 48 vn) 49 vt)) := mW_D hD
    refine pc_V0 (G := G) (As := [.int (nI c58)]) (rest := []) hx hb hml hown hq hE hX pX0_al hP hD hS hA hl.1 (ihA h0 a (upd (upd (upd (upd (upd (upd (upd (upd (upd F 15 (nI fa49)) 16 pl50) 44 (nI fd)) 49 (nI md)) 73 (nI sc)) 74 (nI k9)) 77 wt18) 78 wt18) 79 wf19) B c58 fa49 sc k9 nd T nm wr lz dc fd md pr bk gh wt18 wt18 wf19 nc (upd ty20 c1 (nI r14)) mn21 vn vt hst hnm h60 (by omega) (by omega) (by omega) hk9 hnc h27 hvt (show kcl 1 _ = true from hc63)) (gV pw_1815 pw_1816 pw_1817 pw_1523 pw_1831) hV_X12_lookAt 0 9 rfl rfl rfl rfl (Nat.le_of_ble_eq_true rfl) dX12_chosen_74 ⟨Nat.le_of_ble_eq_true rfl, Nat.le_of_ble_eq_true rfl⟩ ⟨(by show (4 * (z9 - 1) + 10) + 1 ≤ (4 * z9 + 9); omega), (by show 8 + (3 + 11) + (160 * (z9 - 1) + 1400) ≤ (160 * z9 + 1360); omega)⟩ (fun v70 u68 H locs hw69 hP hD hS => ?_)
    obtain ⟨r71, fa72, pl73, dn74, wt75, wf76, ty77, mn78⟩ := u68
    obtain ⟨hw69, h79, h80, h81, h82, h83, h84, h85⟩ := hw69
    replace h79 : fa49 ≤ fa72 := h79
    replace h80 : fa72 ≤ 15 := h80
    replace h81 : TyC dc r71 := h81
    replace h82 : r71 ≤ 2050 := h82
    replace h83 : ChE B nd c58 (upd ty20 c1 (nI r14)) ty77 mn21 mn78 := h83
    replace h84 : mnN B nd mn78 := h84
    replace h85 : If (fa72 = 0) (Typ0 B dc fd md nd ty77 mn78 vt sc k9 c58 (nI r71)) := h85
    obtain rfl : v70 = some (.int (nI r71)) := hw69
    have hP : va_P G.1 pCl (mW G h0 a (upd (upd (upd (upd (upd (upd (upd (upd (upd F 15 (nI fa72)) 16 pl73) 44 (nI fd)) 49 (nI md)) 73 (nI sc)) 74 (nI k9)) 77 dn74) 78 wt75) 79 wf76) (updA (updA (updA (updA (updA B 14 nc) 17 ty77) 18 mn78) 48 vn) 49 vt)) _ := mW_to (F := F) (l1 := [(15, (nI fa49)), (16, pl50), (44, (nI fd)), (49, (nI md)), (73, (nI sc)), (74, (nI k9)), (77, wt18), (78, wt18), (79, wf19), (15, (nI fa72)), (16, pl73), (44, (nI fd)), (49, (nI md)), (73, (nI sc)), (74, (nI k9)), (77, dn74), (78, wt75), (79, wf76)]) (l2 := [(15, (nI fa72)), (16, pl73), (44, (nI fd)), (49, (nI md)), (73, (nI sc)), (74, (nI k9)), (77, dn74), (78, wt75), (79, wf76)]) (V := [(nI fa72), pl73, (nI fd), (nI md), (nI sc), (nI k9), dn74, wt75, wf76, (nI fa72), pl73, (nI fd), (nI md), (nI sc), (nI k9), dn74, wt75, wf76, (nI fa72), pl73, (nI fd), (nI md), (nI sc), (nI k9), dn74, wt75, wf76]) rfl rfl rfl hP
    have hD : va_D A (mW G h0 a (upd (upd (upd (upd (upd (upd (upd (upd (upd F 15 (nI fa72)) 16 pl73) 44 (nI fd)) 49 (nI md)) 73 (nI sc)) 74 (nI k9)) 77 dn74) 78 wt75) 79 wf76) (updA (updA (updA (updA (updA B 14 nc) 17 ty77) 18 mn78) 48 vn) 49 vt)) := mW_D hD
    refine W.widen (k := 0) (n := 0) (Nat.le_of_ble_eq_true rfl) (Nat.le_of_ble_eq_true rfl) ?_
    refine W.eq (g2 := F0 m 77 ls [.int (nI r71)]) rfl ?_
    have hch86 : ChE B nd n9 ty ty77 mn mn78 := (ChE.trans hch33 (ChE.kid h83 (by omega) hp61))
    have hy87 : If (fa15 = 0) (Typ B dc fd md nd ty77 mn78 vt sc k9 c1) := (fun e => Typ.beside hF (by omega) hn9 (hy34 e) h3 h60 hp4 hp61 (fun e => by have z := hg8; rw [e] at z; have := hg65; omega) h83)
    have ht88 : ty77 c1 = nI r14 := ((ChE.at hF (by omega) hn9 h3 h60 hp4 hp61 (fun e => by have z := hg8; rw [e] at z; have := hg65; omega) h83).trans ht35)
    refine lv_istore (lv' := [(5, .int (nI r71)), (4, .int wf19), (3, .int wt18), (2, .int (nI r14)), (0, .ref h0), (1, .int (nI n9))]) hx hb dX12_chosen_77 hl (by decide) rfl (fun ls hl => ?_)
    refine lv_aload_n hx hb dX12_chosen_79 rfl (lv_at hl 4 rfl) ?_
    refine r_get (v := .ref (a 17)) hx hb hown hq hE hP 25 62 tFX12_25 (by decide) pw_1447 rfl dX12_chosen_80 ?_
    refine lv_aload_n hx hb dX12_chosen_83 rfl (lv_at hl 4 rfl) ?_
    refine r_get (v := .ref (a 13)) hx hb hown hq hE hP 21 50 tFX12_21 (by decide) pw_1443 rfl dX12_chosen_84 ?_
    refine lv_iload_n hx hb dX12_chosen_87 rfl (lv_at hl 5 rfl) ?_
    refine r_ldi (f := (B 13)) (j := n9) hx hb hE hP 13 (ma_13 G a _) rfl (by omega) (by decide) dX12_chosen_88 ?_
    refine lv_topi (fun x89 e90 => ?_)
    obtain rfl : x89 = nI c58 := e90.trans e59
    refine lv_iload hx hb dX12_chosen_89 (lv_at hl 0 rfl) ?_
    refine r_sti (f := ty77) (j := c58) hx hb hE hP hD hS 17 (ma_17 G a _) rfl (mas_17 G a _) (by omega) (by decide) dX12_chosen_91 (fun H locs hP hD hS => ?_)
    have hch91 : ChE B nd c58 ty77 (upd ty77 c58 (nI r71)) mn78 mn78 := (ChE.setT sub.rfl)
    have hch92 : ChE B nd n9 ty (upd ty77 c58 (nI r71)) mn mn78 := (ChE.trans hch86 (ChE.kid hch91 (by omega) hp61))
    have hy93 : If (fa15 = 0) (Typ B dc fd md nd (upd ty77 c58 (nI r71)) mn78 vt sc k9 c1) := (fun e => Typ.beside hF (by omega) hn9 (hy87 e) h3 h60 hp4 hp61 (fun e => by have z := hg8; rw [e] at z; have := hg65; omega) hch91)
    have ht94 : (upd ty77 c58 (nI r71)) c1 = nI r14 := ((ChE.at hF (by omega) hn9 h3 h60 hp4 hp61 (fun e => by have z := hg8; rw [e] at z; have := hg65; omega) hch91).trans ht88)
    have hy95 : If (fa72 = 0) (Typ B dc fd md nd (upd ty77 c58 (nI r71)) mn78 vt sc k9 c58) := (fun e => Typ0.st hF (by omega) h60 (h85 e))
    have ht96 : (upd ty77 c58 (nI r71)) c58 = nI r71 := upd_eq
    refine lv_aload_n hx hb dX12_chosen_92 rfl (lv_at hl 4 rfl) ?_
    refine r_get (v := .int wt75) hx hb hown hq hE hP 78 551 tFX12_78 (by decide) pw_1805 rfl dX12_chosen_93 ?_
    refine lv_istore (lv' := [(6, .int wt75), (5, .int (nI r71)), (4, .int wf19), (3, .int wt18), (2, .int (nI r14)), (0, .ref h0), (1, .int (nI n9))]) hx hb dX12_chosen_96 hl (by decide) rfl (fun ls hl => ?_)
    refine lv_aload_n hx hb dX12_chosen_98 rfl (lv_at hl 5 rfl) ?_
    refine r_get (v := .int wf76) hx hb hown hq hE hP 79 554 tFX12_79 (by decide) pw_1806 rfl dX12_chosen_99 ?_
    refine lv_istore (lv' := [(7, .int wf76), (6, .int wt75), (5, .int (nI r71)), (4, .int wf19), (3, .int wt18), (2, .int (nI r14)), (0, .ref h0), (1, .int (nI n9))]) hx hb dX12_chosen_102 hl (by decide) rfl (fun ls hl => ?_)
    refine lv_aload_n hx hb dX12_chosen_104 rfl (lv_at hl 6 rfl) ?_
    refine lv_iload hx hb dX12_chosen_105 (lv_at hl 3 rfl) ?_
    refine r_put (v := wf19) (ty := .int) hx hb hown hq hE hP hD hS 77 544 tFX12_77 (by decide) pw_1796 (by decide) rfl rfl (ms_77 a _ _) dX12_chosen_107 (fun H locs hP hD hS => ?_)
    refine lv_aload_n hx hb dX12_chosen_110 rfl (lv_at hl 6 rfl) ?_
    refine lv_aload_n hx hb dX12_chosen_111 rfl (lv_at hl 6 rfl) ?_
    refine r_get (v := .ref (a 14)) hx hb hown hq hE hP 22 53 tFX12_22 (by decide) pw_1444 rfl dX12_chosen_112 ?_
    refine lv_iload_n hx hb dX12_chosen_115 rfl (lv_at hl 7 rfl) ?_
    refine r_ldi (f := nc) (j := n9) hx hb hE hP 14 (ma_14 G a _) rfl (by omega) (by decide) dX12_chosen_116 ?_
    obtain ⟨c97, e98, h99, hp100, h101, hc102, hh103, hg104⟩ := Fs2.kid (kk := 23) (s := 3) hF hn9 hkd (by decide) (by decide) (by decide) (by decide) (by omega)
    refine lv_topi (fun x105 e106 => ?_)
    obtain rfl : x105 = nI c97 := e106.trans ((hnc n9 hn9 (by rw [hkd]; decide)).trans e98)
    have hP : va_P G.1 pCl (mW G h0 a (upd (upd (upd (upd (upd (upd (upd (upd (upd (upd (upd (upd (upd (upd (upd (upd (upd F 15 (nI fa72)) 16 pl73) 44 (nI fd)) 49 (nI md)) 73 (nI sc)) 74 (nI k9)) 77 wf19) 78 wt75) 79 wf76) 15 (nI fa72)) 44 (nI fd)) 49 (nI md)) 73 (nI sc)) 74 (nI k9)) 77 wf19) 78 wt75) 79 wf76) (updA (updA (updA (updA (updA B 14 nc) 17 (upd ty77 c58 (nI r71))) 18 mn78) 48 vn) 49 vt)) _ := mW_to (F := F) (l1 := [(15, (nI fa72)), (16, pl73), (44, (nI fd)), (49, (nI md)), (73, (nI sc)), (74, (nI k9)), (77, dn74), (78, wt75), (79, wf76), (77, wf19)]) (l2 := [(15, (nI fa72)), (16, pl73), (44, (nI fd)), (49, (nI md)), (73, (nI sc)), (74, (nI k9)), (77, wf19), (78, wt75), (79, wf76), (15, (nI fa72)), (44, (nI fd)), (49, (nI md)), (73, (nI sc)), (74, (nI k9)), (77, wf19), (78, wt75), (79, wf76)]) (V := [(nI fa72), pl73, (nI fd), (nI md), (nI sc), (nI k9), wf19, wt75, wf76, wf19, (nI fa72), pl73, (nI fd), (nI md), (nI sc), (nI k9), wf19, wt75, wf76, (nI fa72), (nI fd), (nI md), (nI sc), (nI k9), wf19, wt75, wf76]) rfl rfl (show (updA (updA (updA (updA (updA (updA B 14 nc) 17 ty77) 18 mn78) 48 vn) 49 vt) 17 (upd ty77 c58 (nI r71))) = (updA (updA (updA (updA (updA B 14 nc) 17 (upd ty77 c58 (nI r71))) 18 mn78) 48 vn) 49 vt) from updsA_eq2 (F := B) (l1 := [(14, nc), (17, ty77), (18, mn78), (48, vn), (49, vt), (17, (upd ty77 c58 (nI r71)))]) (l2 := [(14, nc), (17, (upd ty77 c58 (nI r71))), (18, mn78), (48, vn), (49, vt)]) (V := [nc, (upd ty77 c58 (nI r71)), mn78, vn, vt, (upd ty77 c58 (nI r71)), nc, (upd ty77 c58 (nI r71)), mn78, vn, vt]) rfl rfl) hP
    have hD : va_D A (mW G h0 a (upd (upd (upd (upd (upd (upd (upd (upd (upd (upd (upd (upd (upd (upd (upd (upd (upd F 15 (nI fa72)) 16 pl73) 44 (nI fd)) 49 (nI md)) 73 (nI sc)) 74 (nI k9)) 77 wf19) 78 wt75) 79 wf76) 15 (nI fa72)) 44 (nI fd)) 49 (nI md)) 73 (nI sc)) 74 (nI k9)) 77 wf19) 78 wt75) 79 wf76) (updA (updA (updA (updA (updA B 14 nc) 17 (upd ty77 c58 (nI r71))) 18 mn78) 48 vn) 49 vt)) := mW_D hD
    refine pc_V0 (G := G) (As := [.int (nI c97)]) (rest := []) hx hb hml hown hq hE hX pX0_al hP hD hS hA hl.1 (ihA h0 a (upd (upd (upd (upd (upd (upd (upd (upd (upd F 15 (nI fa72)) 16 pl73) 44 (nI fd)) 49 (nI md)) 73 (nI sc)) 74 (nI k9)) 77 wf19) 78 wt75) 79 wf76) B c97 fa72 sc k9 nd T nm wr lz dc fd md pr bk gh wf19 wt75 wf76 nc (upd ty77 c58 (nI r71)) mn78 vn vt hst hnm h99 (by omega) (by omega) (by omega) hk9 hnc h84 hvt (show kcl 1 _ = true from hc102)) (gV pw_1815 pw_1816 pw_1817 pw_1523 pw_1831) hV_X12_lookAt 0 9 rfl rfl rfl rfl (Nat.le_of_ble_eq_true rfl) dX12_chosen_117 ⟨Nat.le_of_ble_eq_true rfl, Nat.le_of_ble_eq_true rfl⟩ ⟨(by show (4 * (z9 - 1) + 10) + 1 ≤ (4 * z9 + 9); omega), (by show 8 + (3 + 11) + (160 * (z9 - 1) + 1400) ≤ (160 * z9 + 1360); omega)⟩ (fun v109 u107 H locs hw108 hP hD hS => ?_)
    obtain ⟨r110, fa111, pl112, dn113, wt114, wf115, ty116, mn117⟩ := u107
    obtain ⟨hw108, h118, h119, h120, h121, h122, h123, h124⟩ := hw108
    replace h118 : fa72 ≤ fa111 := h118
    replace h119 : fa111 ≤ 15 := h119
    replace h120 : TyC dc r110 := h120
    replace h121 : r110 ≤ 2050 := h121
    replace h122 : ChE B nd c97 (upd ty77 c58 (nI r71)) ty116 mn78 mn117 := h122
    replace h123 : mnN B nd mn117 := h123
    replace h124 : If (fa111 = 0) (Typ0 B dc fd md nd ty116 mn117 vt sc k9 c97 (nI r110)) := h124
    obtain rfl : v109 = some (.int (nI r110)) := hw108
    have hP : va_P G.1 pCl (mW G h0 a (upd (upd (upd (upd (upd (upd (upd (upd (upd F 15 (nI fa111)) 16 pl112) 44 (nI fd)) 49 (nI md)) 73 (nI sc)) 74 (nI k9)) 77 dn113) 78 wt114) 79 wf115) (updA (updA (updA (updA (updA B 14 nc) 17 ty116) 18 mn117) 48 vn) 49 vt)) _ := mW_to (F := F) (l1 := [(15, (nI fa72)), (16, pl73), (44, (nI fd)), (49, (nI md)), (73, (nI sc)), (74, (nI k9)), (77, wf19), (78, wt75), (79, wf76), (15, (nI fa111)), (16, pl112), (44, (nI fd)), (49, (nI md)), (73, (nI sc)), (74, (nI k9)), (77, dn113), (78, wt114), (79, wf115)]) (l2 := [(15, (nI fa111)), (16, pl112), (44, (nI fd)), (49, (nI md)), (73, (nI sc)), (74, (nI k9)), (77, dn113), (78, wt114), (79, wf115)]) (V := [(nI fa111), pl112, (nI fd), (nI md), (nI sc), (nI k9), dn113, wt114, wf115, (nI fa111), pl112, (nI fd), (nI md), (nI sc), (nI k9), dn113, wt114, wf115, (nI fa111), pl112, (nI fd), (nI md), (nI sc), (nI k9), dn113, wt114, wf115]) rfl rfl rfl hP
    have hD : va_D A (mW G h0 a (upd (upd (upd (upd (upd (upd (upd (upd (upd F 15 (nI fa111)) 16 pl112) 44 (nI fd)) 49 (nI md)) 73 (nI sc)) 74 (nI k9)) 77 dn113) 78 wt114) 79 wf115) (updA (updA (updA (updA (updA B 14 nc) 17 ty116) 18 mn117) 48 vn) 49 vt)) := mW_D hD
    refine W.widen (k := 0) (n := 0) (Nat.le_of_ble_eq_true rfl) (Nat.le_of_ble_eq_true rfl) ?_
    refine W.eq (g2 := F0 m 120 ls [.int (nI r110)]) rfl ?_
    have hch125 : ChE B nd n9 ty ty116 mn mn117 := (ChE.trans hch92 (ChE.kid h122 (by omega) hp100))
    have hy126 : If (fa15 = 0) (Typ B dc fd md nd ty116 mn117 vt sc k9 c1) := (fun e => Typ.beside hF (by omega) hn9 (hy93 e) h3 h99 hp4 hp100 (fun e => by have z := hg8; rw [e] at z; have := hg104; omega) h122)
    have hy127 : If (fa72 = 0) (Typ B dc fd md nd ty116 mn117 vt sc k9 c58) := (fun e => Typ.beside hF (by omega) hn9 (hy95 e) h60 h99 hp61 hp100 (fun e => by have z := hg65; rw [e] at z; have := hg104; omega) h122)
    have ht128 : ty116 c1 = nI r14 := ((ChE.at hF (by omega) hn9 h3 h99 hp4 hp100 (fun e => by have z := hg8; rw [e] at z; have := hg104; omega) h122).trans ht94)
    have ht129 : ty116 c58 = nI r71 := ((ChE.at hF (by omega) hn9 h60 h99 hp61 hp100 (fun e => by have z := hg65; rw [e] at z; have := hg104; omega) h122).trans ht96)
    refine lv_istore (lv' := [(8, .int (nI r110)), (7, .int wf76), (6, .int wt75), (5, .int (nI r71)), (4, .int wf19), (3, .int wt18), (2, .int (nI r14)), (0, .ref h0), (1, .int (nI n9))]) hx hb dX12_chosen_120 hl (by decide) rfl (fun ls hl => ?_)
    refine lv_aload_n hx hb dX12_chosen_122 rfl (lv_at hl 7 rfl) ?_
    refine r_get (v := .ref (a 17)) hx hb hown hq hE hP 25 62 tFX12_25 (by decide) pw_1447 rfl dX12_chosen_123 ?_
    refine lv_aload_n hx hb dX12_chosen_126 rfl (lv_at hl 7 rfl) ?_
    refine r_get (v := .ref (a 14)) hx hb hown hq hE hP 22 53 tFX12_22 (by decide) pw_1444 rfl dX12_chosen_127 ?_
    refine lv_iload_n hx hb dX12_chosen_130 rfl (lv_at hl 8 rfl) ?_
    refine r_ldi (f := nc) (j := n9) hx hb hE hP 14 (ma_14 G a _) rfl (by omega) (by decide) dX12_chosen_131 ?_
    refine lv_topi (fun x130 e131 => ?_)
    obtain rfl : x130 = nI c97 := e131.trans ((hnc n9 hn9 (by rw [hkd]; decide)).trans e98)
    refine lv_iload hx hb dX12_chosen_132 (lv_at hl 0 rfl) ?_
    refine r_sti (f := ty116) (j := c97) hx hb hE hP hD hS 17 (ma_17 G a _) rfl (mas_17 G a _) (by omega) (by decide) dX12_chosen_134 (fun H locs hP hD hS => ?_)
    have hch132 : ChE B nd c97 ty116 (upd ty116 c97 (nI r110)) mn117 mn117 := (ChE.setT sub.rfl)
    have hch133 : ChE B nd n9 ty (upd ty116 c97 (nI r110)) mn mn117 := (ChE.trans hch125 (ChE.kid hch132 (by omega) hp100))
    have hy134 : If (fa15 = 0) (Typ B dc fd md nd (upd ty116 c97 (nI r110)) mn117 vt sc k9 c1) := (fun e => Typ.beside hF (by omega) hn9 (hy126 e) h3 h99 hp4 hp100 (fun e => by have z := hg8; rw [e] at z; have := hg104; omega) hch132)
    have hy135 : If (fa72 = 0) (Typ B dc fd md nd (upd ty116 c97 (nI r110)) mn117 vt sc k9 c58) := (fun e => Typ.beside hF (by omega) hn9 (hy127 e) h60 h99 hp61 hp100 (fun e => by have z := hg65; rw [e] at z; have := hg104; omega) hch132)
    have ht136 : (upd ty116 c97 (nI r110)) c1 = nI r14 := ((ChE.at hF (by omega) hn9 h3 h99 hp4 hp100 (fun e => by have z := hg8; rw [e] at z; have := hg104; omega) hch132).trans ht128)
    have ht137 : (upd ty116 c97 (nI r110)) c58 = nI r71 := ((ChE.at hF (by omega) hn9 h60 h99 hp61 hp100 (fun e => by have z := hg65; rw [e] at z; have := hg104; omega) hch132).trans ht129)
    have hy138 : If (fa111 = 0) (Typ B dc fd md nd (upd ty116 c97 (nI r110)) mn117 vt sc k9 c97) := (fun e => Typ0.st hF (by omega) h99 (h124 e))
    have ht139 : (upd ty116 c97 (nI r110)) c97 = nI r110 := upd_eq
    refine lv_aload_n hx hb dX12_chosen_135 rfl (lv_at hl 7 rfl) ?_
    refine lv_dup hx hb dX12_chosen_136 rfl ?_
    refine r_get (v := .int wt114) hx hb hown hq hE hP 78 551 tFX12_78 (by decide) pw_1805 rfl dX12_chosen_137 ?_
    refine lv_iload hx hb dX12_chosen_140 (lv_at hl 2 rfl) ?_
    refine lv_iand hx hb dX12_chosen_142 ?_
    refine lv_topi (fun x140 e141 => ?_)
    refine r_put (v := x140) (ty := .int) hx hb hown hq hE hP hD hS 78 551 tFX12_78 (by decide) pw_1805 (by decide) rfl rfl (ms_78 a _ _) dX12_chosen_143 (fun H locs hP hD hS => ?_)
    refine lv_aload_n hx hb dX12_chosen_146 rfl (lv_at hl 7 rfl) ?_
    refine lv_dup hx hb dX12_chosen_147 rfl ?_
    refine r_get (v := .int wf115) hx hb hown hq hE hP 79 554 tFX12_79 (by decide) pw_1806 rfl dX12_chosen_148 ?_
    refine lv_iload hx hb dX12_chosen_151 (lv_at hl 1 rfl) ?_
    refine lv_iand hx hb dX12_chosen_153 ?_
    refine lv_topi (fun x142 e143 => ?_)
    refine r_put (v := x142) (ty := .int) hx hb hown hq hE hP hD hS 79 554 tFX12_79 (by decide) pw_1806 (by decide) rfl rfl (ms_79 a _ _) dX12_chosen_154 (fun H locs hP hD hS => ?_)
    refine lv_aload_n hx hb dX12_chosen_157 rfl (lv_at hl 7 rfl) ?_
    refine lv_aload_n hx hb dX12_chosen_158 rfl (lv_at hl 7 rfl) ?_
    refine lv_iload hx hb dX12_chosen_159 (lv_at hl 3 rfl) ?_
    refine lv_iload hx hb dX12_chosen_161 (lv_at hl 0 rfl) ?_
    have hP : va_P G.1 pCl (mW G h0 a (upd (upd (upd (upd (upd (upd (upd (upd (upd F 15 (nI fa111)) 16 pl112) 44 (nI fd)) 49 (nI md)) 73 (nI sc)) 74 (nI k9)) 77 dn113) 78 x140) 79 x142) (updA (updA (updA (updA (updA (updA B 14 nc) 17 (upd ty116 c97 (nI r110))) 18 mn117) 48 vn) 49 vt) 31 (B 31))) _ := mW_to (F := F) (l1 := [(15, (nI fa111)), (16, pl112), (44, (nI fd)), (49, (nI md)), (73, (nI sc)), (74, (nI k9)), (77, dn113), (78, wt114), (79, wf115), (78, x140), (79, x142)]) (l2 := [(15, (nI fa111)), (16, pl112), (44, (nI fd)), (49, (nI md)), (73, (nI sc)), (74, (nI k9)), (77, dn113), (78, x140), (79, x142)]) (V := [(nI fa111), pl112, (nI fd), (nI md), (nI sc), (nI k9), dn113, x140, x142, x140, x142, (nI fa111), pl112, (nI fd), (nI md), (nI sc), (nI k9), dn113, x140, x142]) rfl rfl (show (updA (updA (updA (updA (updA (updA B 14 nc) 17 ty116) 18 mn117) 48 vn) 49 vt) 17 (upd ty116 c97 (nI r110))) = (updA (updA (updA (updA (updA (updA B 14 nc) 17 (upd ty116 c97 (nI r110))) 18 mn117) 48 vn) 49 vt) 31 (B 31)) from updsA_eq2 (F := B) (l1 := [(14, nc), (17, ty116), (18, mn117), (48, vn), (49, vt), (17, (upd ty116 c97 (nI r110)))]) (l2 := [(14, nc), (17, (upd ty116 c97 (nI r110))), (18, mn117), (48, vn), (49, vt), (31, (B 31))]) (V := [nc, (upd ty116 c97 (nI r110)), mn117, vn, vt, (upd ty116 c97 (nI r110)), nc, (upd ty116 c97 (nI r110)), mn117, vn, vt, (B 31)]) rfl rfl) hP
    have hD : va_D A (mW G h0 a (upd (upd (upd (upd (upd (upd (upd (upd (upd F 15 (nI fa111)) 16 pl112) 44 (nI fd)) 49 (nI md)) 73 (nI sc)) 74 (nI k9)) 77 dn113) 78 x140) 79 x142) (updA (updA (updA (updA (updA (updA B 14 nc) 17 (upd ty116 c97 (nI r110))) 18 mn117) 48 vn) 49 vt) 31 (B 31))) := mW_D hD
    refine pc_V0 (G := G) (As := [.int (nI r71), .int (nI r110)]) (rest := [.ref h0]) hx hb hml hown hq hE hX pX0_al hP hD hS hA hl.1 (R_areSides l G h0 a (upd (upd (upd (upd (upd (upd (upd (upd (upd F 15 (nI fa111)) 16 pl112) 44 (nI fd)) 49 (nI md)) 73 (nI sc)) 74 (nI k9)) 77 dn113) 78 x140) 79 x142) (updA (updA (updA (updA (updA B 14 nc) 17 (upd ty116 c97 (nI r110))) 18 mn117) 48 vn) 49 vt) r71 r110 dc (B 31) h81 h120 (by omega) hBI) (gV pw_1818 pw_1819 pw_1820 pw_1523 pw_1803) hV_X12_areSides 0 9 rfl rfl rfl rfl (Nat.le_of_ble_eq_true rfl) dX12_chosen_163 ⟨Nat.le_of_ble_eq_true rfl, Nat.le_of_ble_eq_true rfl⟩ ⟨(by show 5 + 1 ≤ (4 * z9 + 9); omega), (by show 8 + (3 + 11) + 126 ≤ (160 * z9 + 1360); omega)⟩ (fun v146 u144 H locs hw145 hP hD hS => ?_)
    obtain ⟨r147, rfl⟩ : ∃ z, z = u144 := ⟨_, rfl⟩
    obtain ⟨hw145, h148, h149⟩ := hw145
    replace h148 : r147 ≤ 1 := h148
    replace h149 : If (r147 = 1) (SideP (B 31) r71 r110) := h149
    obtain rfl : v146 = some (.int (nI r147)) := hw145
    have hP : va_P G.1 pCl (mW G h0 a (upd (upd (upd (upd (upd (upd (upd (upd (upd F 15 (nI fa111)) 16 pl112) 44 (nI fd)) 49 (nI md)) 73 (nI sc)) 74 (nI k9)) 77 dn113) 78 x140) 79 x142) (updA (updA (updA (updA (updA B 14 nc) 17 (upd ty116 c97 (nI r110))) 18 mn117) 48 vn) 49 vt)) _ := mW_to (F := F) (l1 := [(15, (nI fa111)), (16, pl112), (44, (nI fd)), (49, (nI md)), (73, (nI sc)), (74, (nI k9)), (77, dn113), (78, x140), (79, x142)]) (l2 := [(15, (nI fa111)), (16, pl112), (44, (nI fd)), (49, (nI md)), (73, (nI sc)), (74, (nI k9)), (77, dn113), (78, x140), (79, x142)]) (V := [(nI fa111), pl112, (nI fd), (nI md), (nI sc), (nI k9), dn113, x140, x142, (nI fa111), pl112, (nI fd), (nI md), (nI sc), (nI k9), dn113, x140, x142]) rfl rfl (show (updA (updA (updA (updA (updA (updA B 14 nc) 17 (upd ty116 c97 (nI r110))) 18 mn117) 48 vn) 49 vt) 31 (B 31)) = (updA (updA (updA (updA (updA B 14 nc) 17 (upd ty116 c97 (nI r110))) 18 mn117) 48 vn) 49 vt) from updsA_eq2 (F := B) (l1 := [(14, nc), (17, (upd ty116 c97 (nI r110))), (18, mn117), (48, vn), (49, vt), (31, (B 31))]) (l2 := [(14, nc), (17, (upd ty116 c97 (nI r110))), (18, mn117), (48, vn), (49, vt)]) (V := [nc, (upd ty116 c97 (nI r110)), mn117, vn, vt, (B 31), nc, (upd ty116 c97 (nI r110)), mn117, vn, vt]) rfl rfl) hP
    have hD : va_D A (mW G h0 a (upd (upd (upd (upd (upd (upd (upd (upd (upd F 15 (nI fa111)) 16 pl112) 44 (nI fd)) 49 (nI md)) 73 (nI sc)) 74 (nI k9)) 77 dn113) 78 x140) 79 x142) (updA (updA (updA (updA (updA B 14 nc) 17 (upd ty116 c97 (nI r110))) 18 mn117) 48 vn) 49 vt)) := mW_D hD
    refine W.widen (k := 0) (n := 0) (Nat.le_of_ble_eq_true rfl) (Nat.le_of_ble_eq_true rfl) ?_
    refine W.eq (g2 := F0 m 166 ls [.int (nI r147), .ref h0]) rfl ?_
    refine lv_bipush (v := 11) hx hb dX12_chosen_166 (by decide) ?_
    refine lv_aload_n hx hb dX12_chosen_168 rfl (lv_at hl 7 rfl) ?_
    refine r_get (v := .ref (a 11)) hx hb hown hq hE hP 19 44 tFX12_19 (by decide) pw_1441 rfl dX12_chosen_169 ?_
    refine lv_iload_n hx hb dX12_chosen_172 rfl (lv_at hl 8 rfl) ?_
    refine r_ldi (f := (B 11)) (j := n9) hx hb hE hP 11 (ma_11 G a _) rfl (by omega) (by decide) dX12_chosen_173 ?_
    obtain ⟨-, ⟨t150, e151, h152, -⟩, -⟩ := hF n9 hn9
    refine lv_topi (fun x153 e154 => ?_)
    obtain rfl : x153 = nI t150 := e154.trans e151
    have hP : va_P G.1 pCl (mW G h0 a (upd (upd (upd (upd (upd (upd (upd (upd (upd (upd F 15 (nI fa111)) 16 pl112) 44 (nI fd)) 49 (nI md)) 73 (nI sc)) 74 (nI k9)) 77 dn113) 78 x140) 79 x142) 15 (nI fa111)) (updA (updA (updA (updA (updA B 14 nc) 17 (upd ty116 c97 (nI r110))) 18 mn117) 48 vn) 49 vt)) _ := mW_to (F := F) (l1 := [(15, (nI fa111)), (16, pl112), (44, (nI fd)), (49, (nI md)), (73, (nI sc)), (74, (nI k9)), (77, dn113), (78, x140), (79, x142)]) (l2 := [(15, (nI fa111)), (16, pl112), (44, (nI fd)), (49, (nI md)), (73, (nI sc)), (74, (nI k9)), (77, dn113), (78, x140), (79, x142), (15, (nI fa111))]) (V := [(nI fa111), pl112, (nI fd), (nI md), (nI sc), (nI k9), dn113, x140, x142, (nI fa111), pl112, (nI fd), (nI md), (nI sc), (nI k9), dn113, x140, x142, (nI fa111)]) rfl rfl rfl hP
    have hD : va_D A (mW G h0 a (upd (upd (upd (upd (upd (upd (upd (upd (upd (upd F 15 (nI fa111)) 16 pl112) 44 (nI fd)) 49 (nI md)) 73 (nI sc)) 74 (nI k9)) 77 dn113) 78 x140) 79 x142) 15 (nI fa111)) (updA (updA (updA (updA (updA B 14 nc) 17 (upd ty116 c97 (nI r110))) 18 mn117) 48 vn) 49 vt)) := mW_D hD
    refine pc_V0 (G := G) (As := [.int (nI r147), .int (nI 11), .int (nI t150)]) (rest := []) hx hb hml hown hq hE hX pX0_al hP hD hS hA hl.1 (R_judgeL l G h0 a (upd (upd (upd (upd (upd (upd (upd (upd (upd F 15 (nI fa111)) 16 pl112) 44 (nI fd)) 49 (nI md)) 73 (nI sc)) 74 (nI k9)) 77 dn113) 78 x140) 79 x142) (updA (updA (updA (updA (updA B 14 nc) 17 (upd ty116 c97 (nI r110))) 18 mn117) 48 vn) 49 vt) r147 11 t150 fa111 (by omega) (by omega) (by omega) (by omega)) (gV pw_1798 pw_1799 pw_1800 pw_1523 pw_1793) hV_X12_judge 0 9 rfl rfl rfl rfl (Nat.le_of_ble_eq_true rfl) dX12_chosen_174 ⟨Nat.le_of_ble_eq_true rfl, Nat.le_of_ble_eq_true rfl⟩ ⟨(by show 3 + 1 ≤ (4 * z9 + 9); omega), (by show 8 + (4 + 11) + 82 ≤ (160 * z9 + 1360); omega)⟩ (fun v157 u155 H locs hw156 hP hD hS => ?_)
    obtain ⟨r158, fa159, pl160⟩ := u155
    obtain ⟨hw156, h161, h162, h163, h164, h165, h166, h167⟩ := hw156
    replace h161 : r158 ≤ 1 := h161
    replace h162 : fa111 ≤ fa159 := h162
    replace h163 : fa159 ≤ 15 := h163
    replace h164 : fa159 + 15 * r158 ≤ 15 := h164
    replace h165 : 1 ≤ r158 + fa159 := h165
    replace h166 : 1 ≤ r147 + fa159 := h166
    replace h167 : fa159 ≤ fa111 + 15 * (1 - r147) := h167
    obtain rfl : v157 = some (.int (nI r158)) := hw156
    have hP : va_P G.1 pCl (mW G h0 a (upd (upd (upd (upd (upd (upd (upd (upd (upd F 15 (nI fa159)) 16 pl160) 44 (nI fd)) 49 (nI md)) 73 (nI sc)) 74 (nI k9)) 77 dn113) 78 x140) 79 x142) (updA (updA (updA (updA (updA B 14 nc) 17 (upd ty116 c97 (nI r110))) 18 mn117) 48 vn) 49 vt)) _ := mW_to (F := F) (l1 := [(15, (nI fa111)), (16, pl112), (44, (nI fd)), (49, (nI md)), (73, (nI sc)), (74, (nI k9)), (77, dn113), (78, x140), (79, x142), (15, (nI fa159)), (16, pl160)]) (l2 := [(15, (nI fa159)), (16, pl160), (44, (nI fd)), (49, (nI md)), (73, (nI sc)), (74, (nI k9)), (77, dn113), (78, x140), (79, x142)]) (V := [(nI fa159), pl160, (nI fd), (nI md), (nI sc), (nI k9), dn113, x140, x142, (nI fa159), pl160, (nI fa159), pl160, (nI fd), (nI md), (nI sc), (nI k9), dn113, x140, x142]) rfl rfl rfl hP
    have hD : va_D A (mW G h0 a (upd (upd (upd (upd (upd (upd (upd (upd (upd F 15 (nI fa159)) 16 pl160) 44 (nI fd)) 49 (nI md)) 73 (nI sc)) 74 (nI k9)) 77 dn113) 78 x140) 79 x142) (updA (updA (updA (updA (updA B 14 nc) 17 (upd ty116 c97 (nI r110))) 18 mn117) 48 vn) 49 vt)) := mW_D hD
    refine W.widen (k := 0) (n := 0) (Nat.le_of_ble_eq_true rfl) (Nat.le_of_ble_eq_true rfl) ?_
    refine W.eq (g2 := F0 m 177 ls [.int (nI r158)]) rfl ?_
    refine lv_pop hx hb dX12_chosen_177 rfl ?_
    refine lv_aload_n hx hb dX12_chosen_178 rfl (lv_at hl 7 rfl) ?_
    refine lv_iload hx hb dX12_chosen_179 (lv_at hl 3 rfl) ?_
    refine lv_iload hx hb dX12_chosen_181 (lv_at hl 0 rfl) ?_
    have hP : va_P G.1 pCl (mW G h0 a (upd (upd (upd (upd (upd (upd (upd (upd (upd F 15 (nI fa159)) 16 pl160) 44 (nI fd)) 49 (nI md)) 73 (nI sc)) 74 (nI k9)) 77 dn113) 78 x140) 79 x142) (updA (updA (updA (updA (updA (updA B 14 nc) 17 (upd ty116 c97 (nI r110))) 18 mn117) 48 vn) 49 vt) 31 (B 31))) _ := mW_to (F := F) (l1 := [(15, (nI fa159)), (16, pl160), (44, (nI fd)), (49, (nI md)), (73, (nI sc)), (74, (nI k9)), (77, dn113), (78, x140), (79, x142)]) (l2 := [(15, (nI fa159)), (16, pl160), (44, (nI fd)), (49, (nI md)), (73, (nI sc)), (74, (nI k9)), (77, dn113), (78, x140), (79, x142)]) (V := [(nI fa159), pl160, (nI fd), (nI md), (nI sc), (nI k9), dn113, x140, x142, (nI fa159), pl160, (nI fd), (nI md), (nI sc), (nI k9), dn113, x140, x142]) rfl rfl (show (updA (updA (updA (updA (updA B 14 nc) 17 (upd ty116 c97 (nI r110))) 18 mn117) 48 vn) 49 vt) = (updA (updA (updA (updA (updA (updA B 14 nc) 17 (upd ty116 c97 (nI r110))) 18 mn117) 48 vn) 49 vt) 31 (B 31)) from updsA_eq2 (F := B) (l1 := [(14, nc), (17, (upd ty116 c97 (nI r110))), (18, mn117), (48, vn), (49, vt)]) (l2 := [(14, nc), (17, (upd ty116 c97 (nI r110))), (18, mn117), (48, vn), (49, vt), (31, (B 31))]) (V := [nc, (upd ty116 c97 (nI r110)), mn117, vn, vt, nc, (upd ty116 c97 (nI r110)), mn117, vn, vt, (B 31)]) rfl rfl) hP
    have hD : va_D A (mW G h0 a (upd (upd (upd (upd (upd (upd (upd (upd (upd F 15 (nI fa159)) 16 pl160) 44 (nI fd)) 49 (nI md)) 73 (nI sc)) 74 (nI k9)) 77 dn113) 78 x140) 79 x142) (updA (updA (updA (updA (updA (updA B 14 nc) 17 (upd ty116 c97 (nI r110))) 18 mn117) 48 vn) 49 vt) 31 (B 31))) := mW_D hD
    refine pc_V0 (G := G) (As := [.int (nI r71), .int (nI r110)]) (rest := []) hx hb hml hown hq hE hX pX0_al hP hD hS hA hl.1 (R_fits l G h0 a (upd (upd (upd (upd (upd (upd (upd (upd (upd F 15 (nI fa159)) 16 pl160) 44 (nI fd)) 49 (nI md)) 73 (nI sc)) 74 (nI k9)) 77 dn113) 78 x140) 79 x142) (updA (updA (updA (updA (updA B 14 nc) 17 (upd ty116 c97 (nI r110))) 18 mn117) 48 vn) 49 vt) r71 r110 dc (B 31) h81 h120 (by omega) hBI) (gV pw_1790 pw_1791 pw_1792 pw_1523 pw_1782) hV_X12_fits 0 9 rfl rfl rfl rfl (Nat.le_of_ble_eq_true rfl) dX12_chosen_183 ⟨Nat.le_of_ble_eq_true rfl, Nat.le_of_ble_eq_true rfl⟩ ⟨(by show 4 + 1 ≤ (4 * z9 + 9); omega), (by show 8 + (3 + 11) + 104 ≤ (160 * z9 + 1360); omega)⟩ (fun v170 u168 H locs hw169 hP hD hS => ?_)
    obtain rfl : v170 = some (.int (fitF (B 31) r71 r110)) := hw169
    have hP : va_P G.1 pCl (mW G h0 a (upd (upd (upd (upd (upd (upd (upd (upd (upd F 15 (nI fa159)) 16 pl160) 44 (nI fd)) 49 (nI md)) 73 (nI sc)) 74 (nI k9)) 77 dn113) 78 x140) 79 x142) (updA (updA (updA (updA (updA B 14 nc) 17 (upd ty116 c97 (nI r110))) 18 mn117) 48 vn) 49 vt)) _ := mW_to (F := F) (l1 := [(15, (nI fa159)), (16, pl160), (44, (nI fd)), (49, (nI md)), (73, (nI sc)), (74, (nI k9)), (77, dn113), (78, x140), (79, x142)]) (l2 := [(15, (nI fa159)), (16, pl160), (44, (nI fd)), (49, (nI md)), (73, (nI sc)), (74, (nI k9)), (77, dn113), (78, x140), (79, x142)]) (V := [(nI fa159), pl160, (nI fd), (nI md), (nI sc), (nI k9), dn113, x140, x142, (nI fa159), pl160, (nI fd), (nI md), (nI sc), (nI k9), dn113, x140, x142]) rfl rfl (show (updA (updA (updA (updA (updA (updA B 14 nc) 17 (upd ty116 c97 (nI r110))) 18 mn117) 48 vn) 49 vt) 31 (B 31)) = (updA (updA (updA (updA (updA B 14 nc) 17 (upd ty116 c97 (nI r110))) 18 mn117) 48 vn) 49 vt) from updsA_eq2 (F := B) (l1 := [(14, nc), (17, (upd ty116 c97 (nI r110))), (18, mn117), (48, vn), (49, vt), (31, (B 31))]) (l2 := [(14, nc), (17, (upd ty116 c97 (nI r110))), (18, mn117), (48, vn), (49, vt)]) (V := [nc, (upd ty116 c97 (nI r110)), mn117, vn, vt, (B 31), nc, (upd ty116 c97 (nI r110)), mn117, vn, vt]) rfl rfl) hP
    have hD : va_D A (mW G h0 a (upd (upd (upd (upd (upd (upd (upd (upd (upd F 15 (nI fa159)) 16 pl160) 44 (nI fd)) 49 (nI md)) 73 (nI sc)) 74 (nI k9)) 77 dn113) 78 x140) 79 x142) (updA (updA (updA (updA (updA B 14 nc) 17 (upd ty116 c97 (nI r110))) 18 mn117) 48 vn) 49 vt)) := mW_D hD
    refine W.widen (k := 0) (n := 0) (Nat.le_of_ble_eq_true rfl) (Nat.le_of_ble_eq_true rfl) ?_
    refine W.eq (g2 := F0 m 186 ls [.int (fitF (B 31) r71 r110)]) rfl ?_
    refine lv_if_eq (tgt := 194) hx hb dX12_chosen_186 (by decide) (fun c171 => ?_) (fun c171 => ?_)
    · refine lv_iload hx hb dX12_chosen_194 (lv_at hl 3 rfl) ?_
      have hz172 : fa ≤ fa159 := (by omega)
      have hz173 : fa159 ≤ 15 := (by omega)
      have hz174 : TyC dc r71 := h81
      have hz175 : r71 ≤ 2050 := (by omega)
      have hz176 : ChE B nd n9 ty (upd ty116 c97 (nI r110)) mn mn117 := hch133
      have hz177 : mnN B nd mn117 := h123
      have hz178 : If (fa159 = 0) (Typ0 B dc fd md nd (upd ty116 c97 (nI r110)) mn117 vt sc k9 n9 (nI r71)) := (fun e => absurd e (by omega))
      have hP : va_P G.1 pCl (mW G h0 a (upd (upd (upd (upd (upd (upd (upd (upd (upd F 15 (nI fa159)) 16 pl160) 44 (nI fd)) 49 (nI md)) 73 (nI sc)) 74 (nI k9)) 77 dn113) 78 x140) 79 x142) (updA (updA (updA (updA (updA B 14 nc) 17 (upd ty116 c97 (nI r110))) 18 mn117) 48 vn) 49 vt)) _ := hP
      have hD : va_D A (mW G h0 a (upd (upd (upd (upd (upd (upd (upd (upd (upd F 15 (nI fa159)) 16 pl160) 44 (nI fd)) 49 (nI md)) 73 (nI sc)) 74 (nI k9)) 77 dn113) 78 x140) 79 x142) (updA (updA (updA (updA (updA B 14 nc) 17 (upd ty116 c97 (nI r110))) 18 mn117) 48 vn) 49 vt)) := mW_D hD
      exact W.iret (v := (nI r71)) hx hb hr (fun t9 ht9 hW9 => ⟨⟨_, (r71, fa159, pl160, dn113, x140, x142, (upd ty116 c97 (nI r110)), mn117), rfl, ⟨rfl, hz172, hz173, hz174, hz175, hz176, hz177, hz178⟩, by rw [ht9]; exact hP, hD⟩, hS.F ht9⟩) hS.2.2 dX12_chosen_196
    · refine lv_iload hx hb dX12_chosen_189 (lv_at hl 0 rfl) ?_
      refine lv_goto (tgt := 196) hx hb dX12_chosen_191 (by decide) ?_
      have hz179 : fa ≤ fa159 := (by omega)
      have hz180 : fa159 ≤ 15 := (by omega)
      have hz181 : TyC dc r110 := h120
      have hz182 : r110 ≤ 2050 := (by omega)
      have hz183 : ChE B nd n9 ty (upd ty116 c97 (nI r110)) mn mn117 := hch133
      have hz184 : mnN B nd mn117 := h123
      have hz185 : If (fa159 = 0) (Typ0 B dc fd md nd (upd ty116 c97 (nI r110)) mn117 vt sc k9 n9 (nI r110)) := (fun e => absurd e (by omega))
      have hP : va_P G.1 pCl (mW G h0 a (upd (upd (upd (upd (upd (upd (upd (upd (upd F 15 (nI fa159)) 16 pl160) 44 (nI fd)) 49 (nI md)) 73 (nI sc)) 74 (nI k9)) 77 dn113) 78 x140) 79 x142) (updA (updA (updA (updA (updA B 14 nc) 17 (upd ty116 c97 (nI r110))) 18 mn117) 48 vn) 49 vt)) _ := hP
      have hD : va_D A (mW G h0 a (upd (upd (upd (upd (upd (upd (upd (upd (upd F 15 (nI fa159)) 16 pl160) 44 (nI fd)) 49 (nI md)) 73 (nI sc)) 74 (nI k9)) 77 dn113) 78 x140) 79 x142) (updA (updA (updA (updA (updA B 14 nc) 17 (upd ty116 c97 (nI r110))) 18 mn117) 48 vn) 49 vt)) := mW_D hD
      exact W.iret (v := (nI r110)) hx hb hr (fun t9 ht9 hW9 => ⟨⟨_, (r110, fa159, pl160, dn113, x140, x142, (upd ty116 c97 (nI r110)), mn117), rfl, ⟨rfl, hz179, hz180, hz181, hz182, hz183, hz184, hz185⟩, by rw [ht9]; exact hP, hD⟩, hS.F ht9⟩) hS.2.2 dX12_chosen_196
  · have n186 : r14 = 2 := (nI_eq (a := r14) (b := 2) (by omega) (by omega)).mp c36
    refine lv_iconst (v := 1) hx hb dX12_chosen_29 (by decide) ?_
    refine lv_goto (tgt := 34) hx hb dX12_chosen_30 (by decide) ?_
    refine lv_bipush (v := 11) hx hb dX12_chosen_34 (by decide) ?_
    refine lv_aload_n hx hb dX12_chosen_36 rfl (lv_at hl 1 rfl) ?_
    refine r_get (v := .ref (a 10)) hx hb hown hq hE hP 18 41 tFX12_18 (by decide) pw_1440 rfl dX12_chosen_37 ?_
    refine lv_aload_n hx hb dX12_chosen_40 rfl (lv_at hl 1 rfl) ?_
    refine r_get (v := .ref (a 12)) hx hb hown hq hE hP 20 47 tFX12_20 (by decide) pw_1442 rfl dX12_chosen_41 ?_
    refine lv_iload_n hx hb dX12_chosen_44 rfl (lv_at hl 2 rfl) ?_
    refine r_ldi (f := (B 12)) (j := n9) hx hb hE hP 12 (ma_12 G a _) rfl (by omega) (by decide) dX12_chosen_45 ?_
    refine lv_topi (fun x187 e188 => ?_)
    obtain rfl : x187 = nI c1 := e188.trans e2
    refine r_ldi (f := (B 10)) (j := c1) hx hb hE hP 10 (ma_10 G a _) rfl (by omega) (by decide) dX12_chosen_46 ?_
    obtain ⟨⟨t189, e190, h191⟩, -⟩ := hF c1 h3
    refine lv_topi (fun x192 e193 => ?_)
    obtain rfl : x192 = nI t189 := e193.trans e190
    have hP : va_P G.1 pCl (mW G h0 a (upd (upd (upd (upd (upd (upd (upd (upd (upd (upd F 15 (nI fa15)) 16 pl16) 44 (nI fd)) 49 (nI md)) 73 (nI sc)) 74 (nI k9)) 77 dn17) 78 wt18) 79 wf19) 15 (nI fa15)) (updA (updA (updA (updA (updA B 14 nc) 17 (upd ty20 c1 (nI r14))) 18 mn21) 48 vn) 49 vt)) _ := mW_to (F := F) (l1 := [(15, (nI fa15)), (16, pl16), (44, (nI fd)), (49, (nI md)), (73, (nI sc)), (74, (nI k9)), (77, dn17), (78, wt18), (79, wf19)]) (l2 := [(15, (nI fa15)), (16, pl16), (44, (nI fd)), (49, (nI md)), (73, (nI sc)), (74, (nI k9)), (77, dn17), (78, wt18), (79, wf19), (15, (nI fa15))]) (V := [(nI fa15), pl16, (nI fd), (nI md), (nI sc), (nI k9), dn17, wt18, wf19, (nI fa15), pl16, (nI fd), (nI md), (nI sc), (nI k9), dn17, wt18, wf19, (nI fa15)]) rfl rfl (show (updA (updA (updA (updA (updA (updA B 14 nc) 17 ty20) 18 mn21) 48 vn) 49 vt) 17 (upd ty20 c1 (nI r14))) = (updA (updA (updA (updA (updA B 14 nc) 17 (upd ty20 c1 (nI r14))) 18 mn21) 48 vn) 49 vt) from updsA_eq2 (F := B) (l1 := [(14, nc), (17, ty20), (18, mn21), (48, vn), (49, vt), (17, (upd ty20 c1 (nI r14)))]) (l2 := [(14, nc), (17, (upd ty20 c1 (nI r14))), (18, mn21), (48, vn), (49, vt)]) (V := [nc, (upd ty20 c1 (nI r14)), mn21, vn, vt, (upd ty20 c1 (nI r14)), nc, (upd ty20 c1 (nI r14)), mn21, vn, vt]) rfl rfl) hP
    have hD : va_D A (mW G h0 a (upd (upd (upd (upd (upd (upd (upd (upd (upd (upd F 15 (nI fa15)) 16 pl16) 44 (nI fd)) 49 (nI md)) 73 (nI sc)) 74 (nI k9)) 77 dn17) 78 wt18) 79 wf19) 15 (nI fa15)) (updA (updA (updA (updA (updA B 14 nc) 17 (upd ty20 c1 (nI r14))) 18 mn21) 48 vn) 49 vt)) := mW_D hD
    refine pc_V0 (G := G) (As := [.int (nI 1), .int (nI 11), .int (nI t189)]) (rest := []) hx hb hml hown hq hE hX pX0_al hP hD hS hA hl.1 (R_judgeL l G h0 a (upd (upd (upd (upd (upd (upd (upd (upd (upd F 15 (nI fa15)) 16 pl16) 44 (nI fd)) 49 (nI md)) 73 (nI sc)) 74 (nI k9)) 77 dn17) 78 wt18) 79 wf19) (updA (updA (updA (updA (updA B 14 nc) 17 (upd ty20 c1 (nI r14))) 18 mn21) 48 vn) 49 vt) 1 11 t189 fa15 (by omega) (by omega) (by omega) (by omega)) (gV pw_1798 pw_1799 pw_1800 pw_1523 pw_1793) hV_X12_judge 0 9 rfl rfl rfl rfl (Nat.le_of_ble_eq_true rfl) dX12_chosen_47 ⟨Nat.le_of_ble_eq_true rfl, Nat.le_of_ble_eq_true rfl⟩ ⟨(by show 3 + 1 ≤ (4 * z9 + 9); omega), (by show 8 + (4 + 11) + 82 ≤ (160 * z9 + 1360); omega)⟩ (fun v196 u194 H locs hw195 hP hD hS => ?_)
    obtain ⟨r197, fa198, pl199⟩ := u194
    obtain ⟨hw195, h200, h201, h202, h203, h204, h205, h206⟩ := hw195
    replace h200 : r197 ≤ 1 := h200
    replace h201 : fa15 ≤ fa198 := h201
    replace h202 : fa198 ≤ 15 := h202
    replace h203 : fa198 + 15 * r197 ≤ 15 := h203
    replace h204 : 1 ≤ r197 + fa198 := h204
    replace h205 : 1 ≤ 1 + fa198 := h205
    replace h206 : fa198 ≤ fa15 + 15 * (1 - 1) := h206
    obtain rfl : v196 = some (.int (nI r197)) := hw195
    have hP : va_P G.1 pCl (mW G h0 a (upd (upd (upd (upd (upd (upd (upd (upd (upd F 15 (nI fa198)) 16 pl199) 44 (nI fd)) 49 (nI md)) 73 (nI sc)) 74 (nI k9)) 77 dn17) 78 wt18) 79 wf19) (updA (updA (updA (updA (updA B 14 nc) 17 (upd ty20 c1 (nI r14))) 18 mn21) 48 vn) 49 vt)) _ := mW_to (F := F) (l1 := [(15, (nI fa15)), (16, pl16), (44, (nI fd)), (49, (nI md)), (73, (nI sc)), (74, (nI k9)), (77, dn17), (78, wt18), (79, wf19), (15, (nI fa198)), (16, pl199)]) (l2 := [(15, (nI fa198)), (16, pl199), (44, (nI fd)), (49, (nI md)), (73, (nI sc)), (74, (nI k9)), (77, dn17), (78, wt18), (79, wf19)]) (V := [(nI fa198), pl199, (nI fd), (nI md), (nI sc), (nI k9), dn17, wt18, wf19, (nI fa198), pl199, (nI fa198), pl199, (nI fd), (nI md), (nI sc), (nI k9), dn17, wt18, wf19]) rfl rfl rfl hP
    have hD : va_D A (mW G h0 a (upd (upd (upd (upd (upd (upd (upd (upd (upd F 15 (nI fa198)) 16 pl199) 44 (nI fd)) 49 (nI md)) 73 (nI sc)) 74 (nI k9)) 77 dn17) 78 wt18) 79 wf19) (updA (updA (updA (updA (updA B 14 nc) 17 (upd ty20 c1 (nI r14))) 18 mn21) 48 vn) 49 vt)) := mW_D hD
    refine W.widen (k := 0) (n := 0) (Nat.le_of_ble_eq_true rfl) (Nat.le_of_ble_eq_true rfl) ?_
    refine W.eq (g2 := F0 m 50 ls [.int (nI r197)]) rfl ?_
    refine lv_pop hx hb dX12_chosen_50 rfl ?_
    refine lv_aload_n hx hb dX12_chosen_51 rfl (lv_at hl 1 rfl) ?_
    refine r_get (v := .int wt18) hx hb hown hq hE hP 78 551 tFX12_78 (by decide) pw_1805 rfl dX12_chosen_52 ?_
    refine lv_istore_n (lv' := [(3, .int wt18), (2, .int (nI r14)), (0, .ref h0), (1, .int (nI n9))]) hx hb dX12_chosen_55 rfl hl (by decide) rfl (fun ls hl => ?_)
    refine lv_aload_n hx hb dX12_chosen_56 rfl (lv_at hl 2 rfl) ?_
    refine r_get (v := .int wf19) hx hb hown hq hE hP 79 554 tFX12_79 (by decide) pw_1806 rfl dX12_chosen_57 ?_
    refine lv_istore (lv' := [(4, .int wf19), (3, .int wt18), (2, .int (nI r14)), (0, .ref h0), (1, .int (nI n9))]) hx hb dX12_chosen_60 hl (by decide) rfl (fun ls hl => ?_)
    refine lv_aload_n hx hb dX12_chosen_62 rfl (lv_at hl 3 rfl) ?_
    refine lv_iload_n hx hb dX12_chosen_63 rfl (lv_at hl 1 rfl) ?_
    refine r_put (v := wt18) (ty := .int) hx hb hown hq hE hP hD hS 77 544 tFX12_77 (by decide) pw_1796 (by decide) rfl rfl (ms_77 a _ _) dX12_chosen_64 (fun H locs hP hD hS => ?_)
    refine lv_aload_n hx hb dX12_chosen_67 rfl (lv_at hl 3 rfl) ?_
    refine lv_aload_n hx hb dX12_chosen_68 rfl (lv_at hl 3 rfl) ?_
    refine r_get (v := .ref (a 13)) hx hb hown hq hE hP 21 50 tFX12_21 (by decide) pw_1443 rfl dX12_chosen_69 ?_
    refine lv_iload_n hx hb dX12_chosen_72 rfl (lv_at hl 4 rfl) ?_
    refine r_ldi (f := (B 13)) (j := n9) hx hb hE hP 13 (ma_13 G a _) rfl (by omega) (by decide) dX12_chosen_73 ?_
    obtain ⟨c207, e208, h209, hp210, h211, hc212, hh213, hg214⟩ := Fs2.kid (kk := 23) (s := 2) hF hn9 hkd (by decide) (by decide) (by decide) (by decide) (by omega)
    refine lv_topi (fun x215 e216 => ?_)
    obtain rfl : x215 = nI c207 := e216.trans e208
    have hP : va_P G.1 pCl (mW G h0 a (upd (upd (upd (upd (upd (upd (upd (upd (upd (upd (upd (upd (upd (upd (upd (upd (upd F 15 (nI fa198)) 16 pl199) 44 (nI fd)) 49 (nI md)) 73 (nI sc)) 74 (nI k9)) 77 wt18) 78 wt18) 79 wf19) 15 (nI fa198)) 44 (nI fd)) 49 (nI md)) 73 (nI sc)) 74 (nI k9)) 77 wt18) 78 wt18) 79 wf19) (updA (updA (updA (updA (updA B 14 nc) 17 (upd ty20 c1 (nI r14))) 18 mn21) 48 vn) 49 vt)) _ := mW_to (F := F) (l1 := [(15, (nI fa198)), (16, pl199), (44, (nI fd)), (49, (nI md)), (73, (nI sc)), (74, (nI k9)), (77, dn17), (78, wt18), (79, wf19), (77, wt18)]) (l2 := [(15, (nI fa198)), (16, pl199), (44, (nI fd)), (49, (nI md)), (73, (nI sc)), (74, (nI k9)), (77, wt18), (78, wt18), (79, wf19), (15, (nI fa198)), (44, (nI fd)), (49, (nI md)), (73, (nI sc)), (74, (nI k9)), (77, wt18), (78, wt18), (79, wf19)]) (V := [(nI fa198), pl199, (nI fd), (nI md), (nI sc), (nI k9), wt18, wt18, wf19, wt18, (nI fa198), pl199, (nI fd), (nI md), (nI sc), (nI k9), wt18, wt18, wf19, (nI fa198), (nI fd), (nI md), (nI sc), (nI k9), wt18, wt18, wf19]) rfl rfl rfl hP
    have hD : va_D A (mW G h0 a (upd (upd (upd (upd (upd (upd (upd (upd (upd (upd (upd (upd (upd (upd (upd (upd (upd F 15 (nI fa198)) 16 pl199) 44 (nI fd)) 49 (nI md)) 73 (nI sc)) 74 (nI k9)) 77 wt18) 78 wt18) 79 wf19) 15 (nI fa198)) 44 (nI fd)) 49 (nI md)) 73 (nI sc)) 74 (nI k9)) 77 wt18) 78 wt18) 79 wf19) (updA (updA (updA (updA (updA B 14 nc) 17 (upd ty20 c1 (nI r14))) 18 mn21) 48 vn) 49 vt)) := mW_D hD
    refine pc_V0 (G := G) (As := [.int (nI c207)]) (rest := []) hx hb hml hown hq hE hX pX0_al hP hD hS hA hl.1 (ihA h0 a (upd (upd (upd (upd (upd (upd (upd (upd (upd F 15 (nI fa198)) 16 pl199) 44 (nI fd)) 49 (nI md)) 73 (nI sc)) 74 (nI k9)) 77 wt18) 78 wt18) 79 wf19) B c207 fa198 sc k9 nd T nm wr lz dc fd md pr bk gh wt18 wt18 wf19 nc (upd ty20 c1 (nI r14)) mn21 vn vt hst hnm h209 (by omega) (by omega) (by omega) hk9 hnc h27 hvt (show kcl 1 _ = true from hc212)) (gV pw_1815 pw_1816 pw_1817 pw_1523 pw_1831) hV_X12_lookAt 0 9 rfl rfl rfl rfl (Nat.le_of_ble_eq_true rfl) dX12_chosen_74 ⟨Nat.le_of_ble_eq_true rfl, Nat.le_of_ble_eq_true rfl⟩ ⟨(by show (4 * (z9 - 1) + 10) + 1 ≤ (4 * z9 + 9); omega), (by show 8 + (3 + 11) + (160 * (z9 - 1) + 1400) ≤ (160 * z9 + 1360); omega)⟩ (fun v219 u217 H locs hw218 hP hD hS => ?_)
    obtain ⟨r220, fa221, pl222, dn223, wt224, wf225, ty226, mn227⟩ := u217
    obtain ⟨hw218, h228, h229, h230, h231, h232, h233, h234⟩ := hw218
    replace h228 : fa198 ≤ fa221 := h228
    replace h229 : fa221 ≤ 15 := h229
    replace h230 : TyC dc r220 := h230
    replace h231 : r220 ≤ 2050 := h231
    replace h232 : ChE B nd c207 (upd ty20 c1 (nI r14)) ty226 mn21 mn227 := h232
    replace h233 : mnN B nd mn227 := h233
    replace h234 : If (fa221 = 0) (Typ0 B dc fd md nd ty226 mn227 vt sc k9 c207 (nI r220)) := h234
    obtain rfl : v219 = some (.int (nI r220)) := hw218
    have hP : va_P G.1 pCl (mW G h0 a (upd (upd (upd (upd (upd (upd (upd (upd (upd F 15 (nI fa221)) 16 pl222) 44 (nI fd)) 49 (nI md)) 73 (nI sc)) 74 (nI k9)) 77 dn223) 78 wt224) 79 wf225) (updA (updA (updA (updA (updA B 14 nc) 17 ty226) 18 mn227) 48 vn) 49 vt)) _ := mW_to (F := F) (l1 := [(15, (nI fa198)), (16, pl199), (44, (nI fd)), (49, (nI md)), (73, (nI sc)), (74, (nI k9)), (77, wt18), (78, wt18), (79, wf19), (15, (nI fa221)), (16, pl222), (44, (nI fd)), (49, (nI md)), (73, (nI sc)), (74, (nI k9)), (77, dn223), (78, wt224), (79, wf225)]) (l2 := [(15, (nI fa221)), (16, pl222), (44, (nI fd)), (49, (nI md)), (73, (nI sc)), (74, (nI k9)), (77, dn223), (78, wt224), (79, wf225)]) (V := [(nI fa221), pl222, (nI fd), (nI md), (nI sc), (nI k9), dn223, wt224, wf225, (nI fa221), pl222, (nI fd), (nI md), (nI sc), (nI k9), dn223, wt224, wf225, (nI fa221), pl222, (nI fd), (nI md), (nI sc), (nI k9), dn223, wt224, wf225]) rfl rfl rfl hP
    have hD : va_D A (mW G h0 a (upd (upd (upd (upd (upd (upd (upd (upd (upd F 15 (nI fa221)) 16 pl222) 44 (nI fd)) 49 (nI md)) 73 (nI sc)) 74 (nI k9)) 77 dn223) 78 wt224) 79 wf225) (updA (updA (updA (updA (updA B 14 nc) 17 ty226) 18 mn227) 48 vn) 49 vt)) := mW_D hD
    refine W.widen (k := 0) (n := 0) (Nat.le_of_ble_eq_true rfl) (Nat.le_of_ble_eq_true rfl) ?_
    refine W.eq (g2 := F0 m 77 ls [.int (nI r220)]) rfl ?_
    have hch235 : ChE B nd n9 ty ty226 mn mn227 := (ChE.trans hch33 (ChE.kid h232 (by omega) hp210))
    have hy236 : If (fa15 = 0) (Typ B dc fd md nd ty226 mn227 vt sc k9 c1) := (fun e => Typ.beside hF (by omega) hn9 (hy34 e) h3 h209 hp4 hp210 (fun e => by have z := hg8; rw [e] at z; have := hg214; omega) h232)
    have ht237 : ty226 c1 = nI r14 := ((ChE.at hF (by omega) hn9 h3 h209 hp4 hp210 (fun e => by have z := hg8; rw [e] at z; have := hg214; omega) h232).trans ht35)
    refine lv_istore (lv' := [(5, .int (nI r220)), (4, .int wf19), (3, .int wt18), (2, .int (nI r14)), (0, .ref h0), (1, .int (nI n9))]) hx hb dX12_chosen_77 hl (by decide) rfl (fun ls hl => ?_)
    refine lv_aload_n hx hb dX12_chosen_79 rfl (lv_at hl 4 rfl) ?_
    refine r_get (v := .ref (a 17)) hx hb hown hq hE hP 25 62 tFX12_25 (by decide) pw_1447 rfl dX12_chosen_80 ?_
    refine lv_aload_n hx hb dX12_chosen_83 rfl (lv_at hl 4 rfl) ?_
    refine r_get (v := .ref (a 13)) hx hb hown hq hE hP 21 50 tFX12_21 (by decide) pw_1443 rfl dX12_chosen_84 ?_
    refine lv_iload_n hx hb dX12_chosen_87 rfl (lv_at hl 5 rfl) ?_
    refine r_ldi (f := (B 13)) (j := n9) hx hb hE hP 13 (ma_13 G a _) rfl (by omega) (by decide) dX12_chosen_88 ?_
    refine lv_topi (fun x238 e239 => ?_)
    obtain rfl : x238 = nI c207 := e239.trans e208
    refine lv_iload hx hb dX12_chosen_89 (lv_at hl 0 rfl) ?_
    refine r_sti (f := ty226) (j := c207) hx hb hE hP hD hS 17 (ma_17 G a _) rfl (mas_17 G a _) (by omega) (by decide) dX12_chosen_91 (fun H locs hP hD hS => ?_)
    have hch240 : ChE B nd c207 ty226 (upd ty226 c207 (nI r220)) mn227 mn227 := (ChE.setT sub.rfl)
    have hch241 : ChE B nd n9 ty (upd ty226 c207 (nI r220)) mn mn227 := (ChE.trans hch235 (ChE.kid hch240 (by omega) hp210))
    have hy242 : If (fa15 = 0) (Typ B dc fd md nd (upd ty226 c207 (nI r220)) mn227 vt sc k9 c1) := (fun e => Typ.beside hF (by omega) hn9 (hy236 e) h3 h209 hp4 hp210 (fun e => by have z := hg8; rw [e] at z; have := hg214; omega) hch240)
    have ht243 : (upd ty226 c207 (nI r220)) c1 = nI r14 := ((ChE.at hF (by omega) hn9 h3 h209 hp4 hp210 (fun e => by have z := hg8; rw [e] at z; have := hg214; omega) hch240).trans ht237)
    have hy244 : If (fa221 = 0) (Typ B dc fd md nd (upd ty226 c207 (nI r220)) mn227 vt sc k9 c207) := (fun e => Typ0.st hF (by omega) h209 (h234 e))
    have ht245 : (upd ty226 c207 (nI r220)) c207 = nI r220 := upd_eq
    refine lv_aload_n hx hb dX12_chosen_92 rfl (lv_at hl 4 rfl) ?_
    refine r_get (v := .int wt224) hx hb hown hq hE hP 78 551 tFX12_78 (by decide) pw_1805 rfl dX12_chosen_93 ?_
    refine lv_istore (lv' := [(6, .int wt224), (5, .int (nI r220)), (4, .int wf19), (3, .int wt18), (2, .int (nI r14)), (0, .ref h0), (1, .int (nI n9))]) hx hb dX12_chosen_96 hl (by decide) rfl (fun ls hl => ?_)
    refine lv_aload_n hx hb dX12_chosen_98 rfl (lv_at hl 5 rfl) ?_
    refine r_get (v := .int wf225) hx hb hown hq hE hP 79 554 tFX12_79 (by decide) pw_1806 rfl dX12_chosen_99 ?_
    refine lv_istore (lv' := [(7, .int wf225), (6, .int wt224), (5, .int (nI r220)), (4, .int wf19), (3, .int wt18), (2, .int (nI r14)), (0, .ref h0), (1, .int (nI n9))]) hx hb dX12_chosen_102 hl (by decide) rfl (fun ls hl => ?_)
    refine lv_aload_n hx hb dX12_chosen_104 rfl (lv_at hl 6 rfl) ?_
    refine lv_iload hx hb dX12_chosen_105 (lv_at hl 3 rfl) ?_
    refine r_put (v := wf19) (ty := .int) hx hb hown hq hE hP hD hS 77 544 tFX12_77 (by decide) pw_1796 (by decide) rfl rfl (ms_77 a _ _) dX12_chosen_107 (fun H locs hP hD hS => ?_)
    refine lv_aload_n hx hb dX12_chosen_110 rfl (lv_at hl 6 rfl) ?_
    refine lv_aload_n hx hb dX12_chosen_111 rfl (lv_at hl 6 rfl) ?_
    refine r_get (v := .ref (a 14)) hx hb hown hq hE hP 22 53 tFX12_22 (by decide) pw_1444 rfl dX12_chosen_112 ?_
    refine lv_iload_n hx hb dX12_chosen_115 rfl (lv_at hl 7 rfl) ?_
    refine r_ldi (f := nc) (j := n9) hx hb hE hP 14 (ma_14 G a _) rfl (by omega) (by decide) dX12_chosen_116 ?_
    obtain ⟨c246, e247, h248, hp249, h250, hc251, hh252, hg253⟩ := Fs2.kid (kk := 23) (s := 3) hF hn9 hkd (by decide) (by decide) (by decide) (by decide) (by omega)
    refine lv_topi (fun x254 e255 => ?_)
    obtain rfl : x254 = nI c246 := e255.trans ((hnc n9 hn9 (by rw [hkd]; decide)).trans e247)
    have hP : va_P G.1 pCl (mW G h0 a (upd (upd (upd (upd (upd (upd (upd (upd (upd (upd (upd (upd (upd (upd (upd (upd (upd F 15 (nI fa221)) 16 pl222) 44 (nI fd)) 49 (nI md)) 73 (nI sc)) 74 (nI k9)) 77 wf19) 78 wt224) 79 wf225) 15 (nI fa221)) 44 (nI fd)) 49 (nI md)) 73 (nI sc)) 74 (nI k9)) 77 wf19) 78 wt224) 79 wf225) (updA (updA (updA (updA (updA B 14 nc) 17 (upd ty226 c207 (nI r220))) 18 mn227) 48 vn) 49 vt)) _ := mW_to (F := F) (l1 := [(15, (nI fa221)), (16, pl222), (44, (nI fd)), (49, (nI md)), (73, (nI sc)), (74, (nI k9)), (77, dn223), (78, wt224), (79, wf225), (77, wf19)]) (l2 := [(15, (nI fa221)), (16, pl222), (44, (nI fd)), (49, (nI md)), (73, (nI sc)), (74, (nI k9)), (77, wf19), (78, wt224), (79, wf225), (15, (nI fa221)), (44, (nI fd)), (49, (nI md)), (73, (nI sc)), (74, (nI k9)), (77, wf19), (78, wt224), (79, wf225)]) (V := [(nI fa221), pl222, (nI fd), (nI md), (nI sc), (nI k9), wf19, wt224, wf225, wf19, (nI fa221), pl222, (nI fd), (nI md), (nI sc), (nI k9), wf19, wt224, wf225, (nI fa221), (nI fd), (nI md), (nI sc), (nI k9), wf19, wt224, wf225]) rfl rfl (show (updA (updA (updA (updA (updA (updA B 14 nc) 17 ty226) 18 mn227) 48 vn) 49 vt) 17 (upd ty226 c207 (nI r220))) = (updA (updA (updA (updA (updA B 14 nc) 17 (upd ty226 c207 (nI r220))) 18 mn227) 48 vn) 49 vt) from updsA_eq2 (F := B) (l1 := [(14, nc), (17, ty226), (18, mn227), (48, vn), (49, vt), (17, (upd ty226 c207 (nI r220)))]) (l2 := [(14, nc), (17, (upd ty226 c207 (nI r220))), (18, mn227), (48, vn), (49, vt)]) (V := [nc, (upd ty226 c207 (nI r220)), mn227, vn, vt, (upd ty226 c207 (nI r220)), nc, (upd ty226 c207 (nI r220)), mn227, vn, vt]) rfl rfl) hP
    have hD : va_D A (mW G h0 a (upd (upd (upd (upd (upd (upd (upd (upd (upd (upd (upd (upd (upd (upd (upd (upd (upd F 15 (nI fa221)) 16 pl222) 44 (nI fd)) 49 (nI md)) 73 (nI sc)) 74 (nI k9)) 77 wf19) 78 wt224) 79 wf225) 15 (nI fa221)) 44 (nI fd)) 49 (nI md)) 73 (nI sc)) 74 (nI k9)) 77 wf19) 78 wt224) 79 wf225) (updA (updA (updA (updA (updA B 14 nc) 17 (upd ty226 c207 (nI r220))) 18 mn227) 48 vn) 49 vt)) := mW_D hD
    refine pc_V0 (G := G) (As := [.int (nI c246)]) (rest := []) hx hb hml hown hq hE hX pX0_al hP hD hS hA hl.1 (ihA h0 a (upd (upd (upd (upd (upd (upd (upd (upd (upd F 15 (nI fa221)) 16 pl222) 44 (nI fd)) 49 (nI md)) 73 (nI sc)) 74 (nI k9)) 77 wf19) 78 wt224) 79 wf225) B c246 fa221 sc k9 nd T nm wr lz dc fd md pr bk gh wf19 wt224 wf225 nc (upd ty226 c207 (nI r220)) mn227 vn vt hst hnm h248 (by omega) (by omega) (by omega) hk9 hnc h233 hvt (show kcl 1 _ = true from hc251)) (gV pw_1815 pw_1816 pw_1817 pw_1523 pw_1831) hV_X12_lookAt 0 9 rfl rfl rfl rfl (Nat.le_of_ble_eq_true rfl) dX12_chosen_117 ⟨Nat.le_of_ble_eq_true rfl, Nat.le_of_ble_eq_true rfl⟩ ⟨(by show (4 * (z9 - 1) + 10) + 1 ≤ (4 * z9 + 9); omega), (by show 8 + (3 + 11) + (160 * (z9 - 1) + 1400) ≤ (160 * z9 + 1360); omega)⟩ (fun v258 u256 H locs hw257 hP hD hS => ?_)
    obtain ⟨r259, fa260, pl261, dn262, wt263, wf264, ty265, mn266⟩ := u256
    obtain ⟨hw257, h267, h268, h269, h270, h271, h272, h273⟩ := hw257
    replace h267 : fa221 ≤ fa260 := h267
    replace h268 : fa260 ≤ 15 := h268
    replace h269 : TyC dc r259 := h269
    replace h270 : r259 ≤ 2050 := h270
    replace h271 : ChE B nd c246 (upd ty226 c207 (nI r220)) ty265 mn227 mn266 := h271
    replace h272 : mnN B nd mn266 := h272
    replace h273 : If (fa260 = 0) (Typ0 B dc fd md nd ty265 mn266 vt sc k9 c246 (nI r259)) := h273
    obtain rfl : v258 = some (.int (nI r259)) := hw257
    have hP : va_P G.1 pCl (mW G h0 a (upd (upd (upd (upd (upd (upd (upd (upd (upd F 15 (nI fa260)) 16 pl261) 44 (nI fd)) 49 (nI md)) 73 (nI sc)) 74 (nI k9)) 77 dn262) 78 wt263) 79 wf264) (updA (updA (updA (updA (updA B 14 nc) 17 ty265) 18 mn266) 48 vn) 49 vt)) _ := mW_to (F := F) (l1 := [(15, (nI fa221)), (16, pl222), (44, (nI fd)), (49, (nI md)), (73, (nI sc)), (74, (nI k9)), (77, wf19), (78, wt224), (79, wf225), (15, (nI fa260)), (16, pl261), (44, (nI fd)), (49, (nI md)), (73, (nI sc)), (74, (nI k9)), (77, dn262), (78, wt263), (79, wf264)]) (l2 := [(15, (nI fa260)), (16, pl261), (44, (nI fd)), (49, (nI md)), (73, (nI sc)), (74, (nI k9)), (77, dn262), (78, wt263), (79, wf264)]) (V := [(nI fa260), pl261, (nI fd), (nI md), (nI sc), (nI k9), dn262, wt263, wf264, (nI fa260), pl261, (nI fd), (nI md), (nI sc), (nI k9), dn262, wt263, wf264, (nI fa260), pl261, (nI fd), (nI md), (nI sc), (nI k9), dn262, wt263, wf264]) rfl rfl rfl hP
    have hD : va_D A (mW G h0 a (upd (upd (upd (upd (upd (upd (upd (upd (upd F 15 (nI fa260)) 16 pl261) 44 (nI fd)) 49 (nI md)) 73 (nI sc)) 74 (nI k9)) 77 dn262) 78 wt263) 79 wf264) (updA (updA (updA (updA (updA B 14 nc) 17 ty265) 18 mn266) 48 vn) 49 vt)) := mW_D hD
    refine W.widen (k := 0) (n := 0) (Nat.le_of_ble_eq_true rfl) (Nat.le_of_ble_eq_true rfl) ?_
    refine W.eq (g2 := F0 m 120 ls [.int (nI r259)]) rfl ?_
    have hch274 : ChE B nd n9 ty ty265 mn mn266 := (ChE.trans hch241 (ChE.kid h271 (by omega) hp249))
    have hy275 : If (fa15 = 0) (Typ B dc fd md nd ty265 mn266 vt sc k9 c1) := (fun e => Typ.beside hF (by omega) hn9 (hy242 e) h3 h248 hp4 hp249 (fun e => by have z := hg8; rw [e] at z; have := hg253; omega) h271)
    have hy276 : If (fa221 = 0) (Typ B dc fd md nd ty265 mn266 vt sc k9 c207) := (fun e => Typ.beside hF (by omega) hn9 (hy244 e) h209 h248 hp210 hp249 (fun e => by have z := hg214; rw [e] at z; have := hg253; omega) h271)
    have ht277 : ty265 c1 = nI r14 := ((ChE.at hF (by omega) hn9 h3 h248 hp4 hp249 (fun e => by have z := hg8; rw [e] at z; have := hg253; omega) h271).trans ht243)
    have ht278 : ty265 c207 = nI r220 := ((ChE.at hF (by omega) hn9 h209 h248 hp210 hp249 (fun e => by have z := hg214; rw [e] at z; have := hg253; omega) h271).trans ht245)
    refine lv_istore (lv' := [(8, .int (nI r259)), (7, .int wf225), (6, .int wt224), (5, .int (nI r220)), (4, .int wf19), (3, .int wt18), (2, .int (nI r14)), (0, .ref h0), (1, .int (nI n9))]) hx hb dX12_chosen_120 hl (by decide) rfl (fun ls hl => ?_)
    refine lv_aload_n hx hb dX12_chosen_122 rfl (lv_at hl 7 rfl) ?_
    refine r_get (v := .ref (a 17)) hx hb hown hq hE hP 25 62 tFX12_25 (by decide) pw_1447 rfl dX12_chosen_123 ?_
    refine lv_aload_n hx hb dX12_chosen_126 rfl (lv_at hl 7 rfl) ?_
    refine r_get (v := .ref (a 14)) hx hb hown hq hE hP 22 53 tFX12_22 (by decide) pw_1444 rfl dX12_chosen_127 ?_
    refine lv_iload_n hx hb dX12_chosen_130 rfl (lv_at hl 8 rfl) ?_
    refine r_ldi (f := nc) (j := n9) hx hb hE hP 14 (ma_14 G a _) rfl (by omega) (by decide) dX12_chosen_131 ?_
    refine lv_topi (fun x279 e280 => ?_)
    obtain rfl : x279 = nI c246 := e280.trans ((hnc n9 hn9 (by rw [hkd]; decide)).trans e247)
    refine lv_iload hx hb dX12_chosen_132 (lv_at hl 0 rfl) ?_
    refine r_sti (f := ty265) (j := c246) hx hb hE hP hD hS 17 (ma_17 G a _) rfl (mas_17 G a _) (by omega) (by decide) dX12_chosen_134 (fun H locs hP hD hS => ?_)
    have hch281 : ChE B nd c246 ty265 (upd ty265 c246 (nI r259)) mn266 mn266 := (ChE.setT sub.rfl)
    have hch282 : ChE B nd n9 ty (upd ty265 c246 (nI r259)) mn mn266 := (ChE.trans hch274 (ChE.kid hch281 (by omega) hp249))
    have hy283 : If (fa15 = 0) (Typ B dc fd md nd (upd ty265 c246 (nI r259)) mn266 vt sc k9 c1) := (fun e => Typ.beside hF (by omega) hn9 (hy275 e) h3 h248 hp4 hp249 (fun e => by have z := hg8; rw [e] at z; have := hg253; omega) hch281)
    have hy284 : If (fa221 = 0) (Typ B dc fd md nd (upd ty265 c246 (nI r259)) mn266 vt sc k9 c207) := (fun e => Typ.beside hF (by omega) hn9 (hy276 e) h209 h248 hp210 hp249 (fun e => by have z := hg214; rw [e] at z; have := hg253; omega) hch281)
    have ht285 : (upd ty265 c246 (nI r259)) c1 = nI r14 := ((ChE.at hF (by omega) hn9 h3 h248 hp4 hp249 (fun e => by have z := hg8; rw [e] at z; have := hg253; omega) hch281).trans ht277)
    have ht286 : (upd ty265 c246 (nI r259)) c207 = nI r220 := ((ChE.at hF (by omega) hn9 h209 h248 hp210 hp249 (fun e => by have z := hg214; rw [e] at z; have := hg253; omega) hch281).trans ht278)
    have hy287 : If (fa260 = 0) (Typ B dc fd md nd (upd ty265 c246 (nI r259)) mn266 vt sc k9 c246) := (fun e => Typ0.st hF (by omega) h248 (h273 e))
    have ht288 : (upd ty265 c246 (nI r259)) c246 = nI r259 := upd_eq
    refine lv_aload_n hx hb dX12_chosen_135 rfl (lv_at hl 7 rfl) ?_
    refine lv_dup hx hb dX12_chosen_136 rfl ?_
    refine r_get (v := .int wt263) hx hb hown hq hE hP 78 551 tFX12_78 (by decide) pw_1805 rfl dX12_chosen_137 ?_
    refine lv_iload hx hb dX12_chosen_140 (lv_at hl 2 rfl) ?_
    refine lv_iand hx hb dX12_chosen_142 ?_
    refine lv_topi (fun x289 e290 => ?_)
    refine r_put (v := x289) (ty := .int) hx hb hown hq hE hP hD hS 78 551 tFX12_78 (by decide) pw_1805 (by decide) rfl rfl (ms_78 a _ _) dX12_chosen_143 (fun H locs hP hD hS => ?_)
    refine lv_aload_n hx hb dX12_chosen_146 rfl (lv_at hl 7 rfl) ?_
    refine lv_dup hx hb dX12_chosen_147 rfl ?_
    refine r_get (v := .int wf264) hx hb hown hq hE hP 79 554 tFX12_79 (by decide) pw_1806 rfl dX12_chosen_148 ?_
    refine lv_iload hx hb dX12_chosen_151 (lv_at hl 1 rfl) ?_
    refine lv_iand hx hb dX12_chosen_153 ?_
    refine lv_topi (fun x291 e292 => ?_)
    refine r_put (v := x291) (ty := .int) hx hb hown hq hE hP hD hS 79 554 tFX12_79 (by decide) pw_1806 (by decide) rfl rfl (ms_79 a _ _) dX12_chosen_154 (fun H locs hP hD hS => ?_)
    refine lv_aload_n hx hb dX12_chosen_157 rfl (lv_at hl 7 rfl) ?_
    refine lv_aload_n hx hb dX12_chosen_158 rfl (lv_at hl 7 rfl) ?_
    refine lv_iload hx hb dX12_chosen_159 (lv_at hl 3 rfl) ?_
    refine lv_iload hx hb dX12_chosen_161 (lv_at hl 0 rfl) ?_
    have hP : va_P G.1 pCl (mW G h0 a (upd (upd (upd (upd (upd (upd (upd (upd (upd F 15 (nI fa260)) 16 pl261) 44 (nI fd)) 49 (nI md)) 73 (nI sc)) 74 (nI k9)) 77 dn262) 78 x289) 79 x291) (updA (updA (updA (updA (updA (updA B 14 nc) 17 (upd ty265 c246 (nI r259))) 18 mn266) 48 vn) 49 vt) 31 (B 31))) _ := mW_to (F := F) (l1 := [(15, (nI fa260)), (16, pl261), (44, (nI fd)), (49, (nI md)), (73, (nI sc)), (74, (nI k9)), (77, dn262), (78, wt263), (79, wf264), (78, x289), (79, x291)]) (l2 := [(15, (nI fa260)), (16, pl261), (44, (nI fd)), (49, (nI md)), (73, (nI sc)), (74, (nI k9)), (77, dn262), (78, x289), (79, x291)]) (V := [(nI fa260), pl261, (nI fd), (nI md), (nI sc), (nI k9), dn262, x289, x291, x289, x291, (nI fa260), pl261, (nI fd), (nI md), (nI sc), (nI k9), dn262, x289, x291]) rfl rfl (show (updA (updA (updA (updA (updA (updA B 14 nc) 17 ty265) 18 mn266) 48 vn) 49 vt) 17 (upd ty265 c246 (nI r259))) = (updA (updA (updA (updA (updA (updA B 14 nc) 17 (upd ty265 c246 (nI r259))) 18 mn266) 48 vn) 49 vt) 31 (B 31)) from updsA_eq2 (F := B) (l1 := [(14, nc), (17, ty265), (18, mn266), (48, vn), (49, vt), (17, (upd ty265 c246 (nI r259)))]) (l2 := [(14, nc), (17, (upd ty265 c246 (nI r259))), (18, mn266), (48, vn), (49, vt), (31, (B 31))]) (V := [nc, (upd ty265 c246 (nI r259)), mn266, vn, vt, (upd ty265 c246 (nI r259)), nc, (upd ty265 c246 (nI r259)), mn266, vn, vt, (B 31)]) rfl rfl) hP
    have hD : va_D A (mW G h0 a (upd (upd (upd (upd (upd (upd (upd (upd (upd F 15 (nI fa260)) 16 pl261) 44 (nI fd)) 49 (nI md)) 73 (nI sc)) 74 (nI k9)) 77 dn262) 78 x289) 79 x291) (updA (updA (updA (updA (updA (updA B 14 nc) 17 (upd ty265 c246 (nI r259))) 18 mn266) 48 vn) 49 vt) 31 (B 31))) := mW_D hD
    refine pc_V0 (G := G) (As := [.int (nI r220), .int (nI r259)]) (rest := [.ref h0]) hx hb hml hown hq hE hX pX0_al hP hD hS hA hl.1 (R_areSides l G h0 a (upd (upd (upd (upd (upd (upd (upd (upd (upd F 15 (nI fa260)) 16 pl261) 44 (nI fd)) 49 (nI md)) 73 (nI sc)) 74 (nI k9)) 77 dn262) 78 x289) 79 x291) (updA (updA (updA (updA (updA B 14 nc) 17 (upd ty265 c246 (nI r259))) 18 mn266) 48 vn) 49 vt) r220 r259 dc (B 31) h230 h269 (by omega) hBI) (gV pw_1818 pw_1819 pw_1820 pw_1523 pw_1803) hV_X12_areSides 0 9 rfl rfl rfl rfl (Nat.le_of_ble_eq_true rfl) dX12_chosen_163 ⟨Nat.le_of_ble_eq_true rfl, Nat.le_of_ble_eq_true rfl⟩ ⟨(by show 5 + 1 ≤ (4 * z9 + 9); omega), (by show 8 + (3 + 11) + 126 ≤ (160 * z9 + 1360); omega)⟩ (fun v295 u293 H locs hw294 hP hD hS => ?_)
    obtain ⟨r296, rfl⟩ : ∃ z, z = u293 := ⟨_, rfl⟩
    obtain ⟨hw294, h297, h298⟩ := hw294
    replace h297 : r296 ≤ 1 := h297
    replace h298 : If (r296 = 1) (SideP (B 31) r220 r259) := h298
    obtain rfl : v295 = some (.int (nI r296)) := hw294
    have hP : va_P G.1 pCl (mW G h0 a (upd (upd (upd (upd (upd (upd (upd (upd (upd F 15 (nI fa260)) 16 pl261) 44 (nI fd)) 49 (nI md)) 73 (nI sc)) 74 (nI k9)) 77 dn262) 78 x289) 79 x291) (updA (updA (updA (updA (updA B 14 nc) 17 (upd ty265 c246 (nI r259))) 18 mn266) 48 vn) 49 vt)) _ := mW_to (F := F) (l1 := [(15, (nI fa260)), (16, pl261), (44, (nI fd)), (49, (nI md)), (73, (nI sc)), (74, (nI k9)), (77, dn262), (78, x289), (79, x291)]) (l2 := [(15, (nI fa260)), (16, pl261), (44, (nI fd)), (49, (nI md)), (73, (nI sc)), (74, (nI k9)), (77, dn262), (78, x289), (79, x291)]) (V := [(nI fa260), pl261, (nI fd), (nI md), (nI sc), (nI k9), dn262, x289, x291, (nI fa260), pl261, (nI fd), (nI md), (nI sc), (nI k9), dn262, x289, x291]) rfl rfl (show (updA (updA (updA (updA (updA (updA B 14 nc) 17 (upd ty265 c246 (nI r259))) 18 mn266) 48 vn) 49 vt) 31 (B 31)) = (updA (updA (updA (updA (updA B 14 nc) 17 (upd ty265 c246 (nI r259))) 18 mn266) 48 vn) 49 vt) from updsA_eq2 (F := B) (l1 := [(14, nc), (17, (upd ty265 c246 (nI r259))), (18, mn266), (48, vn), (49, vt), (31, (B 31))]) (l2 := [(14, nc), (17, (upd ty265 c246 (nI r259))), (18, mn266), (48, vn), (49, vt)]) (V := [nc, (upd ty265 c246 (nI r259)), mn266, vn, vt, (B 31), nc, (upd ty265 c246 (nI r259)), mn266, vn, vt]) rfl rfl) hP
    have hD : va_D A (mW G h0 a (upd (upd (upd (upd (upd (upd (upd (upd (upd F 15 (nI fa260)) 16 pl261) 44 (nI fd)) 49 (nI md)) 73 (nI sc)) 74 (nI k9)) 77 dn262) 78 x289) 79 x291) (updA (updA (updA (updA (updA B 14 nc) 17 (upd ty265 c246 (nI r259))) 18 mn266) 48 vn) 49 vt)) := mW_D hD
    refine W.widen (k := 0) (n := 0) (Nat.le_of_ble_eq_true rfl) (Nat.le_of_ble_eq_true rfl) ?_
    refine W.eq (g2 := F0 m 166 ls [.int (nI r296), .ref h0]) rfl ?_
    refine lv_bipush (v := 11) hx hb dX12_chosen_166 (by decide) ?_
    refine lv_aload_n hx hb dX12_chosen_168 rfl (lv_at hl 7 rfl) ?_
    refine r_get (v := .ref (a 11)) hx hb hown hq hE hP 19 44 tFX12_19 (by decide) pw_1441 rfl dX12_chosen_169 ?_
    refine lv_iload_n hx hb dX12_chosen_172 rfl (lv_at hl 8 rfl) ?_
    refine r_ldi (f := (B 11)) (j := n9) hx hb hE hP 11 (ma_11 G a _) rfl (by omega) (by decide) dX12_chosen_173 ?_
    obtain ⟨-, ⟨t299, e300, h301, -⟩, -⟩ := hF n9 hn9
    refine lv_topi (fun x302 e303 => ?_)
    obtain rfl : x302 = nI t299 := e303.trans e300
    have hP : va_P G.1 pCl (mW G h0 a (upd (upd (upd (upd (upd (upd (upd (upd (upd (upd F 15 (nI fa260)) 16 pl261) 44 (nI fd)) 49 (nI md)) 73 (nI sc)) 74 (nI k9)) 77 dn262) 78 x289) 79 x291) 15 (nI fa260)) (updA (updA (updA (updA (updA B 14 nc) 17 (upd ty265 c246 (nI r259))) 18 mn266) 48 vn) 49 vt)) _ := mW_to (F := F) (l1 := [(15, (nI fa260)), (16, pl261), (44, (nI fd)), (49, (nI md)), (73, (nI sc)), (74, (nI k9)), (77, dn262), (78, x289), (79, x291)]) (l2 := [(15, (nI fa260)), (16, pl261), (44, (nI fd)), (49, (nI md)), (73, (nI sc)), (74, (nI k9)), (77, dn262), (78, x289), (79, x291), (15, (nI fa260))]) (V := [(nI fa260), pl261, (nI fd), (nI md), (nI sc), (nI k9), dn262, x289, x291, (nI fa260), pl261, (nI fd), (nI md), (nI sc), (nI k9), dn262, x289, x291, (nI fa260)]) rfl rfl rfl hP
    have hD : va_D A (mW G h0 a (upd (upd (upd (upd (upd (upd (upd (upd (upd (upd F 15 (nI fa260)) 16 pl261) 44 (nI fd)) 49 (nI md)) 73 (nI sc)) 74 (nI k9)) 77 dn262) 78 x289) 79 x291) 15 (nI fa260)) (updA (updA (updA (updA (updA B 14 nc) 17 (upd ty265 c246 (nI r259))) 18 mn266) 48 vn) 49 vt)) := mW_D hD
    refine pc_V0 (G := G) (As := [.int (nI r296), .int (nI 11), .int (nI t299)]) (rest := []) hx hb hml hown hq hE hX pX0_al hP hD hS hA hl.1 (R_judgeL l G h0 a (upd (upd (upd (upd (upd (upd (upd (upd (upd F 15 (nI fa260)) 16 pl261) 44 (nI fd)) 49 (nI md)) 73 (nI sc)) 74 (nI k9)) 77 dn262) 78 x289) 79 x291) (updA (updA (updA (updA (updA B 14 nc) 17 (upd ty265 c246 (nI r259))) 18 mn266) 48 vn) 49 vt) r296 11 t299 fa260 (by omega) (by omega) (by omega) (by omega)) (gV pw_1798 pw_1799 pw_1800 pw_1523 pw_1793) hV_X12_judge 0 9 rfl rfl rfl rfl (Nat.le_of_ble_eq_true rfl) dX12_chosen_174 ⟨Nat.le_of_ble_eq_true rfl, Nat.le_of_ble_eq_true rfl⟩ ⟨(by show 3 + 1 ≤ (4 * z9 + 9); omega), (by show 8 + (4 + 11) + 82 ≤ (160 * z9 + 1360); omega)⟩ (fun v306 u304 H locs hw305 hP hD hS => ?_)
    obtain ⟨r307, fa308, pl309⟩ := u304
    obtain ⟨hw305, h310, h311, h312, h313, h314, h315, h316⟩ := hw305
    replace h310 : r307 ≤ 1 := h310
    replace h311 : fa260 ≤ fa308 := h311
    replace h312 : fa308 ≤ 15 := h312
    replace h313 : fa308 + 15 * r307 ≤ 15 := h313
    replace h314 : 1 ≤ r307 + fa308 := h314
    replace h315 : 1 ≤ r296 + fa308 := h315
    replace h316 : fa308 ≤ fa260 + 15 * (1 - r296) := h316
    obtain rfl : v306 = some (.int (nI r307)) := hw305
    have hP : va_P G.1 pCl (mW G h0 a (upd (upd (upd (upd (upd (upd (upd (upd (upd F 15 (nI fa308)) 16 pl309) 44 (nI fd)) 49 (nI md)) 73 (nI sc)) 74 (nI k9)) 77 dn262) 78 x289) 79 x291) (updA (updA (updA (updA (updA B 14 nc) 17 (upd ty265 c246 (nI r259))) 18 mn266) 48 vn) 49 vt)) _ := mW_to (F := F) (l1 := [(15, (nI fa260)), (16, pl261), (44, (nI fd)), (49, (nI md)), (73, (nI sc)), (74, (nI k9)), (77, dn262), (78, x289), (79, x291), (15, (nI fa308)), (16, pl309)]) (l2 := [(15, (nI fa308)), (16, pl309), (44, (nI fd)), (49, (nI md)), (73, (nI sc)), (74, (nI k9)), (77, dn262), (78, x289), (79, x291)]) (V := [(nI fa308), pl309, (nI fd), (nI md), (nI sc), (nI k9), dn262, x289, x291, (nI fa308), pl309, (nI fa308), pl309, (nI fd), (nI md), (nI sc), (nI k9), dn262, x289, x291]) rfl rfl rfl hP
    have hD : va_D A (mW G h0 a (upd (upd (upd (upd (upd (upd (upd (upd (upd F 15 (nI fa308)) 16 pl309) 44 (nI fd)) 49 (nI md)) 73 (nI sc)) 74 (nI k9)) 77 dn262) 78 x289) 79 x291) (updA (updA (updA (updA (updA B 14 nc) 17 (upd ty265 c246 (nI r259))) 18 mn266) 48 vn) 49 vt)) := mW_D hD
    refine W.widen (k := 0) (n := 0) (Nat.le_of_ble_eq_true rfl) (Nat.le_of_ble_eq_true rfl) ?_
    refine W.eq (g2 := F0 m 177 ls [.int (nI r307)]) rfl ?_
    refine lv_pop hx hb dX12_chosen_177 rfl ?_
    refine lv_aload_n hx hb dX12_chosen_178 rfl (lv_at hl 7 rfl) ?_
    refine lv_iload hx hb dX12_chosen_179 (lv_at hl 3 rfl) ?_
    refine lv_iload hx hb dX12_chosen_181 (lv_at hl 0 rfl) ?_
    have hP : va_P G.1 pCl (mW G h0 a (upd (upd (upd (upd (upd (upd (upd (upd (upd F 15 (nI fa308)) 16 pl309) 44 (nI fd)) 49 (nI md)) 73 (nI sc)) 74 (nI k9)) 77 dn262) 78 x289) 79 x291) (updA (updA (updA (updA (updA (updA B 14 nc) 17 (upd ty265 c246 (nI r259))) 18 mn266) 48 vn) 49 vt) 31 (B 31))) _ := mW_to (F := F) (l1 := [(15, (nI fa308)), (16, pl309), (44, (nI fd)), (49, (nI md)), (73, (nI sc)), (74, (nI k9)), (77, dn262), (78, x289), (79, x291)]) (l2 := [(15, (nI fa308)), (16, pl309), (44, (nI fd)), (49, (nI md)), (73, (nI sc)), (74, (nI k9)), (77, dn262), (78, x289), (79, x291)]) (V := [(nI fa308), pl309, (nI fd), (nI md), (nI sc), (nI k9), dn262, x289, x291, (nI fa308), pl309, (nI fd), (nI md), (nI sc), (nI k9), dn262, x289, x291]) rfl rfl (show (updA (updA (updA (updA (updA B 14 nc) 17 (upd ty265 c246 (nI r259))) 18 mn266) 48 vn) 49 vt) = (updA (updA (updA (updA (updA (updA B 14 nc) 17 (upd ty265 c246 (nI r259))) 18 mn266) 48 vn) 49 vt) 31 (B 31)) from updsA_eq2 (F := B) (l1 := [(14, nc), (17, (upd ty265 c246 (nI r259))), (18, mn266), (48, vn), (49, vt)]) (l2 := [(14, nc), (17, (upd ty265 c246 (nI r259))), (18, mn266), (48, vn), (49, vt), (31, (B 31))]) (V := [nc, (upd ty265 c246 (nI r259)), mn266, vn, vt, nc, (upd ty265 c246 (nI r259)), mn266, vn, vt, (B 31)]) rfl rfl) hP
    have hD : va_D A (mW G h0 a (upd (upd (upd (upd (upd (upd (upd (upd (upd F 15 (nI fa308)) 16 pl309) 44 (nI fd)) 49 (nI md)) 73 (nI sc)) 74 (nI k9)) 77 dn262) 78 x289) 79 x291) (updA (updA (updA (updA (updA (updA B 14 nc) 17 (upd ty265 c246 (nI r259))) 18 mn266) 48 vn) 49 vt) 31 (B 31))) := mW_D hD
    refine pc_V0 (G := G) (As := [.int (nI r220), .int (nI r259)]) (rest := []) hx hb hml hown hq hE hX pX0_al hP hD hS hA hl.1 (R_fits l G h0 a (upd (upd (upd (upd (upd (upd (upd (upd (upd F 15 (nI fa308)) 16 pl309) 44 (nI fd)) 49 (nI md)) 73 (nI sc)) 74 (nI k9)) 77 dn262) 78 x289) 79 x291) (updA (updA (updA (updA (updA B 14 nc) 17 (upd ty265 c246 (nI r259))) 18 mn266) 48 vn) 49 vt) r220 r259 dc (B 31) h230 h269 (by omega) hBI) (gV pw_1790 pw_1791 pw_1792 pw_1523 pw_1782) hV_X12_fits 0 9 rfl rfl rfl rfl (Nat.le_of_ble_eq_true rfl) dX12_chosen_183 ⟨Nat.le_of_ble_eq_true rfl, Nat.le_of_ble_eq_true rfl⟩ ⟨(by show 4 + 1 ≤ (4 * z9 + 9); omega), (by show 8 + (3 + 11) + 104 ≤ (160 * z9 + 1360); omega)⟩ (fun v319 u317 H locs hw318 hP hD hS => ?_)
    obtain rfl : v319 = some (.int (fitF (B 31) r220 r259)) := hw318
    have hP : va_P G.1 pCl (mW G h0 a (upd (upd (upd (upd (upd (upd (upd (upd (upd F 15 (nI fa308)) 16 pl309) 44 (nI fd)) 49 (nI md)) 73 (nI sc)) 74 (nI k9)) 77 dn262) 78 x289) 79 x291) (updA (updA (updA (updA (updA B 14 nc) 17 (upd ty265 c246 (nI r259))) 18 mn266) 48 vn) 49 vt)) _ := mW_to (F := F) (l1 := [(15, (nI fa308)), (16, pl309), (44, (nI fd)), (49, (nI md)), (73, (nI sc)), (74, (nI k9)), (77, dn262), (78, x289), (79, x291)]) (l2 := [(15, (nI fa308)), (16, pl309), (44, (nI fd)), (49, (nI md)), (73, (nI sc)), (74, (nI k9)), (77, dn262), (78, x289), (79, x291)]) (V := [(nI fa308), pl309, (nI fd), (nI md), (nI sc), (nI k9), dn262, x289, x291, (nI fa308), pl309, (nI fd), (nI md), (nI sc), (nI k9), dn262, x289, x291]) rfl rfl (show (updA (updA (updA (updA (updA (updA B 14 nc) 17 (upd ty265 c246 (nI r259))) 18 mn266) 48 vn) 49 vt) 31 (B 31)) = (updA (updA (updA (updA (updA B 14 nc) 17 (upd ty265 c246 (nI r259))) 18 mn266) 48 vn) 49 vt) from updsA_eq2 (F := B) (l1 := [(14, nc), (17, (upd ty265 c246 (nI r259))), (18, mn266), (48, vn), (49, vt), (31, (B 31))]) (l2 := [(14, nc), (17, (upd ty265 c246 (nI r259))), (18, mn266), (48, vn), (49, vt)]) (V := [nc, (upd ty265 c246 (nI r259)), mn266, vn, vt, (B 31), nc, (upd ty265 c246 (nI r259)), mn266, vn, vt]) rfl rfl) hP
    have hD : va_D A (mW G h0 a (upd (upd (upd (upd (upd (upd (upd (upd (upd F 15 (nI fa308)) 16 pl309) 44 (nI fd)) 49 (nI md)) 73 (nI sc)) 74 (nI k9)) 77 dn262) 78 x289) 79 x291) (updA (updA (updA (updA (updA B 14 nc) 17 (upd ty265 c246 (nI r259))) 18 mn266) 48 vn) 49 vt)) := mW_D hD
    refine W.widen (k := 0) (n := 0) (Nat.le_of_ble_eq_true rfl) (Nat.le_of_ble_eq_true rfl) ?_
    refine W.eq (g2 := F0 m 186 ls [.int (fitF (B 31) r220 r259)]) rfl ?_
    refine lv_if_eq (tgt := 194) hx hb dX12_chosen_186 (by decide) (fun c320 => ?_) (fun c320 => ?_)
    · refine lv_iload hx hb dX12_chosen_194 (lv_at hl 3 rfl) ?_
      have hz321 : fa ≤ fa308 := (by omega)
      have hz322 : fa308 ≤ 15 := (by omega)
      have hz323 : TyC dc r220 := h230
      have hz324 : r220 ≤ 2050 := (by omega)
      have hz325 : ChE B nd n9 ty (upd ty265 c246 (nI r259)) mn mn266 := hch282
      have hz326 : mnN B nd mn266 := h272
      have hz327 : If (fa308 = 0) (Typ0 B dc fd md nd (upd ty265 c246 (nI r259)) mn266 vt sc k9 n9 (nI r220)) := (fun e => by have z := SideP.fT (da := B 31) (h298 (by omega)) hBI h230 h269 (by omega) c320; exact Typ0.of (kids (kk := 23) (c1 := c1) (c2 := c207) (c3 := c246) hkd (by decide) ⟨by omega, by omega, by omega⟩ (Or.inr ⟨by decide, e2⟩) (Or.inr ⟨by decide, e208⟩) (Or.inr ⟨by decide, e247⟩) (by decide) (hy283 (by omega)) (hy284 (by omega)) (hy287 (by omega))) (LT23 hkd hh7 hh213 hh252 (ht285.trans (by rw [show r14 = 2 by omega]; rfl)) (by rw [ht286]; exact z.2) (by rw [ht288]; exact z.1) (Or.inl ht286)))
      have hP : va_P G.1 pCl (mW G h0 a (upd (upd (upd (upd (upd (upd (upd (upd (upd F 15 (nI fa308)) 16 pl309) 44 (nI fd)) 49 (nI md)) 73 (nI sc)) 74 (nI k9)) 77 dn262) 78 x289) 79 x291) (updA (updA (updA (updA (updA B 14 nc) 17 (upd ty265 c246 (nI r259))) 18 mn266) 48 vn) 49 vt)) _ := hP
      have hD : va_D A (mW G h0 a (upd (upd (upd (upd (upd (upd (upd (upd (upd F 15 (nI fa308)) 16 pl309) 44 (nI fd)) 49 (nI md)) 73 (nI sc)) 74 (nI k9)) 77 dn262) 78 x289) 79 x291) (updA (updA (updA (updA (updA B 14 nc) 17 (upd ty265 c246 (nI r259))) 18 mn266) 48 vn) 49 vt)) := mW_D hD
      exact W.iret (v := (nI r220)) hx hb hr (fun t9 ht9 hW9 => ⟨⟨_, (r220, fa308, pl309, dn262, x289, x291, (upd ty265 c246 (nI r259)), mn266), rfl, ⟨rfl, hz321, hz322, hz323, hz324, hz325, hz326, hz327⟩, by rw [ht9]; exact hP, hD⟩, hS.F ht9⟩) hS.2.2 dX12_chosen_196
    · refine lv_iload hx hb dX12_chosen_189 (lv_at hl 0 rfl) ?_
      refine lv_goto (tgt := 196) hx hb dX12_chosen_191 (by decide) ?_
      have hz328 : fa ≤ fa308 := (by omega)
      have hz329 : fa308 ≤ 15 := (by omega)
      have hz330 : TyC dc r259 := h269
      have hz331 : r259 ≤ 2050 := (by omega)
      have hz332 : ChE B nd n9 ty (upd ty265 c246 (nI r259)) mn mn266 := hch282
      have hz333 : mnN B nd mn266 := h272
      have hz334 : If (fa308 = 0) (Typ0 B dc fd md nd (upd ty265 c246 (nI r259)) mn266 vt sc k9 n9 (nI r259)) := (fun e => by have z := SideP.fF (da := B 31) (h298 (by omega)) hBI h230 h269 (by omega) c320; exact Typ0.of (kids (kk := 23) (c1 := c1) (c2 := c207) (c3 := c246) hkd (by decide) ⟨by omega, by omega, by omega⟩ (Or.inr ⟨by decide, e2⟩) (Or.inr ⟨by decide, e208⟩) (Or.inr ⟨by decide, e247⟩) (by decide) (hy283 (by omega)) (hy284 (by omega)) (hy287 (by omega))) (LT23 hkd hh7 hh213 hh252 (ht285.trans (by rw [show r14 = 2 by omega]; rfl)) (by rw [ht286]; exact z.1) (by rw [ht288]; exact z.2) (Or.inr ht288)))
      have hP : va_P G.1 pCl (mW G h0 a (upd (upd (upd (upd (upd (upd (upd (upd (upd F 15 (nI fa308)) 16 pl309) 44 (nI fd)) 49 (nI md)) 73 (nI sc)) 74 (nI k9)) 77 dn262) 78 x289) 79 x291) (updA (updA (updA (updA (updA B 14 nc) 17 (upd ty265 c246 (nI r259))) 18 mn266) 48 vn) 49 vt)) _ := hP
      have hD : va_D A (mW G h0 a (upd (upd (upd (upd (upd (upd (upd (upd (upd F 15 (nI fa308)) 16 pl309) 44 (nI fd)) 49 (nI md)) 73 (nI sc)) 74 (nI k9)) 77 dn262) 78 x289) 79 x291) (updA (updA (updA (updA (updA B 14 nc) 17 (upd ty265 c246 (nI r259))) 18 mn266) 48 vn) 49 vt)) := mW_D hD
      exact W.iret (v := (nI r259)) hx hb hr (fun t9 ht9 hW9 => ⟨⟨_, (r259, fa308, pl309, dn262, x289, x291, (upd ty265 c246 (nI r259)), mn266), rfl, ⟨rfl, hz328, hz329, hz330, hz331, hz332, hz333, hz334⟩, by rw [ht9]; exact hP, hD⟩, hS.F ht9⟩) hS.2.2 dX12_chosen_196

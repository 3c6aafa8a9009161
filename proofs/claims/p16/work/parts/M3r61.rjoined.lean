theorem dX12_joined_0 : decode cX12_joined 0 = .ok (.aload_n 0, 1) := by decide +kernel
theorem dX12_joined_1 : decode cX12_joined 1 = .ok (.getfield 38, 3) := by decide +kernel
theorem dX12_joined_4 : decode cX12_joined 4 = .ok (.iload_n 1, 1) := by decide +kernel
theorem dX12_joined_5 : decode cX12_joined 5 = .ok (.iaload, 1) := by decide +kernel
theorem dX12_joined_6 : decode cX12_joined 6 = .ok (.bipush 19, 2) := by decide +kernel
theorem dX12_joined_8 : decode cX12_joined 8 = .ok (.if_icmp .ne 7, 3) := by decide +kernel
theorem dX12_joined_11 : decode cX12_joined 11 = .ok (.iconst 1, 1) := by decide +kernel
theorem dX12_joined_12 : decode cX12_joined 12 = .ok (.goto 4, 3) := by decide +kernel
theorem dX12_joined_16 : decode cX12_joined 16 = .ok (.istore_n 2, 1) := by decide +kernel
theorem dX12_joined_17 : decode cX12_joined 17 = .ok (.aload_n 0, 1) := by decide +kernel
theorem dX12_joined_18 : decode cX12_joined 18 = .ok (.aload_n 0, 1) := by decide +kernel
theorem dX12_joined_19 : decode cX12_joined 19 = .ok (.getfield 47, 3) := by decide +kernel
theorem dX12_joined_22 : decode cX12_joined 22 = .ok (.iload_n 1, 1) := by decide +kernel
theorem dX12_joined_23 : decode cX12_joined 23 = .ok (.iaload, 1) := by decide +kernel
theorem dX12_joined_24 : decode cX12_joined 24 = .ok (.invokevirtual 548, 3) := by decide +kernel
theorem dX12_joined_27 : decode cX12_joined 27 = .ok (.istore_n 3, 1) := by decide +kernel
theorem dX12_joined_28 : decode cX12_joined 28 = .ok (.aload_n 0, 1) := by decide +kernel
theorem dX12_joined_29 : decode cX12_joined 29 = .ok (.getfield 62, 3) := by decide +kernel
theorem dX12_joined_32 : decode cX12_joined 32 = .ok (.aload_n 0, 1) := by decide +kernel
theorem dX12_joined_33 : decode cX12_joined 33 = .ok (.getfield 47, 3) := by decide +kernel
theorem dX12_joined_36 : decode cX12_joined 36 = .ok (.iload_n 1, 1) := by decide +kernel
theorem dX12_joined_37 : decode cX12_joined 37 = .ok (.iaload, 1) := by decide +kernel
theorem dX12_joined_38 : decode cX12_joined 38 = .ok (.iload_n 3, 1) := by decide +kernel
theorem dX12_joined_39 : decode cX12_joined 39 = .ok (.iastore, 1) := by decide +kernel
theorem dX12_joined_40 : decode cX12_joined 40 = .ok (.aload_n 0, 1) := by decide +kernel
theorem dX12_joined_41 : decode cX12_joined 41 = .ok (.iload_n 3, 1) := by decide +kernel
theorem dX12_joined_42 : decode cX12_joined 42 = .ok (.iconst 2, 1) := by decide +kernel
theorem dX12_joined_43 : decode cX12_joined 43 = .ok (.if_icmp .ne 7, 3) := by decide +kernel
theorem dX12_joined_50 : decode cX12_joined 50 = .ok (.iconst 0, 1) := by decide +kernel
theorem dX12_joined_51 : decode cX12_joined 51 = .ok (.bipush 11, 2) := by decide +kernel
theorem dX12_joined_53 : decode cX12_joined 53 = .ok (.aload_n 0, 1) := by decide +kernel
theorem dX12_joined_54 : decode cX12_joined 54 = .ok (.getfield 41, 3) := by decide +kernel
theorem dX12_joined_57 : decode cX12_joined 57 = .ok (.aload_n 0, 1) := by decide +kernel
theorem dX12_joined_58 : decode cX12_joined 58 = .ok (.getfield 47, 3) := by decide +kernel
theorem dX12_joined_61 : decode cX12_joined 61 = .ok (.iload_n 1, 1) := by decide +kernel
theorem dX12_joined_62 : decode cX12_joined 62 = .ok (.iaload, 1) := by decide +kernel
theorem dX12_joined_63 : decode cX12_joined 63 = .ok (.iaload, 1) := by decide +kernel
theorem dX12_joined_64 : decode cX12_joined 64 = .ok (.invokevirtual 540, 3) := by decide +kernel
theorem dX12_joined_67 : decode cX12_joined 67 = .ok (.pop, 1) := by decide +kernel
theorem dX12_joined_68 : decode cX12_joined 68 = .ok (.aload_n 0, 1) := by decide +kernel
theorem dX12_joined_69 : decode cX12_joined 69 = .ok (.getfield 551, 3) := by decide +kernel
theorem dX12_joined_72 : decode cX12_joined 72 = .ok (.istore 4, 2) := by decide +kernel
theorem dX12_joined_74 : decode cX12_joined 74 = .ok (.aload_n 0, 1) := by decide +kernel
theorem dX12_joined_75 : decode cX12_joined 75 = .ok (.getfield 554, 3) := by decide +kernel
theorem dX12_joined_78 : decode cX12_joined 78 = .ok (.istore 5, 2) := by decide +kernel
theorem dX12_joined_80 : decode cX12_joined 80 = .ok (.aload_n 0, 1) := by decide +kernel
theorem dX12_joined_81 : decode cX12_joined 81 = .ok (.iload_n 2, 1) := by decide +kernel
theorem dX12_joined_82 : decode cX12_joined 82 = .ok (.ifCond .eq 8, 3) := by decide +kernel
theorem dX12_joined_85 : decode cX12_joined 85 = .ok (.iload 4, 2) := by decide +kernel
theorem dX12_joined_87 : decode cX12_joined 87 = .ok (.goto 5, 3) := by decide +kernel
theorem dX12_joined_92 : decode cX12_joined 92 = .ok (.putfield 544, 3) := by decide +kernel
theorem dX12_joined_95 : decode cX12_joined 95 = .ok (.aload_n 0, 1) := by decide +kernel
theorem dX12_joined_96 : decode cX12_joined 96 = .ok (.aload_n 0, 1) := by decide +kernel
theorem dX12_joined_97 : decode cX12_joined 97 = .ok (.getfield 50, 3) := by decide +kernel
theorem dX12_joined_100 : decode cX12_joined 100 = .ok (.iload_n 1, 1) := by decide +kernel
theorem dX12_joined_101 : decode cX12_joined 101 = .ok (.iaload, 1) := by decide +kernel
theorem dX12_joined_102 : decode cX12_joined 102 = .ok (.invokevirtual 548, 3) := by decide +kernel
theorem dX12_joined_105 : decode cX12_joined 105 = .ok (.istore 6, 2) := by decide +kernel
theorem dX12_joined_107 : decode cX12_joined 107 = .ok (.aload_n 0, 1) := by decide +kernel
theorem dX12_joined_108 : decode cX12_joined 108 = .ok (.getfield 62, 3) := by decide +kernel
theorem dX12_joined_111 : decode cX12_joined 111 = .ok (.aload_n 0, 1) := by decide +kernel
theorem dX12_joined_112 : decode cX12_joined 112 = .ok (.getfield 50, 3) := by decide +kernel
theorem dX12_joined_115 : decode cX12_joined 115 = .ok (.iload_n 1, 1) := by decide +kernel
theorem dX12_joined_116 : decode cX12_joined 116 = .ok (.iaload, 1) := by decide +kernel
theorem dX12_joined_117 : decode cX12_joined 117 = .ok (.iload 6, 2) := by decide +kernel
theorem dX12_joined_119 : decode cX12_joined 119 = .ok (.iastore, 1) := by decide +kernel
theorem dX12_joined_120 : decode cX12_joined 120 = .ok (.aload_n 0, 1) := by decide +kernel
theorem dX12_joined_121 : decode cX12_joined 121 = .ok (.iload 6, 2) := by decide +kernel
theorem dX12_joined_123 : decode cX12_joined 123 = .ok (.iconst 2, 1) := by decide +kernel
theorem dX12_joined_124 : decode cX12_joined 124 = .ok (.if_icmp .ne 7, 3) := by decide +kernel
theorem dX12_joined_131 : decode cX12_joined 131 = .ok (.iconst 0, 1) := by decide +kernel
theorem dX12_joined_132 : decode cX12_joined 132 = .ok (.bipush 11, 2) := by decide +kernel
theorem dX12_joined_134 : decode cX12_joined 134 = .ok (.aload_n 0, 1) := by decide +kernel
theorem dX12_joined_135 : decode cX12_joined 135 = .ok (.getfield 41, 3) := by decide +kernel
theorem dX12_joined_138 : decode cX12_joined 138 = .ok (.aload_n 0, 1) := by decide +kernel
theorem dX12_joined_139 : decode cX12_joined 139 = .ok (.getfield 50, 3) := by decide +kernel
theorem dX12_joined_142 : decode cX12_joined 142 = .ok (.iload_n 1, 1) := by decide +kernel
theorem dX12_joined_143 : decode cX12_joined 143 = .ok (.iaload, 1) := by decide +kernel
theorem dX12_joined_144 : decode cX12_joined 144 = .ok (.iaload, 1) := by decide +kernel
theorem dX12_joined_145 : decode cX12_joined 145 = .ok (.invokevirtual 540, 3) := by decide +kernel
theorem dX12_joined_148 : decode cX12_joined 148 = .ok (.pop, 1) := by decide +kernel
theorem dX12_joined_149 : decode cX12_joined 149 = .ok (.iload_n 2, 1) := by decide +kernel
theorem dX12_joined_150 : decode cX12_joined 150 = .ok (.ifCond .eq 17, 3) := by decide +kernel
theorem dX12_joined_153 : decode cX12_joined 153 = .ok (.aload_n 0, 1) := by decide +kernel
theorem dX12_joined_154 : decode cX12_joined 154 = .ok (.iload 5, 2) := by decide +kernel
theorem dX12_joined_156 : decode cX12_joined 156 = .ok (.aload_n 0, 1) := by decide +kernel
theorem dX12_joined_157 : decode cX12_joined 157 = .ok (.getfield 554, 3) := by decide +kernel
theorem dX12_joined_160 : decode cX12_joined 160 = .ok (.iand, 1) := by decide +kernel
theorem dX12_joined_161 : decode cX12_joined 161 = .ok (.putfield 554, 3) := by decide +kernel
theorem dX12_joined_164 : decode cX12_joined 164 = .ok (.goto 14, 3) := by decide +kernel
theorem dX12_joined_178 : decode cX12_joined 178 = .ok (.iconst 2, 1) := by decide +kernel
theorem dX12_joined_179 : decode cX12_joined 179 = .ok (.ireturn, 1) := by decide +kernel
theorem dX12_joined_127 : decode cX12_joined 127 = .ok (.iconst 1, 1) := by decide +kernel
theorem dX12_joined_128 : decode cX12_joined 128 = .ok (.goto 4, 3) := by decide +kernel
theorem dX12_joined_46 : decode cX12_joined 46 = .ok (.iconst 1, 1) := by decide +kernel
theorem dX12_joined_47 : decode cX12_joined 47 = .ok (.goto 4, 3) := by decide +kernel
set_option maxHeartbeats 6000000 in
set_option maxRecDepth 100000 in
/-- joined(n), kind 19 -/
theorem L_joined19 (l : Launch) (G : pT) (h0 : Nat) (a : Nat → Nat) (F : Nat → Int32) (B : Nat → Nat → Int32) (n9 : Nat) (z9 : Nat) (fa : Nat) (sc : Nat) (k9 : Nat) (nd : Nat) (T : Nat) (nm : Nat) (wr : Nat) (lz : Nat) (dc : Nat) (fd : Nat) (md : Nat) (pr : Nat) (bk : Nat) (gh : Nat → Nat → Nat) (dn : Int32) (wt : Int32) (wf : Int32) (nc : Nat → Int32) (ty : Nat → Int32) (mn : Nat → Int32) (vn : Nat → Int32) (vt : Nat → Int32) (hst : St B gh nd T nm wr lz dc fd md pr bk) (hnm : nd ≤ 12000 ∧ T ≤ 5000 ∧ wr ≤ 5000 ∧ 7 ≤ dc ∧ dc ≤ 37 ∧ fd ≤ 620 ∧ md ≤ 920 ∧ pr ≤ 5000) (hn9 : n9 < nd) (hz : gh 1 n9 < z9) (hfa : fa ≤ 15) (hsc : sc ≤ 30) (hk9 : 7 ≤ k9 ∧ k9 < dc) (hnc : ∀ i : Nat, i < nd → ¬ B 9 i = 44 → nc i = B 14 i) (hmn : mnN B nd mn) (hvt : ∀ i : Nat, i < sc → tyOK dc (vt i)) (hkd : B 9 n9 = nI 19) (ihA : PlookAt l G (z9 - 1)) : PM l G pX0 yX12_joined cX12_joined 7 (some .int) ({ frames := (4 * z9 + 9), cells := 0, slots := 0, locals := (160 * z9 + 1360) }) [.ref h0, .int (nI n9)] (mW G h0 a (upd (upd (upd (upd (upd (upd (upd (upd F 15 (nI fa)) 44 (nI fd)) 49 (nI md)) 73 (nI sc)) 74 (nI k9)) 77 dn) 78 wt) 79 wf) (updA (updA (updA (updA (updA B 14 nc) 17 ty) 18 mn) 48 vn) 49 vt)) (fun (v : Option Value) (u : Nat × Nat × Int32 × Int32 × Int32 × Int32 × (Nat → Int32) × (Nat → Int32)) => v = some (.int (nI u.1)) ∧ (fa ≤ u.2.1) ∧ (u.2.1 ≤ 15) ∧ (TyC dc u.1) ∧ (u.1 ≤ 2050) ∧ (ChE B nd n9 ty u.2.2.2.2.2.2.1 mn u.2.2.2.2.2.2.2) ∧ (mnN B nd u.2.2.2.2.2.2.2) ∧ (If (u.2.1 = 0) (Typ0 B dc fd md nd u.2.2.2.2.2.2.1 u.2.2.2.2.2.2.2 vt sc k9 n9 (nI u.1)))) (fun u => (mW G h0 a (upd (upd (upd (upd (upd (upd (upd (upd (upd F 15 (nI u.2.1)) 16 u.2.2.1) 44 (nI fd)) 49 (nI md)) 73 (nI sc)) 74 (nI k9)) 77 u.2.2.2.1) 78 u.2.2.2.2.1) 79 u.2.2.2.2.2.1) (updA (updA (updA (updA (updA B 14 nc) 17 u.2.2.2.2.2.2.1) 18 u.2.2.2.2.2.2.2) 48 vn) 49 vt))) := by
  intro sz
  refine Met.ofW (cc := cX12_joined) (maxL := 7) (ret := (some .int)) (by decide) rfl ?_
  intro p e s m args below meth c s₁ B9 hml hv
  obtain ⟨rfl, hsz, hP, hD0, hE, hX⟩ := hv
  have hx := B9.exec
  have hb := B9.bytes
  have hr := B9.returns
  have hts := atoms_spec (ws := Cond.code yX12_joined cX12_joined 7 (some .int) :: pw) B9.pre
  have hq : ∀ w ∈ pw, w.before _ s = true := fun w h => hts w (List.mem_cons_of_mem _ h)
  have hown : s.vm.findClass RX12 = some m.cls := findClass_of_methodNamed B9.named
  have hlocks := B9.notSynchronized
  subst hsz
  have hD := hD0.self (sz := s.heap.size)
  have hA : ∀ q : Nat, s.heap.size ≤ q → va_A (mW G h0 a (upd (upd (upd (upd (upd (upd (upd (upd F 15 (nI fa)) 44 (nI fd)) 49 (nI md)) 73 (nI sc)) 74 (nI k9)) 77 dn) 78 wt) 79 wf) (updA (updA (updA (updA (updA B 14 nc) 17 ty) 18 mn) 48 vn) 49 vt)) s.heap.size q := fun q h => Or.inr h
  have hP : va_P G.1 pCl (mW G h0 a (upd (upd (upd (upd (upd (upd (upd (upd F 15 (nI fa)) 44 (nI fd)) 49 (nI md)) 73 (nI sc)) 74 (nI k9)) 77 dn) 78 wt) 79 wf) (updA (updA (updA (updA (updA B 14 nc) 17 ty) 18 mn) 48 vn) 49 vt)) s.heap := hP
  generalize va_A (mW G h0 a (upd (upd (upd (upd (upd (upd (upd (upd F 15 (nI fa)) 44 (nI fd)) 49 (nI md)) 73 (nI sc)) 74 (nI k9)) 77 dn) 78 wt) 79 wf) (updA (updA (updA (updA (updA B 14 nc) 17 ty) 18 mn) 48 vn) 49 vt)) s.heap.size = A at hD hE hA ⊢
  have hS : va_S A s.heap s.heap [] := va_S.rf
  have hl := lv_entry ([.ref h0, .int (nI n9)]) (n := 7) (Nat.le_of_ble_eq_true rfl)
  rw [lg_entry_eq]
  generalize (lg_sl ([.ref h0, .int (nI n9)]) ++ List.replicate (7 - (lg_sl ([.ref h0, .int (nI n9)])).length) Slot.unset).toArray = ls at hl ⊢
  have hl : lv_has ls 7 [(0, .ref h0), (1, .int (nI n9))] := hl
  have hF := hst.1
  have hPS := hst.2.1
  have hBI := hst.2.2.1
  have hRK := hst.2.2.2.1
  have hTY := hst.2.2.2.2.1
  have hNW := hst.2.2.2.2.2.1
  have hTK := hst.2.2.2.2.2.2
  refine lv_aload_n hx hb dX12_joined_0 rfl (lv_at hl 0 rfl) ?_
  refine r_get (v := .ref (a 9)) hx hb hown hq hE hP 17 38 tFX12_17 (by decide) pw_1439 rfl dX12_joined_1 ?_
  refine lv_iload_n hx hb dX12_joined_4 rfl (lv_at hl 1 rfl) ?_
  refine r_ldi (f := (B 9)) (j := n9) hx hb hE hP 9 (ma_9 G a _) rfl (by omega) (by decide) dX12_joined_5 ?_
  refine lv_topi (fun x1 e2 => ?_)
  obtain rfl : x1 = 19 := e2.trans hkd
  refine lv_bipush (v := 19) hx hb dX12_joined_6 (by decide) ?_
  refine lv_icmp_ne (tgt := 15) hx hb dX12_joined_8 (by decide) (fun c3 => absurd c3 (by decide)) (fun c3 => ?_)
  refine lv_iconst (v := 1) hx hb dX12_joined_11 (by decide) ?_
  refine lv_goto (tgt := 16) hx hb dX12_joined_12 (by decide) ?_
  refine lv_istore_n (lv' := [(2, .int 1), (0, .ref h0), (1, .int (nI n9))]) hx hb dX12_joined_16 rfl hl (by decide) rfl (fun ls hl => ?_)
  refine lv_aload_n hx hb dX12_joined_17 rfl (lv_at hl 1 rfl) ?_
  refine lv_aload_n hx hb dX12_joined_18 rfl (lv_at hl 1 rfl) ?_
  refine r_get (v := .ref (a 12)) hx hb hown hq hE hP 20 47 tFX12_20 (by decide) pw_1442 rfl dX12_joined_19 ?_
  refine lv_iload_n hx hb dX12_joined_22 rfl (lv_at hl 2 rfl) ?_
  refine r_ldi (f := (B 12)) (j := n9) hx hb hE hP 12 (ma_12 G a _) rfl (by omega) (by decide) dX12_joined_23 ?_
  obtain ⟨c4, e5, h6, hp7, h8, hc9, hh10, hg11⟩ := Fs2.kid (kk := 19) (s := 1) hF hn9 hkd (by decide) (by decide) (by decide) (by decide) (by omega)
  refine lv_topi (fun x12 e13 => ?_)
  obtain rfl : x12 = nI c4 := e13.trans e5
  have hP : va_P G.1 pCl (mW G h0 a (upd (upd (upd (upd (upd (upd (upd (upd (upd (upd (upd (upd (upd (upd (upd (upd F 15 (nI fa)) 44 (nI fd)) 49 (nI md)) 73 (nI sc)) 74 (nI k9)) 77 dn) 78 wt) 79 wf) 15 (nI fa)) 44 (nI fd)) 49 (nI md)) 73 (nI sc)) 74 (nI k9)) 77 dn) 78 wt) 79 wf) (updA (updA (updA (updA (updA B 14 nc) 17 ty) 18 mn) 48 vn) 49 vt)) _ := mW_to (F := F) (l1 := [(15, (nI fa)), (44, (nI fd)), (49, (nI md)), (73, (nI sc)), (74, (nI k9)), (77, dn), (78, wt), (79, wf)]) (l2 := [(15, (nI fa)), (44, (nI fd)), (49, (nI md)), (73, (nI sc)), (74, (nI k9)), (77, dn), (78, wt), (79, wf), (15, (nI fa)), (44, (nI fd)), (49, (nI md)), (73, (nI sc)), (74, (nI k9)), (77, dn), (78, wt), (79, wf)]) (V := [(nI fa), (nI fd), (nI md), (nI sc), (nI k9), dn, wt, wf, (nI fa), (nI fd), (nI md), (nI sc), (nI k9), dn, wt, wf, (nI fa), (nI fd), (nI md), (nI sc), (nI k9), dn, wt, wf]) rfl rfl rfl hP
  have hD : va_D A (mW G h0 a (upd (upd (upd (upd (upd (upd (upd (upd (upd (upd (upd (upd (upd (upd (upd (upd F 15 (nI fa)) 44 (nI fd)) 49 (nI md)) 73 (nI sc)) 74 (nI k9)) 77 dn) 78 wt) 79 wf) 15 (nI fa)) 44 (nI fd)) 49 (nI md)) 73 (nI sc)) 74 (nI k9)) 77 dn) 78 wt) 79 wf) (updA (updA (updA (updA (updA B 14 nc) 17 ty) 18 mn) 48 vn) 49 vt)) := mW_D hD
  refine pc_V0 (G := G) (As := [.int (nI c4)]) (rest := []) hx hb hml hown hq hE hX pX0_al hP hD hS hA hl.1 (ihA h0 a (upd (upd (upd (upd (upd (upd (upd (upd F 15 (nI fa)) 44 (nI fd)) 49 (nI md)) 73 (nI sc)) 74 (nI k9)) 77 dn) 78 wt) 79 wf) B c4 fa sc k9 nd T nm wr lz dc fd md pr bk gh dn wt wf nc ty mn vn vt hst hnm h6 (by omega) (by omega) (by omega) hk9 hnc hmn hvt (show kcl 1 _ = true from hc9)) (gV pw_1815 pw_1816 pw_1817 pw_1523 pw_1831) hV_X12_lookAt 0 9 rfl rfl rfl rfl (Nat.le_of_ble_eq_true rfl) dX12_joined_24 ⟨Nat.le_of_ble_eq_true rfl, Nat.le_of_ble_eq_true rfl⟩ ⟨(by show (4 * (z9 - 1) + 10) + 1 ≤ (4 * z9 + 9); omega), (by show 8 + (3 + 11) + (160 * (z9 - 1) + 1400) ≤ (160 * z9 + 1360); omega)⟩ (fun v16 u14 H locs hw15 hP hD hS => ?_)
  obtain ⟨r17, fa18, pl19, dn20, wt21, wf22, ty23, mn24⟩ := u14
  obtain ⟨hw15, h25, h26, h27, h28, h29, h30, h31⟩ := hw15
  replace h25 : fa ≤ fa18 := h25
  replace h26 : fa18 ≤ 15 := h26
  replace h27 : TyC dc r17 := h27
  replace h28 : r17 ≤ 2050 := h28
  replace h29 : ChE B nd c4 ty ty23 mn mn24 := h29
  replace h30 : mnN B nd mn24 := h30
  replace h31 : If (fa18 = 0) (Typ0 B dc fd md nd ty23 mn24 vt sc k9 c4 (nI r17)) := h31
  obtain rfl : v16 = some (.int (nI r17)) := hw15
  have hP : va_P G.1 pCl (mW G h0 a (upd (upd (upd (upd (upd (upd (upd (upd (upd F 15 (nI fa18)) 16 pl19) 44 (nI fd)) 49 (nI md)) 73 (nI sc)) 74 (nI k9)) 77 dn20) 78 wt21) 79 wf22) (updA (updA (updA (updA (updA B 14 nc) 17 ty23) 18 mn24) 48 vn) 49 vt)) _ := mW_to (F := F) (l1 := [(15, (nI fa)), (44, (nI fd)), (49, (nI md)), (73, (nI sc)), (74, (nI k9)), (77, dn), (78, wt), (79, wf), (15, (nI fa18)), (16, pl19), (44, (nI fd)), (49, (nI md)), (73, (nI sc)), (74, (nI k9)), (77, dn20), (78, wt21), (79, wf22)]) (l2 := [(15, (nI fa18)), (16, pl19), (44, (nI fd)), (49, (nI md)), (73, (nI sc)), (74, (nI k9)), (77, dn20), (78, wt21), (79, wf22)]) (V := [(nI fa18), (nI fd), (nI md), (nI sc), (nI k9), dn20, wt21, wf22, (nI fa18), pl19, (nI fd), (nI md), (nI sc), (nI k9), dn20, wt21, wf22, (nI fa18), pl19, (nI fd), (nI md), (nI sc), (nI k9), dn20, wt21, wf22]) rfl rfl rfl hP
  have hD : va_D A (mW G h0 a (upd (upd (upd (upd (upd (upd (upd (upd (upd F 15 (nI fa18)) 16 pl19) 44 (nI fd)) 49 (nI md)) 73 (nI sc)) 74 (nI k9)) 77 dn20) 78 wt21) 79 wf22) (updA (updA (updA (updA (updA B 14 nc) 17 ty23) 18 mn24) 48 vn) 49 vt)) := mW_D hD
  refine W.widen (k := 0) (n := 0) (Nat.le_of_ble_eq_true rfl) (Nat.le_of_ble_eq_true rfl) ?_
  refine W.eq (g2 := F0 m 27 ls [.int (nI r17)]) rfl ?_
  have hch32 : ChE B nd n9 ty ty23 mn mn24 := (ChE.trans ChE.rfl (ChE.kid h29 (by omega) hp7))
  refine lv_istore_n (lv' := [(3, .int (nI r17)), (2, .int 1), (0, .ref h0), (1, .int (nI n9))]) hx hb dX12_joined_27 rfl hl (by decide) rfl (fun ls hl => ?_)
  refine lv_aload_n hx hb dX12_joined_28 rfl (lv_at hl 2 rfl) ?_
  refine r_get (v := .ref (a 17)) hx hb hown hq hE hP 25 62 tFX12_25 (by decide) pw_1447 rfl dX12_joined_29 ?_
  refine lv_aload_n hx hb dX12_joined_32 rfl (lv_at hl 2 rfl) ?_
  refine r_get (v := .ref (a 12)) hx hb hown hq hE hP 20 47 tFX12_20 (by decide) pw_1442 rfl dX12_joined_33 ?_
  refine lv_iload_n hx hb dX12_joined_36 rfl (lv_at hl 3 rfl) ?_
  refine r_ldi (f := (B 12)) (j := n9) hx hb hE hP 12 (ma_12 G a _) rfl (by omega) (by decide) dX12_joined_37 ?_
  refine lv_topi (fun x33 e34 => ?_)
  obtain rfl : x33 = nI c4 := e34.trans e5
  refine lv_iload_n hx hb dX12_joined_38 rfl (lv_at hl 0 rfl) ?_
  refine r_sti (f := ty23) (j := c4) hx hb hE hP hD hS 17 (ma_17 G a _) rfl (mas_17 G a _) (by omega) (by decide) dX12_joined_39 (fun H locs hP hD hS => ?_)
  have hch35 : ChE B nd c4 ty23 (upd ty23 c4 (nI r17)) mn24 mn24 := (ChE.setT sub.rfl)
  have hch36 : ChE B nd n9 ty (upd ty23 c4 (nI r17)) mn mn24 := (ChE.trans hch32 (ChE.kid hch35 (by omega) hp7))
  have hy37 : If (fa18 = 0) (Typ B dc fd md nd (upd ty23 c4 (nI r17)) mn24 vt sc k9 c4) := (fun e => Typ0.st hF (by omega) h6 (h31 e))
  have ht38 : (upd ty23 c4 (nI r17)) c4 = nI r17 := upd_eq
  refine lv_aload_n hx hb dX12_joined_40 rfl (lv_at hl 2 rfl) ?_
  refine lv_iload_n hx hb dX12_joined_41 rfl (lv_at hl 0 rfl) ?_
  refine lv_iconst (v := 2) hx hb dX12_joined_42 (by decide) ?_
  refine lv_icmp_ne (tgt := 50) hx hb dX12_joined_43 (by decide) (fun c39 => ?_) (fun c39 => ?_)
  · have n40 : ¬ (r17 = 2) := fun h9 => c39 ((nI_eq (a := r17) (b := 2) (by omega) (by omega)).mpr h9)
    refine lv_iconst (v := 0) hx hb dX12_joined_50 (by decide) ?_
    refine lv_bipush (v := 11) hx hb dX12_joined_51 (by decide) ?_
    refine lv_aload_n hx hb dX12_joined_53 rfl (lv_at hl 2 rfl) ?_
    refine r_get (v := .ref (a 10)) hx hb hown hq hE hP 18 41 tFX12_18 (by decide) pw_1440 rfl dX12_joined_54 ?_
    refine lv_aload_n hx hb dX12_joined_57 rfl (lv_at hl 2 rfl) ?_
    refine r_get (v := .ref (a 12)) hx hb hown hq hE hP 20 47 tFX12_20 (by decide) pw_1442 rfl dX12_joined_58 ?_
    refine lv_iload_n hx hb dX12_joined_61 rfl (lv_at hl 3 rfl) ?_
    refine r_ldi (f := (B 12)) (j := n9) hx hb hE hP 12 (ma_12 G a _) rfl (by omega) (by decide) dX12_joined_62 ?_
    refine lv_topi (fun x41 e42 => ?_)
    obtain rfl : x41 = nI c4 := e42.trans e5
    refine r_ldi (f := (B 10)) (j := c4) hx hb hE hP 10 (ma_10 G a _) rfl (by omega) (by decide) dX12_joined_63 ?_
    obtain ⟨⟨t43, e44, h45⟩, -⟩ := hF c4 h6
    refine lv_topi (fun x46 e47 => ?_)
    obtain rfl : x46 = nI t43 := e47.trans e44
    have hP : va_P G.1 pCl (mW G h0 a (upd (upd (upd (upd (upd (upd (upd (upd (upd (upd F 15 (nI fa18)) 16 pl19) 44 (nI fd)) 49 (nI md)) 73 (nI sc)) 74 (nI k9)) 77 dn20) 78 wt21) 79 wf22) 15 (nI fa18)) (updA (updA (updA (updA (updA B 14 nc) 17 (upd ty23 c4 (nI r17))) 18 mn24) 48 vn) 49 vt)) _ := mW_to (F := F) (l1 := [(15, (nI fa18)), (16, pl19), (44, (nI fd)), (49, (nI md)), (73, (nI sc)), (74, (nI k9)), (77, dn20), (78, wt21), (79, wf22)]) (l2 := [(15, (nI fa18)), (16, pl19), (44, (nI fd)), (49, (nI md)), (73, (nI sc)), (74, (nI k9)), (77, dn20), (78, wt21), (79, wf22), (15, (nI fa18))]) (V := [(nI fa18), pl19, (nI fd), (nI md), (nI sc), (nI k9), dn20, wt21, wf22, (nI fa18), pl19, (nI fd), (nI md), (nI sc), (nI k9), dn20, wt21, wf22, (nI fa18)]) rfl rfl (show (updA (updA (updA (updA (updA (updA B 14 nc) 17 ty23) 18 mn24) 48 vn) 49 vt) 17 (upd ty23 c4 (nI r17))) = (updA (updA (updA (updA (updA B 14 nc) 17 (upd ty23 c4 (nI r17))) 18 mn24) 48 vn) 49 vt) from updsA_eq2 (F := B) (l1 := [(14, nc), (17, ty23), (18, mn24), (48, vn), (49, vt), (17, (upd ty23 c4 (nI r17)))]) (l2 := [(14, nc), (17, (upd ty23 c4 (nI r17))), (18, mn24), (48, vn), (49, vt)]) (V := [nc, (upd ty23 c4 (nI r17)), mn24, vn, vt, (upd ty23 c4 (nI r17)), nc, (upd ty23 c4 (nI r17)), mn24, vn, vt]) rfl rfl) hP
    have hD : va_D A (mW G h0 a (upd (upd (upd (upd (upd (upd (upd (upd (upd (upd F 15 (nI fa18)) 16 pl19) 44 (nI fd)) 49 (nI md)) 73 (nI sc)) 74 (nI k9)) 77 dn20) 78 wt21) 79 wf22) 15 (nI fa18)) (updA (updA (updA (updA (updA B 14 nc) 17 (upd ty23 c4 (nI r17))) 18 mn24) 48 vn) 49 vt)) := mW_D hD
    refine pc_V0 (G := G) (As := [.int (nI 0), .int (nI 11), .int (nI t43)]) (rest := []) hx hb hml hown hq hE hX pX0_al hP hD hS hA hl.1 (R_judgeL l G h0 a (upd (upd (upd (upd (upd (upd (upd (upd (upd F 15 (nI fa18)) 16 pl19) 44 (nI fd)) 49 (nI md)) 73 (nI sc)) 74 (nI k9)) 77 dn20) 78 wt21) 79 wf22) (updA (updA (updA (updA (updA B 14 nc) 17 (upd ty23 c4 (nI r17))) 18 mn24) 48 vn) 49 vt) 0 11 t43 fa18 (by omega) (by omega) (by omega) (by omega)) (gV pw_1798 pw_1799 pw_1800 pw_1523 pw_1793) hV_X12_judge 0 9 rfl rfl rfl rfl (Nat.le_of_ble_eq_true rfl) dX12_joined_64 ⟨Nat.le_of_ble_eq_true rfl, Nat.le_of_ble_eq_true rfl⟩ ⟨(by show 3 + 1 ≤ (4 * z9 + 9); omega), (by show 8 + (4 + 11) + 82 ≤ (160 * z9 + 1360); omega)⟩ (fun v50 u48 H locs hw49 hP hD hS => ?_)
    obtain ⟨r51, fa52, pl53⟩ := u48
    obtain ⟨hw49, h54, h55, h56, h57, h58, h59, h60⟩ := hw49
    replace h54 : r51 ≤ 1 := h54
    replace h55 : fa18 ≤ fa52 := h55
    replace h56 : fa52 ≤ 15 := h56
    replace h57 : fa52 + 15 * r51 ≤ 15 := h57
    replace h58 : 1 ≤ r51 + fa52 := h58
    replace h59 : 1 ≤ 0 + fa52 := h59
    replace h60 : fa52 ≤ fa18 + 15 * (1 - 0) := h60
    obtain rfl : v50 = some (.int (nI r51)) := hw49
    have hP : va_P G.1 pCl (mW G h0 a (upd (upd (upd (upd (upd (upd (upd (upd (upd F 15 (nI fa52)) 16 pl53) 44 (nI fd)) 49 (nI md)) 73 (nI sc)) 74 (nI k9)) 77 dn20) 78 wt21) 79 wf22) (updA (updA (updA (updA (updA B 14 nc) 17 (upd ty23 c4 (nI r17))) 18 mn24) 48 vn) 49 vt)) _ := mW_to (F := F) (l1 := [(15, (nI fa18)), (16, pl19), (44, (nI fd)), (49, (nI md)), (73, (nI sc)), (74, (nI k9)), (77, dn20), (78, wt21), (79, wf22), (15, (nI fa52)), (16, pl53)]) (l2 := [(15, (nI fa52)), (16, pl53), (44, (nI fd)), (49, (nI md)), (73, (nI sc)), (74, (nI k9)), (77, dn20), (78, wt21), (79, wf22)]) (V := [(nI fa52), pl53, (nI fd), (nI md), (nI sc), (nI k9), dn20, wt21, wf22, (nI fa52), pl53, (nI fa52), pl53, (nI fd), (nI md), (nI sc), (nI k9), dn20, wt21, wf22]) rfl rfl rfl hP
    have hD : va_D A (mW G h0 a (upd (upd (upd (upd (upd (upd (upd (upd (upd F 15 (nI fa52)) 16 pl53) 44 (nI fd)) 49 (nI md)) 73 (nI sc)) 74 (nI k9)) 77 dn20) 78 wt21) 79 wf22) (updA (updA (updA (updA (updA B 14 nc) 17 (upd ty23 c4 (nI r17))) 18 mn24) 48 vn) 49 vt)) := mW_D hD
    refine W.widen (k := 0) (n := 0) (Nat.le_of_ble_eq_true rfl) (Nat.le_of_ble_eq_true rfl) ?_
    refine W.eq (g2 := F0 m 67 ls [.int (nI r51)]) rfl ?_
    refine lv_pop hx hb dX12_joined_67 rfl ?_
    refine lv_aload_n hx hb dX12_joined_68 rfl (lv_at hl 2 rfl) ?_
    refine r_get (v := .int wt21) hx hb hown hq hE hP 78 551 tFX12_78 (by decide) pw_1805 rfl dX12_joined_69 ?_
    refine lv_istore (lv' := [(4, .int wt21), (3, .int (nI r17)), (2, .int 1), (0, .ref h0), (1, .int (nI n9))]) hx hb dX12_joined_72 hl (by decide) rfl (fun ls hl => ?_)
    refine lv_aload_n hx hb dX12_joined_74 rfl (lv_at hl 3 rfl) ?_
    refine r_get (v := .int wf22) hx hb hown hq hE hP 79 554 tFX12_79 (by decide) pw_1806 rfl dX12_joined_75 ?_
    refine lv_istore (lv' := [(5, .int wf22), (4, .int wt21), (3, .int (nI r17)), (2, .int 1), (0, .ref h0), (1, .int (nI n9))]) hx hb dX12_joined_78 hl (by decide) rfl (fun ls hl => ?_)
    refine lv_aload_n hx hb dX12_joined_80 rfl (lv_at hl 4 rfl) ?_
    refine lv_iload_n hx hb dX12_joined_81 rfl (lv_at hl 3 rfl) ?_
    refine lv_if_eq (tgt := 90) hx hb dX12_joined_82 (by decide) (fun c61 => absurd c61 (by decide)) (fun c61 => ?_)
    refine lv_iload hx hb dX12_joined_85 (lv_at hl 1 rfl) ?_
    refine lv_goto (tgt := 92) hx hb dX12_joined_87 (by decide) ?_
    refine r_put (v := wt21) (ty := .int) hx hb hown hq hE hP hD hS 77 544 tFX12_77 (by decide) pw_1796 (by decide) rfl rfl (ms_77 a _ _) dX12_joined_92 (fun H locs hP hD hS => ?_)
    refine lv_aload_n hx hb dX12_joined_95 rfl (lv_at hl 4 rfl) ?_
    refine lv_aload_n hx hb dX12_joined_96 rfl (lv_at hl 4 rfl) ?_
    refine r_get (v := .ref (a 13)) hx hb hown hq hE hP 21 50 tFX12_21 (by decide) pw_1443 rfl dX12_joined_97 ?_
    refine lv_iload_n hx hb dX12_joined_100 rfl (lv_at hl 5 rfl) ?_
    refine r_ldi (f := (B 13)) (j := n9) hx hb hE hP 13 (ma_13 G a _) rfl (by omega) (by decide) dX12_joined_101 ?_
    obtain ⟨c62, e63, h64, hp65, h66, hc67, hh68, hg69⟩ := Fs2.kid (kk := 19) (s := 2) hF hn9 hkd (by decide) (by decide) (by decide) (by decide) (by omega)
    refine lv_topi (fun x70 e71 => ?_)
    obtain rfl : x70 = nI c62 := e71.trans e63
    have hP : va_P G.1 pCl (mW G h0 a (upd (upd (upd (upd (upd (upd (upd (upd (upd (upd (upd (upd (upd (upd (upd (upd (upd F 15 (nI fa52)) 16 pl53) 44 (nI fd)) 49 (nI md)) 73 (nI sc)) 74 (nI k9)) 77 wt21) 78 wt21) 79 wf22) 15 (nI fa52)) 44 (nI fd)) 49 (nI md)) 73 (nI sc)) 74 (nI k9)) 77 wt21) 78 wt21) 79 wf22) (updA (updA (updA (updA (updA B 14 nc) 17 (upd ty23 c4 (nI r17))) 18 mn24) 48 vn) 49 vt)) _ := mW_to (F := F) (l1 := [(15, (nI fa52)), (16, pl53), (44, (nI fd)), (49, (nI md)), (73, (nI sc)), (74, (nI k9)), (77, dn20), (78, wt21), (79, wf22), (77, wt21)]) (l2 := [(15, (nI fa52)), (16, pl53), (44, (nI fd)), (49, (nI md)), (73, (nI sc)), (74, (nI k9)), (77, wt21), (78, wt21), (79, wf22), (15, (nI fa52)), (44, (nI fd)), (49, (nI md)), (73, (nI sc)), (74, (nI k9)), (77, wt21), (78, wt21), (79, wf22)]) (V := [(nI fa52), pl53, (nI fd), (nI md), (nI sc), (nI k9), wt21, wt21, wf22, wt21, (nI fa52), pl53, (nI fd), (nI md), (nI sc), (nI k9), wt21, wt21, wf22, (nI fa52), (nI fd), (nI md), (nI sc), (nI k9), wt21, wt21, wf22]) rfl rfl rfl hP
    have hD : va_D A (mW G h0 a (upd (upd (upd (upd (upd (upd (upd (upd (upd (upd (upd (upd (upd (upd (upd (upd (upd F 15 (nI fa52)) 16 pl53) 44 (nI fd)) 49 (nI md)) 73 (nI sc)) 74 (nI k9)) 77 wt21) 78 wt21) 79 wf22) 15 (nI fa52)) 44 (nI fd)) 49 (nI md)) 73 (nI sc)) 74 (nI k9)) 77 wt21) 78 wt21) 79 wf22) (updA (updA (updA (updA (updA B 14 nc) 17 (upd ty23 c4 (nI r17))) 18 mn24) 48 vn) 49 vt)) := mW_D hD
    refine pc_V0 (G := G) (As := [.int (nI c62)]) (rest := []) hx hb hml hown hq hE hX pX0_al hP hD hS hA hl.1 (ihA h0 a (upd (upd (upd (upd (upd (upd (upd (upd (upd F 15 (nI fa52)) 16 pl53) 44 (nI fd)) 49 (nI md)) 73 (nI sc)) 74 (nI k9)) 77 wt21) 78 wt21) 79 wf22) B c62 fa52 sc k9 nd T nm wr lz dc fd md pr bk gh wt21 wt21 wf22 nc (upd ty23 c4 (nI r17)) mn24 vn vt hst hnm h64 (by omega) (by omega) (by omega) hk9 hnc h30 hvt (show kcl 1 _ = true from hc67)) (gV pw_1815 pw_1816 pw_1817 pw_1523 pw_1831) hV_X12_lookAt 0 9 rfl rfl rfl rfl (Nat.le_of_ble_eq_true rfl) dX12_joined_102 ⟨Nat.le_of_ble_eq_true rfl, Nat.le_of_ble_eq_true rfl⟩ ⟨(by show (4 * (z9 - 1) + 10) + 1 ≤ (4 * z9 + 9); omega), (by show 8 + (3 + 11) + (160 * (z9 - 1) + 1400) ≤ (160 * z9 + 1360); omega)⟩ (fun v74 u72 H locs hw73 hP hD hS => ?_)
    obtain ⟨r75, fa76, pl77, dn78, wt79, wf80, ty81, mn82⟩ := u72
    obtain ⟨hw73, h83, h84, h85, h86, h87, h88, h89⟩ := hw73
    replace h83 : fa52 ≤ fa76 := h83
    replace h84 : fa76 ≤ 15 := h84
    replace h85 : TyC dc r75 := h85
    replace h86 : r75 ≤ 2050 := h86
    replace h87 : ChE B nd c62 (upd ty23 c4 (nI r17)) ty81 mn24 mn82 := h87
    replace h88 : mnN B nd mn82 := h88
    replace h89 : If (fa76 = 0) (Typ0 B dc fd md nd ty81 mn82 vt sc k9 c62 (nI r75)) := h89
    obtain rfl : v74 = some (.int (nI r75)) := hw73
    have hP : va_P G.1 pCl (mW G h0 a (upd (upd (upd (upd (upd (upd (upd (upd (upd F 15 (nI fa76)) 16 pl77) 44 (nI fd)) 49 (nI md)) 73 (nI sc)) 74 (nI k9)) 77 dn78) 78 wt79) 79 wf80) (updA (updA (updA (updA (updA B 14 nc) 17 ty81) 18 mn82) 48 vn) 49 vt)) _ := mW_to (F := F) (l1 := [(15, (nI fa52)), (16, pl53), (44, (nI fd)), (49, (nI md)), (73, (nI sc)), (74, (nI k9)), (77, wt21), (78, wt21), (79, wf22), (15, (nI fa76)), (16, pl77), (44, (nI fd)), (49, (nI md)), (73, (nI sc)), (74, (nI k9)), (77, dn78), (78, wt79), (79, wf80)]) (l2 := [(15, (nI fa76)), (16, pl77), (44, (nI fd)), (49, (nI md)), (73, (nI sc)), (74, (nI k9)), (77, dn78), (78, wt79), (79, wf80)]) (V := [(nI fa76), pl77, (nI fd), (nI md), (nI sc), (nI k9), dn78, wt79, wf80, (nI fa76), pl77, (nI fd), (nI md), (nI sc), (nI k9), dn78, wt79, wf80, (nI fa76), pl77, (nI fd), (nI md), (nI sc), (nI k9), dn78, wt79, wf80]) rfl rfl rfl hP
    have hD : va_D A (mW G h0 a (upd (upd (upd (upd (upd (upd (upd (upd (upd F 15 (nI fa76)) 16 pl77) 44 (nI fd)) 49 (nI md)) 73 (nI sc)) 74 (nI k9)) 77 dn78) 78 wt79) 79 wf80) (updA (updA (updA (updA (updA B 14 nc) 17 ty81) 18 mn82) 48 vn) 49 vt)) := mW_D hD
    refine W.widen (k := 0) (n := 0) (Nat.le_of_ble_eq_true rfl) (Nat.le_of_ble_eq_true rfl) ?_
    refine W.eq (g2 := F0 m 105 ls [.int (nI r75)]) rfl ?_
    have hch90 : ChE B nd n9 ty ty81 mn mn82 := (ChE.trans hch36 (ChE.kid h87 (by omega) hp65))
    have hy91 : If (fa18 = 0) (Typ B dc fd md nd ty81 mn82 vt sc k9 c4) := (fun e => Typ.beside hF (by omega) hn9 (hy37 e) h6 h64 hp7 hp65 (fun e => by have z := hg11; rw [e] at z; have := hg69; omega) h87)
    have ht92 : ty81 c4 = nI r17 := ((ChE.at hF (by omega) hn9 h6 h64 hp7 hp65 (fun e => by have z := hg11; rw [e] at z; have := hg69; omega) h87).trans ht38)
    refine lv_istore (lv' := [(6, .int (nI r75)), (5, .int wf22), (4, .int wt21), (3, .int (nI r17)), (2, .int 1), (0, .ref h0), (1, .int (nI n9))]) hx hb dX12_joined_105 hl (by decide) rfl (fun ls hl => ?_)
    refine lv_aload_n hx hb dX12_joined_107 rfl (lv_at hl 5 rfl) ?_
    refine r_get (v := .ref (a 17)) hx hb hown hq hE hP 25 62 tFX12_25 (by decide) pw_1447 rfl dX12_joined_108 ?_
    refine lv_aload_n hx hb dX12_joined_111 rfl (lv_at hl 5 rfl) ?_
    refine r_get (v := .ref (a 13)) hx hb hown hq hE hP 21 50 tFX12_21 (by decide) pw_1443 rfl dX12_joined_112 ?_
    refine lv_iload_n hx hb dX12_joined_115 rfl (lv_at hl 6 rfl) ?_
    refine r_ldi (f := (B 13)) (j := n9) hx hb hE hP 13 (ma_13 G a _) rfl (by omega) (by decide) dX12_joined_116 ?_
    refine lv_topi (fun x93 e94 => ?_)
    obtain rfl : x93 = nI c62 := e94.trans e63
    refine lv_iload hx hb dX12_joined_117 (lv_at hl 0 rfl) ?_
    refine r_sti (f := ty81) (j := c62) hx hb hE hP hD hS 17 (ma_17 G a _) rfl (mas_17 G a _) (by omega) (by decide) dX12_joined_119 (fun H locs hP hD hS => ?_)
    have hch95 : ChE B nd c62 ty81 (upd ty81 c62 (nI r75)) mn82 mn82 := (ChE.setT sub.rfl)
    have hch96 : ChE B nd n9 ty (upd ty81 c62 (nI r75)) mn mn82 := (ChE.trans hch90 (ChE.kid hch95 (by omega) hp65))
    have hy97 : If (fa18 = 0) (Typ B dc fd md nd (upd ty81 c62 (nI r75)) mn82 vt sc k9 c4) := (fun e => Typ.beside hF (by omega) hn9 (hy91 e) h6 h64 hp7 hp65 (fun e => by have z := hg11; rw [e] at z; have := hg69; omega) hch95)
    have ht98 : (upd ty81 c62 (nI r75)) c4 = nI r17 := ((ChE.at hF (by omega) hn9 h6 h64 hp7 hp65 (fun e => by have z := hg11; rw [e] at z; have := hg69; omega) hch95).trans ht92)
    have hy99 : If (fa76 = 0) (Typ B dc fd md nd (upd ty81 c62 (nI r75)) mn82 vt sc k9 c62) := (fun e => Typ0.st hF (by omega) h64 (h89 e))
    have ht100 : (upd ty81 c62 (nI r75)) c62 = nI r75 := upd_eq
    refine lv_aload_n hx hb dX12_joined_120 rfl (lv_at hl 5 rfl) ?_
    refine lv_iload hx hb dX12_joined_121 (lv_at hl 0 rfl) ?_
    refine lv_iconst (v := 2) hx hb dX12_joined_123 (by decide) ?_
    refine lv_icmp_ne (tgt := 131) hx hb dX12_joined_124 (by decide) (fun c101 => ?_) (fun c101 => ?_)
    · have n102 : ¬ (r75 = 2) := fun h9 => c101 ((nI_eq (a := r75) (b := 2) (by omega) (by omega)).mpr h9)
      refine lv_iconst (v := 0) hx hb dX12_joined_131 (by decide) ?_
      refine lv_bipush (v := 11) hx hb dX12_joined_132 (by decide) ?_
      refine lv_aload_n hx hb dX12_joined_134 rfl (lv_at hl 5 rfl) ?_
      refine r_get (v := .ref (a 10)) hx hb hown hq hE hP 18 41 tFX12_18 (by decide) pw_1440 rfl dX12_joined_135 ?_
      refine lv_aload_n hx hb dX12_joined_138 rfl (lv_at hl 5 rfl) ?_
      refine r_get (v := .ref (a 13)) hx hb hown hq hE hP 21 50 tFX12_21 (by decide) pw_1443 rfl dX12_joined_139 ?_
      refine lv_iload_n hx hb dX12_joined_142 rfl (lv_at hl 6 rfl) ?_
      refine r_ldi (f := (B 13)) (j := n9) hx hb hE hP 13 (ma_13 G a _) rfl (by omega) (by decide) dX12_joined_143 ?_
      refine lv_topi (fun x103 e104 => ?_)
      obtain rfl : x103 = nI c62 := e104.trans e63
      refine r_ldi (f := (B 10)) (j := c62) hx hb hE hP 10 (ma_10 G a _) rfl (by omega) (by decide) dX12_joined_144 ?_
      obtain ⟨⟨t105, e106, h107⟩, -⟩ := hF c62 h64
      refine lv_topi (fun x108 e109 => ?_)
      obtain rfl : x108 = nI t105 := e109.trans e106
      have hP : va_P G.1 pCl (mW G h0 a (upd (upd (upd (upd (upd (upd (upd (upd (upd (upd F 15 (nI fa76)) 16 pl77) 44 (nI fd)) 49 (nI md)) 73 (nI sc)) 74 (nI k9)) 77 dn78) 78 wt79) 79 wf80) 15 (nI fa76)) (updA (updA (updA (updA (updA B 14 nc) 17 (upd ty81 c62 (nI r75))) 18 mn82) 48 vn) 49 vt)) _ := mW_to (F := F) (l1 := [(15, (nI fa76)), (16, pl77), (44, (nI fd)), (49, (nI md)), (73, (nI sc)), (74, (nI k9)), (77, dn78), (78, wt79), (79, wf80)]) (l2 := [(15, (nI fa76)), (16, pl77), (44, (nI fd)), (49, (nI md)), (73, (nI sc)), (74, (nI k9)), (77, dn78), (78, wt79), (79, wf80), (15, (nI fa76))]) (V := [(nI fa76), pl77, (nI fd), (nI md), (nI sc), (nI k9), dn78, wt79, wf80, (nI fa76), pl77, (nI fd), (nI md), (nI sc), (nI k9), dn78, wt79, wf80, (nI fa76)]) rfl rfl (show (updA (updA (updA (updA (updA (updA B 14 nc) 17 ty81) 18 mn82) 48 vn) 49 vt) 17 (upd ty81 c62 (nI r75))) = (updA (updA (updA (updA (updA B 14 nc) 17 (upd ty81 c62 (nI r75))) 18 mn82) 48 vn) 49 vt) from updsA_eq2 (F := B) (l1 := [(14, nc), (17, ty81), (18, mn82), (48, vn), (49, vt), (17, (upd ty81 c62 (nI r75)))]) (l2 := [(14, nc), (17, (upd ty81 c62 (nI r75))), (18, mn82), (48, vn), (49, vt)]) (V := [nc, (upd ty81 c62 (nI r75)), mn82, vn, vt, (upd ty81 c62 (nI r75)), nc, (upd ty81 c62 (nI r75)), mn82, vn, vt]) rfl rfl) hP
      have hD : va_D A (mW G h0 a (upd (upd (upd (upd (upd (upd (upd (upd (upd (upd F 15 (nI fa76)) 16 pl77) 44 (nI fd)) 49 (nI md)) 73 (nI sc)) 74 (nI k9)) 77 dn78) 78 wt79) 79 wf80) 15 (nI fa76)) (updA (updA (updA (updA (updA B 14 nc) 17 (upd ty81 c62 (nI r75))) 18 mn82) 48 vn) 49 vt)) := mW_D hD
      refine pc_V0 (G := G) (As := [.int (nI 0), .int (nI 11), .int (nI t105)]) (rest := []) hx hb hml hown hq hE hX pX0_al hP hD hS hA hl.1 (R_judgeL l G h0 a (upd (upd (upd (upd (upd (upd (upd (upd (upd F 15 (nI fa76)) 16 pl77) 44 (nI fd)) 49 (nI md)) 73 (nI sc)) 74 (nI k9)) 77 dn78) 78 wt79) 79 wf80) (updA (updA (updA (updA (updA B 14 nc) 17 (upd ty81 c62 (nI r75))) 18 mn82) 48 vn) 49 vt) 0 11 t105 fa76 (by omega) (by omega) (by omega) (by omega)) (gV pw_1798 pw_1799 pw_1800 pw_1523 pw_1793) hV_X12_judge 0 9 rfl rfl rfl rfl (Nat.le_of_ble_eq_true rfl) dX12_joined_145 ⟨Nat.le_of_ble_eq_true rfl, Nat.le_of_ble_eq_true rfl⟩ ⟨(by show 3 + 1 ≤ (4 * z9 + 9); omega), (by show 8 + (4 + 11) + 82 ≤ (160 * z9 + 1360); omega)⟩ (fun v112 u110 H locs hw111 hP hD hS => ?_)
      obtain ⟨r113, fa114, pl115⟩ := u110
      obtain ⟨hw111, h116, h117, h118, h119, h120, h121, h122⟩ := hw111
      replace h116 : r113 ≤ 1 := h116
      replace h117 : fa76 ≤ fa114 := h117
      replace h118 : fa114 ≤ 15 := h118
      replace h119 : fa114 + 15 * r113 ≤ 15 := h119
      replace h120 : 1 ≤ r113 + fa114 := h120
      replace h121 : 1 ≤ 0 + fa114 := h121
      replace h122 : fa114 ≤ fa76 + 15 * (1 - 0) := h122
      obtain rfl : v112 = some (.int (nI r113)) := hw111
      have hP : va_P G.1 pCl (mW G h0 a (upd (upd (upd (upd (upd (upd (upd (upd (upd F 15 (nI fa114)) 16 pl115) 44 (nI fd)) 49 (nI md)) 73 (nI sc)) 74 (nI k9)) 77 dn78) 78 wt79) 79 wf80) (updA (updA (updA (updA (updA B 14 nc) 17 (upd ty81 c62 (nI r75))) 18 mn82) 48 vn) 49 vt)) _ := mW_to (F := F) (l1 := [(15, (nI fa76)), (16, pl77), (44, (nI fd)), (49, (nI md)), (73, (nI sc)), (74, (nI k9)), (77, dn78), (78, wt79), (79, wf80), (15, (nI fa114)), (16, pl115)]) (l2 := [(15, (nI fa114)), (16, pl115), (44, (nI fd)), (49, (nI md)), (73, (nI sc)), (74, (nI k9)), (77, dn78), (78, wt79), (79, wf80)]) (V := [(nI fa114), pl115, (nI fd), (nI md), (nI sc), (nI k9), dn78, wt79, wf80, (nI fa114), pl115, (nI fa114), pl115, (nI fd), (nI md), (nI sc), (nI k9), dn78, wt79, wf80]) rfl rfl rfl hP
      have hD : va_D A (mW G h0 a (upd (upd (upd (upd (upd (upd (upd (upd (upd F 15 (nI fa114)) 16 pl115) 44 (nI fd)) 49 (nI md)) 73 (nI sc)) 74 (nI k9)) 77 dn78) 78 wt79) 79 wf80) (updA (updA (updA (updA (updA B 14 nc) 17 (upd ty81 c62 (nI r75))) 18 mn82) 48 vn) 49 vt)) := mW_D hD
      refine W.widen (k := 0) (n := 0) (Nat.le_of_ble_eq_true rfl) (Nat.le_of_ble_eq_true rfl) ?_
      refine W.eq (g2 := F0 m 148 ls [.int (nI r113)]) rfl ?_
      refine lv_pop hx hb dX12_joined_148 rfl ?_
      refine lv_iload_n hx hb dX12_joined_149 rfl (lv_at hl 4 rfl) ?_
      refine lv_if_eq (tgt := 167) hx hb dX12_joined_150 (by decide) (fun c123 => absurd c123 (by decide)) (fun c123 => ?_)
      refine lv_aload_n hx hb dX12_joined_153 rfl (lv_at hl 5 rfl) ?_
      refine lv_iload hx hb dX12_joined_154 (lv_at hl 1 rfl) ?_
      refine lv_aload_n hx hb dX12_joined_156 rfl (lv_at hl 5 rfl) ?_
      refine r_get (v := .int wf80) hx hb hown hq hE hP 79 554 tFX12_79 (by decide) pw_1806 rfl dX12_joined_157 ?_
      refine lv_iand hx hb dX12_joined_160 ?_
      refine lv_topi (fun x124 e125 => ?_)
      refine r_put (v := x124) (ty := .int) hx hb hown hq hE hP hD hS 79 554 tFX12_79 (by decide) pw_1806 (by decide) rfl rfl (ms_79 a _ _) dX12_joined_161 (fun H locs hP hD hS => ?_)
      refine lv_goto (tgt := 178) hx hb dX12_joined_164 (by decide) ?_
      refine lv_iconst (v := 2) hx hb dX12_joined_178 (by decide) ?_
      have hz126 : fa ≤ fa114 := (by omega)
      have hz127 : fa114 ≤ 15 := (by omega)
      have hz128 : TyC dc 2 := (by unfold TyC; omega)
      have hz129 : 2 ≤ 2050 := (by omega)
      have hz130 : ChE B nd n9 ty (upd ty81 c62 (nI r75)) mn mn82 := hch96
      have hz131 : mnN B nd mn82 := h88
      have hz132 : If (fa114 = 0) (Typ0 B dc fd md nd (upd ty81 c62 (nI r75)) mn82 vt sc k9 n9 (nI 2)) := (fun e => absurd e (by omega))
      have hP : va_P G.1 pCl (mW G h0 a (upd (upd (upd (upd (upd (upd (upd (upd (upd F 15 (nI fa114)) 16 pl115) 44 (nI fd)) 49 (nI md)) 73 (nI sc)) 74 (nI k9)) 77 dn78) 78 wt79) 79 x124) (updA (updA (updA (updA (updA B 14 nc) 17 (upd ty81 c62 (nI r75))) 18 mn82) 48 vn) 49 vt)) _ := mW_to (F := F) (l1 := [(15, (nI fa114)), (16, pl115), (44, (nI fd)), (49, (nI md)), (73, (nI sc)), (74, (nI k9)), (77, dn78), (78, wt79), (79, wf80), (79, x124)]) (l2 := [(15, (nI fa114)), (16, pl115), (44, (nI fd)), (49, (nI md)), (73, (nI sc)), (74, (nI k9)), (77, dn78), (78, wt79), (79, x124)]) (V := [(nI fa114), pl115, (nI fd), (nI md), (nI sc), (nI k9), dn78, wt79, x124, x124, (nI fa114), pl115, (nI fd), (nI md), (nI sc), (nI k9), dn78, wt79, x124]) rfl rfl rfl hP
      have hD : va_D A (mW G h0 a (upd (upd (upd (upd (upd (upd (upd (upd (upd F 15 (nI fa114)) 16 pl115) 44 (nI fd)) 49 (nI md)) 73 (nI sc)) 74 (nI k9)) 77 dn78) 78 wt79) 79 x124) (updA (updA (updA (updA (updA B 14 nc) 17 (upd ty81 c62 (nI r75))) 18 mn82) 48 vn) 49 vt)) := mW_D hD
      exact W.iret (v := 2) hx hb hr (fun t9 ht9 hW9 => ⟨⟨_, (2, fa114, pl115, dn78, wt79, x124, (upd ty81 c62 (nI r75)), mn82), rfl, ⟨rfl, hz126, hz127, hz128, hz129, hz130, hz131, hz132⟩, by rw [ht9]; exact hP, hD⟩, hS.F ht9⟩) hS.2.2 dX12_joined_179
    · have n133 : r75 = 2 := (nI_eq (a := r75) (b := 2) (by omega) (by omega)).mp c101
      refine lv_iconst (v := 1) hx hb dX12_joined_127 (by decide) ?_
      refine lv_goto (tgt := 132) hx hb dX12_joined_128 (by decide) ?_
      refine lv_bipush (v := 11) hx hb dX12_joined_132 (by decide) ?_
      refine lv_aload_n hx hb dX12_joined_134 rfl (lv_at hl 5 rfl) ?_
      refine r_get (v := .ref (a 10)) hx hb hown hq hE hP 18 41 tFX12_18 (by decide) pw_1440 rfl dX12_joined_135 ?_
      refine lv_aload_n hx hb dX12_joined_138 rfl (lv_at hl 5 rfl) ?_
      refine r_get (v := .ref (a 13)) hx hb hown hq hE hP 21 50 tFX12_21 (by decide) pw_1443 rfl dX12_joined_139 ?_
      refine lv_iload_n hx hb dX12_joined_142 rfl (lv_at hl 6 rfl) ?_
      refine r_ldi (f := (B 13)) (j := n9) hx hb hE hP 13 (ma_13 G a _) rfl (by omega) (by decide) dX12_joined_143 ?_
      refine lv_topi (fun x134 e135 => ?_)
      obtain rfl : x134 = nI c62 := e135.trans e63
      refine r_ldi (f := (B 10)) (j := c62) hx hb hE hP 10 (ma_10 G a _) rfl (by omega) (by decide) dX12_joined_144 ?_
      obtain ⟨⟨t136, e137, h138⟩, -⟩ := hF c62 h64
      refine lv_topi (fun x139 e140 => ?_)
      obtain rfl : x139 = nI t136 := e140.trans e137
      have hP : va_P G.1 pCl (mW G h0 a (upd (upd (upd (upd (upd (upd (upd (upd (upd (upd F 15 (nI fa76)) 16 pl77) 44 (nI fd)) 49 (nI md)) 73 (nI sc)) 74 (nI k9)) 77 dn78) 78 wt79) 79 wf80) 15 (nI fa76)) (updA (updA (updA (updA (updA B 14 nc) 17 (upd ty81 c62 (nI r75))) 18 mn82) 48 vn) 49 vt)) _ := mW_to (F := F) (l1 := [(15, (nI fa76)), (16, pl77), (44, (nI fd)), (49, (nI md)), (73, (nI sc)), (74, (nI k9)), (77, dn78), (78, wt79), (79, wf80)]) (l2 := [(15, (nI fa76)), (16, pl77), (44, (nI fd)), (49, (nI md)), (73, (nI sc)), (74, (nI k9)), (77, dn78), (78, wt79), (79, wf80), (15, (nI fa76))]) (V := [(nI fa76), pl77, (nI fd), (nI md), (nI sc), (nI k9), dn78, wt79, wf80, (nI fa76), pl77, (nI fd), (nI md), (nI sc), (nI k9), dn78, wt79, wf80, (nI fa76)]) rfl rfl (show (updA (updA (updA (updA (updA (updA B 14 nc) 17 ty81) 18 mn82) 48 vn) 49 vt) 17 (upd ty81 c62 (nI r75))) = (updA (updA (updA (updA (updA B 14 nc) 17 (upd ty81 c62 (nI r75))) 18 mn82) 48 vn) 49 vt) from updsA_eq2 (F := B) (l1 := [(14, nc), (17, ty81), (18, mn82), (48, vn), (49, vt), (17, (upd ty81 c62 (nI r75)))]) (l2 := [(14, nc), (17, (upd ty81 c62 (nI r75))), (18, mn82), (48, vn), (49, vt)]) (V := [nc, (upd ty81 c62 (nI r75)), mn82, vn, vt, (upd ty81 c62 (nI r75)), nc, (upd ty81 c62 (nI r75)), mn82, vn, vt]) rfl rfl) hP
      have hD : va_D A (mW G h0 a (upd (upd (upd (upd (upd (upd (upd (upd (upd (upd F 15 (nI fa76)) 16 pl77) 44 (nI fd)) 49 (nI md)) 73 (nI sc)) 74 (nI k9)) 77 dn78) 78 wt79) 79 wf80) 15 (nI fa76)) (updA (updA (updA (updA (updA B 14 nc) 17 (upd ty81 c62 (nI r75))) 18 mn82) 48 vn) 49 vt)) := mW_D hD
      refine pc_V0 (G := G) (As := [.int (nI 1), .int (nI 11), .int (nI t136)]) (rest := []) hx hb hml hown hq hE hX pX0_al hP hD hS hA hl.1 (R_judgeL l G h0 a (upd (upd (upd (upd (upd (upd (upd (upd (upd F 15 (nI fa76)) 16 pl77) 44 (nI fd)) 49 (nI md)) 73 (nI sc)) 74 (nI k9)) 77 dn78) 78 wt79) 79 wf80) (updA (updA (updA (updA (updA B 14 nc) 17 (upd ty81 c62 (nI r75))) 18 mn82) 48 vn) 49 vt) 1 11 t136 fa76 (by omega) (by omega) (by omega) (by omega)) (gV pw_1798 pw_1799 pw_1800 pw_1523 pw_1793) hV_X12_judge 0 9 rfl rfl rfl rfl (Nat.le_of_ble_eq_true rfl) dX12_joined_145 ⟨Nat.le_of_ble_eq_true rfl, Nat.le_of_ble_eq_true rfl⟩ ⟨(by show 3 + 1 ≤ (4 * z9 + 9); omega), (by show 8 + (4 + 11) + 82 ≤ (160 * z9 + 1360); omega)⟩ (fun v143 u141 H locs hw142 hP hD hS => ?_)
      obtain ⟨r144, fa145, pl146⟩ := u141
      obtain ⟨hw142, h147, h148, h149, h150, h151, h152, h153⟩ := hw142
      replace h147 : r144 ≤ 1 := h147
      replace h148 : fa76 ≤ fa145 := h148
      replace h149 : fa145 ≤ 15 := h149
      replace h150 : fa145 + 15 * r144 ≤ 15 := h150
      replace h151 : 1 ≤ r144 + fa145 := h151
      replace h152 : 1 ≤ 1 + fa145 := h152
      replace h153 : fa145 ≤ fa76 + 15 * (1 - 1) := h153
      obtain rfl : v143 = some (.int (nI r144)) := hw142
      have hP : va_P G.1 pCl (mW G h0 a (upd (upd (upd (upd (upd (upd (upd (upd (upd F 15 (nI fa145)) 16 pl146) 44 (nI fd)) 49 (nI md)) 73 (nI sc)) 74 (nI k9)) 77 dn78) 78 wt79) 79 wf80) (updA (updA (updA (updA (updA B 14 nc) 17 (upd ty81 c62 (nI r75))) 18 mn82) 48 vn) 49 vt)) _ := mW_to (F := F) (l1 := [(15, (nI fa76)), (16, pl77), (44, (nI fd)), (49, (nI md)), (73, (nI sc)), (74, (nI k9)), (77, dn78), (78, wt79), (79, wf80), (15, (nI fa145)), (16, pl146)]) (l2 := [(15, (nI fa145)), (16, pl146), (44, (nI fd)), (49, (nI md)), (73, (nI sc)), (74, (nI k9)), (77, dn78), (78, wt79), (79, wf80)]) (V := [(nI fa145), pl146, (nI fd), (nI md), (nI sc), (nI k9), dn78, wt79, wf80, (nI fa145), pl146, (nI fa145), pl146, (nI fd), (nI md), (nI sc), (nI k9), dn78, wt79, wf80]) rfl rfl rfl hP
      have hD : va_D A (mW G h0 a (upd (upd (upd (upd (upd (upd (upd (upd (upd F 15 (nI fa145)) 16 pl146) 44 (nI fd)) 49 (nI md)) 73 (nI sc)) 74 (nI k9)) 77 dn78) 78 wt79) 79 wf80) (updA (updA (updA (updA (updA B 14 nc) 17 (upd ty81 c62 (nI r75))) 18 mn82) 48 vn) 49 vt)) := mW_D hD
      refine W.widen (k := 0) (n := 0) (Nat.le_of_ble_eq_true rfl) (Nat.le_of_ble_eq_true rfl) ?_
      refine W.eq (g2 := F0 m 148 ls [.int (nI r144)]) rfl ?_
      refine lv_pop hx hb dX12_joined_148 rfl ?_
      refine lv_iload_n hx hb dX12_joined_149 rfl (lv_at hl 4 rfl) ?_
      refine lv_if_eq (tgt := 167) hx hb dX12_joined_150 (by decide) (fun c154 => absurd c154 (by decide)) (fun c154 => ?_)
      refine lv_aload_n hx hb dX12_joined_153 rfl (lv_at hl 5 rfl) ?_
      refine lv_iload hx hb dX12_joined_154 (lv_at hl 1 rfl) ?_
      refine lv_aload_n hx hb dX12_joined_156 rfl (lv_at hl 5 rfl) ?_
      refine r_get (v := .int wf80) hx hb hown hq hE hP 79 554 tFX12_79 (by decide) pw_1806 rfl dX12_joined_157 ?_
      refine lv_iand hx hb dX12_joined_160 ?_
      refine lv_topi (fun x155 e156 => ?_)
      refine r_put (v := x155) (ty := .int) hx hb hown hq hE hP hD hS 79 554 tFX12_79 (by decide) pw_1806 (by decide) rfl rfl (ms_79 a _ _) dX12_joined_161 (fun H locs hP hD hS => ?_)
      refine lv_goto (tgt := 178) hx hb dX12_joined_164 (by decide) ?_
      refine lv_iconst (v := 2) hx hb dX12_joined_178 (by decide) ?_
      have hz157 : fa ≤ fa145 := (by omega)
      have hz158 : fa145 ≤ 15 := (by omega)
      have hz159 : TyC dc 2 := (by unfold TyC; omega)
      have hz160 : 2 ≤ 2050 := (by omega)
      have hz161 : ChE B nd n9 ty (upd ty81 c62 (nI r75)) mn mn82 := hch96
      have hz162 : mnN B nd mn82 := h88
      have hz163 : If (fa145 = 0) (Typ0 B dc fd md nd (upd ty81 c62 (nI r75)) mn82 vt sc k9 n9 (nI 2)) := (fun e => absurd e (by omega))
      have hP : va_P G.1 pCl (mW G h0 a (upd (upd (upd (upd (upd (upd (upd (upd (upd F 15 (nI fa145)) 16 pl146) 44 (nI fd)) 49 (nI md)) 73 (nI sc)) 74 (nI k9)) 77 dn78) 78 wt79) 79 x155) (updA (updA (updA (updA (updA B 14 nc) 17 (upd ty81 c62 (nI r75))) 18 mn82) 48 vn) 49 vt)) _ := mW_to (F := F) (l1 := [(15, (nI fa145)), (16, pl146), (44, (nI fd)), (49, (nI md)), (73, (nI sc)), (74, (nI k9)), (77, dn78), (78, wt79), (79, wf80), (79, x155)]) (l2 := [(15, (nI fa145)), (16, pl146), (44, (nI fd)), (49, (nI md)), (73, (nI sc)), (74, (nI k9)), (77, dn78), (78, wt79), (79, x155)]) (V := [(nI fa145), pl146, (nI fd), (nI md), (nI sc), (nI k9), dn78, wt79, x155, x155, (nI fa145), pl146, (nI fd), (nI md), (nI sc), (nI k9), dn78, wt79, x155]) rfl rfl rfl hP
      have hD : va_D A (mW G h0 a (upd (upd (upd (upd (upd (upd (upd (upd (upd F 15 (nI fa145)) 16 pl146) 44 (nI fd)) 49 (nI md)) 73 (nI sc)) 74 (nI k9)) 77 dn78) 78 wt79) 79 x155) (updA (updA (updA (updA (updA B 14 nc) 17 (upd ty81 c62 (nI r75))) 18 mn82) 48 vn) 49 vt)) := mW_D hD
      exact W.iret (v := 2) hx hb hr (fun t9 ht9 hW9 => ⟨⟨_, (2, fa145, pl146, dn78, wt79, x155, (upd ty81 c62 (nI r75)), mn82), rfl, ⟨rfl, hz157, hz158, hz159, hz160, hz161, hz162, hz163⟩, by rw [ht9]; exact hP, hD⟩, hS.F ht9⟩) hS.2.2 dX12_joined_179
  · have n164 : r17 = 2 := (nI_eq (a := r17) (b := 2) (by omega) (by omega)).mp c39
    refine lv_iconst (v := 1) hx hb dX12_joined_46 (by decide) ?_
    refine lv_goto (tgt := 51) hx hb dX12_joined_47 (by decide) ?_
    refine lv_bipush (v := 11) hx hb dX12_joined_51 (by decide) ?_
    refine lv_aload_n hx hb dX12_joined_53 rfl (lv_at hl 2 rfl) ?_
    refine r_get (v := .ref (a 10)) hx hb hown hq hE hP 18 41 tFX12_18 (by decide) pw_1440 rfl dX12_joined_54 ?_
    refine lv_aload_n hx hb dX12_joined_57 rfl (lv_at hl 2 rfl) ?_
    refine r_get (v := .ref (a 12)) hx hb hown hq hE hP 20 47 tFX12_20 (by decide) pw_1442 rfl dX12_joined_58 ?_
    refine lv_iload_n hx hb dX12_joined_61 rfl (lv_at hl 3 rfl) ?_
    refine r_ldi (f := (B 12)) (j := n9) hx hb hE hP 12 (ma_12 G a _) rfl (by omega) (by decide) dX12_joined_62 ?_
    refine lv_topi (fun x165 e166 => ?_)
    obtain rfl : x165 = nI c4 := e166.trans e5
    refine r_ldi (f := (B 10)) (j := c4) hx hb hE hP 10 (ma_10 G a _) rfl (by omega) (by decide) dX12_joined_63 ?_
    obtain ⟨⟨t167, e168, h169⟩, -⟩ := hF c4 h6
    refine lv_topi (fun x170 e171 => ?_)
    obtain rfl : x170 = nI t167 := e171.trans e168
    have hP : va_P G.1 pCl (mW G h0 a (upd (upd (upd (upd (upd (upd (upd (upd (upd (upd F 15 (nI fa18)) 16 pl19) 44 (nI fd)) 49 (nI md)) 73 (nI sc)) 74 (nI k9)) 77 dn20) 78 wt21) 79 wf22) 15 (nI fa18)) (updA (updA (updA (updA (updA B 14 nc) 17 (upd ty23 c4 (nI r17))) 18 mn24) 48 vn) 49 vt)) _ := mW_to (F := F) (l1 := [(15, (nI fa18)), (16, pl19), (44, (nI fd)), (49, (nI md)), (73, (nI sc)), (74, (nI k9)), (77, dn20), (78, wt21), (79, wf22)]) (l2 := [(15, (nI fa18)), (16, pl19), (44, (nI fd)), (49, (nI md)), (73, (nI sc)), (74, (nI k9)), (77, dn20), (78, wt21), (79, wf22), (15, (nI fa18))]) (V := [(nI fa18), pl19, (nI fd), (nI md), (nI sc), (nI k9), dn20, wt21, wf22, (nI fa18), pl19, (nI fd), (nI md), (nI sc), (nI k9), dn20, wt21, wf22, (nI fa18)]) rfl rfl (show (updA (updA (updA (updA (updA (updA B 14 nc) 17 ty23) 18 mn24) 48 vn) 49 vt) 17 (upd ty23 c4 (nI r17))) = (updA (updA (updA (updA (updA B 14 nc) 17 (upd ty23 c4 (nI r17))) 18 mn24) 48 vn) 49 vt) from updsA_eq2 (F := B) (l1 := [(14, nc), (17, ty23), (18, mn24), (48, vn), (49, vt), (17, (upd ty23 c4 (nI r17)))]) (l2 := [(14, nc), (17, (upd ty23 c4 (nI r17))), (18, mn24), (48, vn), (49, vt)]) (V := [nc, (upd ty23 c4 (nI r17)), mn24, vn, vt, (upd ty23 c4 (nI r17)), nc, (upd ty23 c4 (nI r17)), mn24, vn, vt]) rfl rfl) hP
    have hD : va_D A (mW G h0 a (upd (upd (upd (upd (upd (upd (upd (upd (upd (upd F 15 (nI fa18)) 16 pl19) 44 (nI fd)) 49 (nI md)) 73 (nI sc)) 74 (nI k9)) 77 dn20) 78 wt21) 79 wf22) 15 (nI fa18)) (updA (updA (updA (updA (updA B 14 nc) 17 (upd ty23 c4 (nI r17))) 18 mn24) 48 vn) 49 vt)) := mW_D hD
    refine pc_V0 (G := G) (As := [.int (nI 1), .int (nI 11), .int (nI t167)]) (rest := []) hx hb hml hown hq hE hX pX0_al hP hD hS hA hl.1 (R_judgeL l G h0 a (upd (upd (upd (upd (upd (upd (upd (upd (upd F 15 (nI fa18)) 16 pl19) 44 (nI fd)) 49 (nI md)) 73 (nI sc)) 74 (nI k9)) 77 dn20) 78 wt21) 79 wf22) (updA (updA (updA (updA (updA B 14 nc) 17 (upd ty23 c4 (nI r17))) 18 mn24) 48 vn) 49 vt) 1 11 t167 fa18 (by omega) (by omega) (by omega) (by omega)) (gV pw_1798 pw_1799 pw_1800 pw_1523 pw_1793) hV_X12_judge 0 9 rfl rfl rfl rfl (Nat.le_of_ble_eq_true rfl) dX12_joined_64 ⟨Nat.le_of_ble_eq_true rfl, Nat.le_of_ble_eq_true rfl⟩ ⟨(by show 3 + 1 ≤ (4 * z9 + 9); omega), (by show 8 + (4 + 11) + 82 ≤ (160 * z9 + 1360); omega)⟩ (fun v174 u172 H locs hw173 hP hD hS => ?_)
    obtain ⟨r175, fa176, pl177⟩ := u172
    obtain ⟨hw173, h178, h179, h180, h181, h182, h183, h184⟩ := hw173
    replace h178 : r175 ≤ 1 := h178
    replace h179 : fa18 ≤ fa176 := h179
    replace h180 : fa176 ≤ 15 := h180
    replace h181 : fa176 + 15 * r175 ≤ 15 := h181
    replace h182 : 1 ≤ r175 + fa176 := h182
    replace h183 : 1 ≤ 1 + fa176 := h183
    replace h184 : fa176 ≤ fa18 + 15 * (1 - 1) := h184
    obtain rfl : v174 = some (.int (nI r175)) := hw173
    have hP : va_P G.1 pCl (mW G h0 a (upd (upd (upd (upd (upd (upd (upd (upd (upd F 15 (nI fa176)) 16 pl177) 44 (nI fd)) 49 (nI md)) 73 (nI sc)) 74 (nI k9)) 77 dn20) 78 wt21) 79 wf22) (updA (updA (updA (updA (updA B 14 nc) 17 (upd ty23 c4 (nI r17))) 18 mn24) 48 vn) 49 vt)) _ := mW_to (F := F) (l1 := [(15, (nI fa18)), (16, pl19), (44, (nI fd)), (49, (nI md)), (73, (nI sc)), (74, (nI k9)), (77, dn20), (78, wt21), (79, wf22), (15, (nI fa176)), (16, pl177)]) (l2 := [(15, (nI fa176)), (16, pl177), (44, (nI fd)), (49, (nI md)), (73, (nI sc)), (74, (nI k9)), (77, dn20), (78, wt21), (79, wf22)]) (V := [(nI fa176), pl177, (nI fd), (nI md), (nI sc), (nI k9), dn20, wt21, wf22, (nI fa176), pl177, (nI fa176), pl177, (nI fd), (nI md), (nI sc), (nI k9), dn20, wt21, wf22]) rfl rfl rfl hP
    have hD : va_D A (mW G h0 a (upd (upd (upd (upd (upd (upd (upd (upd (upd F 15 (nI fa176)) 16 pl177) 44 (nI fd)) 49 (nI md)) 73 (nI sc)) 74 (nI k9)) 77 dn20) 78 wt21) 79 wf22) (updA (updA (updA (updA (updA B 14 nc) 17 (upd ty23 c4 (nI r17))) 18 mn24) 48 vn) 49 vt)) := mW_D hD
    refine W.widen (k := 0) (n := 0) (Nat.le_of_ble_eq_true rfl) (Nat.le_of_ble_eq_true rfl) ?_
    refine W.eq (g2 := F0 m 67 ls [.int (nI r175)]) rfl ?_
    refine lv_pop hx hb dX12_joined_67 rfl ?_
    refine lv_aload_n hx hb dX12_joined_68 rfl (lv_at hl 2 rfl) ?_
    refine r_get (v := .int wt21) hx hb hown hq hE hP 78 551 tFX12_78 (by decide) pw_1805 rfl dX12_joined_69 ?_
    refine lv_istore (lv' := [(4, .int wt21), (3, .int (nI r17)), (2, .int 1), (0, .ref h0), (1, .int (nI n9))]) hx hb dX12_joined_72 hl (by decide) rfl (fun ls hl => ?_)
    refine lv_aload_n hx hb dX12_joined_74 rfl (lv_at hl 3 rfl) ?_
    refine r_get (v := .int wf22) hx hb hown hq hE hP 79 554 tFX12_79 (by decide) pw_1806 rfl dX12_joined_75 ?_
    refine lv_istore (lv' := [(5, .int wf22), (4, .int wt21), (3, .int (nI r17)), (2, .int 1), (0, .ref h0), (1, .int (nI n9))]) hx hb dX12_joined_78 hl (by decide) rfl (fun ls hl => ?_)
    refine lv_aload_n hx hb dX12_joined_80 rfl (lv_at hl 4 rfl) ?_
    refine lv_iload_n hx hb dX12_joined_81 rfl (lv_at hl 3 rfl) ?_
    refine lv_if_eq (tgt := 90) hx hb dX12_joined_82 (by decide) (fun c185 => absurd c185 (by decide)) (fun c185 => ?_)
    refine lv_iload hx hb dX12_joined_85 (lv_at hl 1 rfl) ?_
    refine lv_goto (tgt := 92) hx hb dX12_joined_87 (by decide) ?_
    refine r_put (v := wt21) (ty := .int) hx hb hown hq hE hP hD hS 77 544 tFX12_77 (by decide) pw_1796 (by decide) rfl rfl (ms_77 a _ _) dX12_joined_92 (fun H locs hP hD hS => ?_)
    refine lv_aload_n hx hb dX12_joined_95 rfl (lv_at hl 4 rfl) ?_
    refine lv_aload_n hx hb dX12_joined_96 rfl (lv_at hl 4 rfl) ?_
    refine r_get (v := .ref (a 13)) hx hb hown hq hE hP 21 50 tFX12_21 (by decide) pw_1443 rfl dX12_joined_97 ?_
    refine lv_iload_n hx hb dX12_joined_100 rfl (lv_at hl 5 rfl) ?_
    refine r_ldi (f := (B 13)) (j := n9) hx hb hE hP 13 (ma_13 G a _) rfl (by omega) (by decide) dX12_joined_101 ?_
    obtain ⟨c186, e187, h188, hp189, h190, hc191, hh192, hg193⟩ := Fs2.kid (kk := 19) (s := 2) hF hn9 hkd (by decide) (by decide) (by decide) (by decide) (by omega)
    refine lv_topi (fun x194 e195 => ?_)
    obtain rfl : x194 = nI c186 := e195.trans e187
    have hP : va_P G.1 pCl (mW G h0 a (upd (upd (upd (upd (upd (upd (upd (upd (upd (upd (upd (upd (upd (upd (upd (upd (upd F 15 (nI fa176)) 16 pl177) 44 (nI fd)) 49 (nI md)) 73 (nI sc)) 74 (nI k9)) 77 wt21) 78 wt21) 79 wf22) 15 (nI fa176)) 44 (nI fd)) 49 (nI md)) 73 (nI sc)) 74 (nI k9)) 77 wt21) 78 wt21) 79 wf22) (updA (updA (updA (updA (updA B 14 nc) 17 (upd ty23 c4 (nI r17))) 18 mn24) 48 vn) 49 vt)) _ := mW_to (F := F) (l1 := [(15, (nI fa176)), (16, pl177), (44, (nI fd)), (49, (nI md)), (73, (nI sc)), (74, (nI k9)), (77, dn20), (78, wt21), (79, wf22), (77, wt21)]) (l2 := [(15, (nI fa176)), (16, pl177), (44, (nI fd)), (49, (nI md)), (73, (nI sc)), (74, (nI k9)), (77, wt21), (78, wt21), (79, wf22), (15, (nI fa176)), (44, (nI fd)), (49, (nI md)), (73, (nI sc)), (74, (nI k9)), (77, wt21), (78, wt21), (79, wf22)]) (V := [(nI fa176), pl177, (nI fd), (nI md), (nI sc), (nI k9), wt21, wt21, wf22, wt21, (nI fa176), pl177, (nI fd), (nI md), (nI sc), (nI k9), wt21, wt21, wf22, (nI fa176), (nI fd), (nI md), (nI sc), (nI k9), wt21, wt21, wf22]) rfl rfl rfl hP
    have hD : va_D A (mW G h0 a (upd (upd (upd (upd (upd (upd (upd (upd (upd (upd (upd (upd (upd (upd (upd (upd (upd F 15 (nI fa176)) 16 pl177) 44 (nI fd)) 49 (nI md)) 73 (nI sc)) 74 (nI k9)) 77 wt21) 78 wt21) 79 wf22) 15 (nI fa176)) 44 (nI fd)) 49 (nI md)) 73 (nI sc)) 74 (nI k9)) 77 wt21) 78 wt21) 79 wf22) (updA (updA (updA (updA (updA B 14 nc) 17 (upd ty23 c4 (nI r17))) 18 mn24) 48 vn) 49 vt)) := mW_D hD
    refine pc_V0 (G := G) (As := [.int (nI c186)]) (rest := []) hx hb hml hown hq hE hX pX0_al hP hD hS hA hl.1 (ihA h0 a (upd (upd (upd (upd (upd (upd (upd (upd (upd F 15 (nI fa176)) 16 pl177) 44 (nI fd)) 49 (nI md)) 73 (nI sc)) 74 (nI k9)) 77 wt21) 78 wt21) 79 wf22) B c186 fa176 sc k9 nd T nm wr lz dc fd md pr bk gh wt21 wt21 wf22 nc (upd ty23 c4 (nI r17)) mn24 vn vt hst hnm h188 (by omega) (by omega) (by omega) hk9 hnc h30 hvt (show kcl 1 _ = true from hc191)) (gV pw_1815 pw_1816 pw_1817 pw_1523 pw_1831) hV_X12_lookAt 0 9 rfl rfl rfl rfl (Nat.le_of_ble_eq_true rfl) dX12_joined_102 ⟨Nat.le_of_ble_eq_true rfl, Nat.le_of_ble_eq_true rfl⟩ ⟨(by show (4 * (z9 - 1) + 10) + 1 ≤ (4 * z9 + 9); omega), (by show 8 + (3 + 11) + (160 * (z9 - 1) + 1400) ≤ (160 * z9 + 1360); omega)⟩ (fun v198 u196 H locs hw197 hP hD hS => ?_)
    obtain ⟨r199, fa200, pl201, dn202, wt203, wf204, ty205, mn206⟩ := u196
    obtain ⟨hw197, h207, h208, h209, h210, h211, h212, h213⟩ := hw197
    replace h207 : fa176 ≤ fa200 := h207
    replace h208 : fa200 ≤ 15 := h208
    replace h209 : TyC dc r199 := h209
    replace h210 : r199 ≤ 2050 := h210
    replace h211 : ChE B nd c186 (upd ty23 c4 (nI r17)) ty205 mn24 mn206 := h211
    replace h212 : mnN B nd mn206 := h212
    replace h213 : If (fa200 = 0) (Typ0 B dc fd md nd ty205 mn206 vt sc k9 c186 (nI r199)) := h213
    obtain rfl : v198 = some (.int (nI r199)) := hw197
    have hP : va_P G.1 pCl (mW G h0 a (upd (upd (upd (upd (upd (upd (upd (upd (upd F 15 (nI fa200)) 16 pl201) 44 (nI fd)) 49 (nI md)) 73 (nI sc)) 74 (nI k9)) 77 dn202) 78 wt203) 79 wf204) (updA (updA (updA (updA (updA B 14 nc) 17 ty205) 18 mn206) 48 vn) 49 vt)) _ := mW_to (F := F) (l1 := [(15, (nI fa176)), (16, pl177), (44, (nI fd)), (49, (nI md)), (73, (nI sc)), (74, (nI k9)), (77, wt21), (78, wt21), (79, wf22), (15, (nI fa200)), (16, pl201), (44, (nI fd)), (49, (nI md)), (73, (nI sc)), (74, (nI k9)), (77, dn202), (78, wt203), (79, wf204)]) (l2 := [(15, (nI fa200)), (16, pl201), (44, (nI fd)), (49, (nI md)), (73, (nI sc)), (74, (nI k9)), (77, dn202), (78, wt203), (79, wf204)]) (V := [(nI fa200), pl201, (nI fd), (nI md), (nI sc), (nI k9), dn202, wt203, wf204, (nI fa200), pl201, (nI fd), (nI md), (nI sc), (nI k9), dn202, wt203, wf204, (nI fa200), pl201, (nI fd), (nI md), (nI sc), (nI k9), dn202, wt203, wf204]) rfl rfl rfl hP
    have hD : va_D A (mW G h0 a (upd (upd (upd (upd (upd (upd (upd (upd (upd F 15 (nI fa200)) 16 pl201) 44 (nI fd)) 49 (nI md)) 73 (nI sc)) 74 (nI k9)) 77 dn202) 78 wt203) 79 wf204) (updA (updA (updA (updA (updA B 14 nc) 17 ty205) 18 mn206) 48 vn) 49 vt)) := mW_D hD
    refine W.widen (k := 0) (n := 0) (Nat.le_of_ble_eq_true rfl) (Nat.le_of_ble_eq_true rfl) ?_
    refine W.eq (g2 := F0 m 105 ls [.int (nI r199)]) rfl ?_
    have hch214 : ChE B nd n9 ty ty205 mn mn206 := (ChE.trans hch36 (ChE.kid h211 (by omega) hp189))
    have hy215 : If (fa18 = 0) (Typ B dc fd md nd ty205 mn206 vt sc k9 c4) := (fun e => Typ.beside hF (by omega) hn9 (hy37 e) h6 h188 hp7 hp189 (fun e => by have z := hg11; rw [e] at z; have := hg193; omega) h211)
    have ht216 : ty205 c4 = nI r17 := ((ChE.at hF (by omega) hn9 h6 h188 hp7 hp189 (fun e => by have z := hg11; rw [e] at z; have := hg193; omega) h211).trans ht38)
    refine lv_istore (lv' := [(6, .int (nI r199)), (5, .int wf22), (4, .int wt21), (3, .int (nI r17)), (2, .int 1), (0, .ref h0), (1, .int (nI n9))]) hx hb dX12_joined_105 hl (by decide) rfl (fun ls hl => ?_)
    refine lv_aload_n hx hb dX12_joined_107 rfl (lv_at hl 5 rfl) ?_
    refine r_get (v := .ref (a 17)) hx hb hown hq hE hP 25 62 tFX12_25 (by decide) pw_1447 rfl dX12_joined_108 ?_
    refine lv_aload_n hx hb dX12_joined_111 rfl (lv_at hl 5 rfl) ?_
    refine r_get (v := .ref (a 13)) hx hb hown hq hE hP 21 50 tFX12_21 (by decide) pw_1443 rfl dX12_joined_112 ?_
    refine lv_iload_n hx hb dX12_joined_115 rfl (lv_at hl 6 rfl) ?_
    refine r_ldi (f := (B 13)) (j := n9) hx hb hE hP 13 (ma_13 G a _) rfl (by omega) (by decide) dX12_joined_116 ?_
    refine lv_topi (fun x217 e218 => ?_)
    obtain rfl : x217 = nI c186 := e218.trans e187
    refine lv_iload hx hb dX12_joined_117 (lv_at hl 0 rfl) ?_
    refine r_sti (f := ty205) (j := c186) hx hb hE hP hD hS 17 (ma_17 G a _) rfl (mas_17 G a _) (by omega) (by decide) dX12_joined_119 (fun H locs hP hD hS => ?_)
    have hch219 : ChE B nd c186 ty205 (upd ty205 c186 (nI r199)) mn206 mn206 := (ChE.setT sub.rfl)
    have hch220 : ChE B nd n9 ty (upd ty205 c186 (nI r199)) mn mn206 := (ChE.trans hch214 (ChE.kid hch219 (by omega) hp189))
    have hy221 : If (fa18 = 0) (Typ B dc fd md nd (upd ty205 c186 (nI r199)) mn206 vt sc k9 c4) := (fun e => Typ.beside hF (by omega) hn9 (hy215 e) h6 h188 hp7 hp189 (fun e => by have z := hg11; rw [e] at z; have := hg193; omega) hch219)
    have ht222 : (upd ty205 c186 (nI r199)) c4 = nI r17 := ((ChE.at hF (by omega) hn9 h6 h188 hp7 hp189 (fun e => by have z := hg11; rw [e] at z; have := hg193; omega) hch219).trans ht216)
    have hy223 : If (fa200 = 0) (Typ B dc fd md nd (upd ty205 c186 (nI r199)) mn206 vt sc k9 c186) := (fun e => Typ0.st hF (by omega) h188 (h213 e))
    have ht224 : (upd ty205 c186 (nI r199)) c186 = nI r199 := upd_eq
    refine lv_aload_n hx hb dX12_joined_120 rfl (lv_at hl 5 rfl) ?_
    refine lv_iload hx hb dX12_joined_121 (lv_at hl 0 rfl) ?_
    refine lv_iconst (v := 2) hx hb dX12_joined_123 (by decide) ?_
    refine lv_icmp_ne (tgt := 131) hx hb dX12_joined_124 (by decide) (fun c225 => ?_) (fun c225 => ?_)
    · have n226 : ¬ (r199 = 2) := fun h9 => c225 ((nI_eq (a := r199) (b := 2) (by omega) (by omega)).mpr h9)
      refine lv_iconst (v := 0) hx hb dX12_joined_131 (by decide) ?_
      refine lv_bipush (v := 11) hx hb dX12_joined_132 (by decide) ?_
      refine lv_aload_n hx hb dX12_joined_134 rfl (lv_at hl 5 rfl) ?_
      refine r_get (v := .ref (a 10)) hx hb hown hq hE hP 18 41 tFX12_18 (by decide) pw_1440 rfl dX12_joined_135 ?_
      refine lv_aload_n hx hb dX12_joined_138 rfl (lv_at hl 5 rfl) ?_
      refine r_get (v := .ref (a 13)) hx hb hown hq hE hP 21 50 tFX12_21 (by decide) pw_1443 rfl dX12_joined_139 ?_
      refine lv_iload_n hx hb dX12_joined_142 rfl (lv_at hl 6 rfl) ?_
      refine r_ldi (f := (B 13)) (j := n9) hx hb hE hP 13 (ma_13 G a _) rfl (by omega) (by decide) dX12_joined_143 ?_
      refine lv_topi (fun x227 e228 => ?_)
      obtain rfl : x227 = nI c186 := e228.trans e187
      refine r_ldi (f := (B 10)) (j := c186) hx hb hE hP 10 (ma_10 G a _) rfl (by omega) (by decide) dX12_joined_144 ?_
      obtain ⟨⟨t229, e230, h231⟩, -⟩ := hF c186 h188
      refine lv_topi (fun x232 e233 => ?_)
      obtain rfl : x232 = nI t229 := e233.trans e230
      have hP : va_P G.1 pCl (mW G h0 a (upd (upd (upd (upd (upd (upd (upd (upd (upd (upd F 15 (nI fa200)) 16 pl201) 44 (nI fd)) 49 (nI md)) 73 (nI sc)) 74 (nI k9)) 77 dn202) 78 wt203) 79 wf204) 15 (nI fa200)) (updA (updA (updA (updA (updA B 14 nc) 17 (upd ty205 c186 (nI r199))) 18 mn206) 48 vn) 49 vt)) _ := mW_to (F := F) (l1 := [(15, (nI fa200)), (16, pl201), (44, (nI fd)), (49, (nI md)), (73, (nI sc)), (74, (nI k9)), (77, dn202), (78, wt203), (79, wf204)]) (l2 := [(15, (nI fa200)), (16, pl201), (44, (nI fd)), (49, (nI md)), (73, (nI sc)), (74, (nI k9)), (77, dn202), (78, wt203), (79, wf204), (15, (nI fa200))]) (V := [(nI fa200), pl201, (nI fd), (nI md), (nI sc), (nI k9), dn202, wt203, wf204, (nI fa200), pl201, (nI fd), (nI md), (nI sc), (nI k9), dn202, wt203, wf204, (nI fa200)]) rfl rfl (show (updA (updA (updA (updA (updA (updA B 14 nc) 17 ty205) 18 mn206) 48 vn) 49 vt) 17 (upd ty205 c186 (nI r199))) = (updA (updA (updA (updA (updA B 14 nc) 17 (upd ty205 c186 (nI r199))) 18 mn206) 48 vn) 49 vt) from updsA_eq2 (F := B) (l1 := [(14, nc), (17, ty205), (18, mn206), (48, vn), (49, vt), (17, (upd ty205 c186 (nI r199)))]) (l2 := [(14, nc), (17, (upd ty205 c186 (nI r199))), (18, mn206), (48, vn), (49, vt)]) (V := [nc, (upd ty205 c186 (nI r199)), mn206, vn, vt, (upd ty205 c186 (nI r199)), nc, (upd ty205 c186 (nI r199)), mn206, vn, vt]) rfl rfl) hP
      have hD : va_D A (mW G h0 a (upd (upd (upd (upd (upd (upd (upd (upd (upd (upd F 15 (nI fa200)) 16 pl201) 44 (nI fd)) 49 (nI md)) 73 (nI sc)) 74 (nI k9)) 77 dn202) 78 wt203) 79 wf204) 15 (nI fa200)) (updA (updA (updA (updA (updA B 14 nc) 17 (upd ty205 c186 (nI r199))) 18 mn206) 48 vn) 49 vt)) := mW_D hD
      refine pc_V0 (G := G) (As := [.int (nI 0), .int (nI 11), .int (nI t229)]) (rest := []) hx hb hml hown hq hE hX pX0_al hP hD hS hA hl.1 (R_judgeL l G h0 a (upd (upd (upd (upd (upd (upd (upd (upd (upd F 15 (nI fa200)) 16 pl201) 44 (nI fd)) 49 (nI md)) 73 (nI sc)) 74 (nI k9)) 77 dn202) 78 wt203) 79 wf204) (updA (updA (updA (updA (updA B 14 nc) 17 (upd ty205 c186 (nI r199))) 18 mn206) 48 vn) 49 vt) 0 11 t229 fa200 (by omega) (by omega) (by omega) (by omega)) (gV pw_1798 pw_1799 pw_1800 pw_1523 pw_1793) hV_X12_judge 0 9 rfl rfl rfl rfl (Nat.le_of_ble_eq_true rfl) dX12_joined_145 ⟨Nat.le_of_ble_eq_true rfl, Nat.le_of_ble_eq_true rfl⟩ ⟨(by show 3 + 1 ≤ (4 * z9 + 9); omega), (by show 8 + (4 + 11) + 82 ≤ (160 * z9 + 1360); omega)⟩ (fun v236 u234 H locs hw235 hP hD hS => ?_)
      obtain ⟨r237, fa238, pl239⟩ := u234
      obtain ⟨hw235, h240, h241, h242, h243, h244, h245, h246⟩ := hw235
      replace h240 : r237 ≤ 1 := h240
      replace h241 : fa200 ≤ fa238 := h241
      replace h242 : fa238 ≤ 15 := h242
      replace h243 : fa238 + 15 * r237 ≤ 15 := h243
      replace h244 : 1 ≤ r237 + fa238 := h244
      replace h245 : 1 ≤ 0 + fa238 := h245
      replace h246 : fa238 ≤ fa200 + 15 * (1 - 0) := h246
      obtain rfl : v236 = some (.int (nI r237)) := hw235
      have hP : va_P G.1 pCl (mW G h0 a (upd (upd (upd (upd (upd (upd (upd (upd (upd F 15 (nI fa238)) 16 pl239) 44 (nI fd)) 49 (nI md)) 73 (nI sc)) 74 (nI k9)) 77 dn202) 78 wt203) 79 wf204) (updA (updA (updA (updA (updA B 14 nc) 17 (upd ty205 c186 (nI r199))) 18 mn206) 48 vn) 49 vt)) _ := mW_to (F := F) (l1 := [(15, (nI fa200)), (16, pl201), (44, (nI fd)), (49, (nI md)), (73, (nI sc)), (74, (nI k9)), (77, dn202), (78, wt203), (79, wf204), (15, (nI fa238)), (16, pl239)]) (l2 := [(15, (nI fa238)), (16, pl239), (44, (nI fd)), (49, (nI md)), (73, (nI sc)), (74, (nI k9)), (77, dn202), (78, wt203), (79, wf204)]) (V := [(nI fa238), pl239, (nI fd), (nI md), (nI sc), (nI k9), dn202, wt203, wf204, (nI fa238), pl239, (nI fa238), pl239, (nI fd), (nI md), (nI sc), (nI k9), dn202, wt203, wf204]) rfl rfl rfl hP
      have hD : va_D A (mW G h0 a (upd (upd (upd (upd (upd (upd (upd (upd (upd F 15 (nI fa238)) 16 pl239) 44 (nI fd)) 49 (nI md)) 73 (nI sc)) 74 (nI k9)) 77 dn202) 78 wt203) 79 wf204) (updA (updA (updA (updA (updA B 14 nc) 17 (upd ty205 c186 (nI r199))) 18 mn206) 48 vn) 49 vt)) := mW_D hD
      refine W.widen (k := 0) (n := 0) (Nat.le_of_ble_eq_true rfl) (Nat.le_of_ble_eq_true rfl) ?_
      refine W.eq (g2 := F0 m 148 ls [.int (nI r237)]) rfl ?_
      refine lv_pop hx hb dX12_joined_148 rfl ?_
      refine lv_iload_n hx hb dX12_joined_149 rfl (lv_at hl 4 rfl) ?_
      refine lv_if_eq (tgt := 167) hx hb dX12_joined_150 (by decide) (fun c247 => absurd c247 (by decide)) (fun c247 => ?_)
      refine lv_aload_n hx hb dX12_joined_153 rfl (lv_at hl 5 rfl) ?_
      refine lv_iload hx hb dX12_joined_154 (lv_at hl 1 rfl) ?_
      refine lv_aload_n hx hb dX12_joined_156 rfl (lv_at hl 5 rfl) ?_
      refine r_get (v := .int wf204) hx hb hown hq hE hP 79 554 tFX12_79 (by decide) pw_1806 rfl dX12_joined_157 ?_
      refine lv_iand hx hb dX12_joined_160 ?_
      refine lv_topi (fun x248 e249 => ?_)
      refine r_put (v := x248) (ty := .int) hx hb hown hq hE hP hD hS 79 554 tFX12_79 (by decide) pw_1806 (by decide) rfl rfl (ms_79 a _ _) dX12_joined_161 (fun H locs hP hD hS => ?_)
      refine lv_goto (tgt := 178) hx hb dX12_joined_164 (by decide) ?_
      refine lv_iconst (v := 2) hx hb dX12_joined_178 (by decide) ?_
      have hz250 : fa ≤ fa238 := (by omega)
      have hz251 : fa238 ≤ 15 := (by omega)
      have hz252 : TyC dc 2 := (by unfold TyC; omega)
      have hz253 : 2 ≤ 2050 := (by omega)
      have hz254 : ChE B nd n9 ty (upd ty205 c186 (nI r199)) mn mn206 := hch220
      have hz255 : mnN B nd mn206 := h212
      have hz256 : If (fa238 = 0) (Typ0 B dc fd md nd (upd ty205 c186 (nI r199)) mn206 vt sc k9 n9 (nI 2)) := (fun e => absurd e (by omega))
      have hP : va_P G.1 pCl (mW G h0 a (upd (upd (upd (upd (upd (upd (upd (upd (upd F 15 (nI fa238)) 16 pl239) 44 (nI fd)) 49 (nI md)) 73 (nI sc)) 74 (nI k9)) 77 dn202) 78 wt203) 79 x248) (updA (updA (updA (updA (updA B 14 nc) 17 (upd ty205 c186 (nI r199))) 18 mn206) 48 vn) 49 vt)) _ := mW_to (F := F) (l1 := [(15, (nI fa238)), (16, pl239), (44, (nI fd)), (49, (nI md)), (73, (nI sc)), (74, (nI k9)), (77, dn202), (78, wt203), (79, wf204), (79, x248)]) (l2 := [(15, (nI fa238)), (16, pl239), (44, (nI fd)), (49, (nI md)), (73, (nI sc)), (74, (nI k9)), (77, dn202), (78, wt203), (79, x248)]) (V := [(nI fa238), pl239, (nI fd), (nI md), (nI sc), (nI k9), dn202, wt203, x248, x248, (nI fa238), pl239, (nI fd), (nI md), (nI sc), (nI k9), dn202, wt203, x248]) rfl rfl rfl hP
      have hD : va_D A (mW G h0 a (upd (upd (upd (upd (upd (upd (upd (upd (upd F 15 (nI fa238)) 16 pl239) 44 (nI fd)) 49 (nI md)) 73 (nI sc)) 74 (nI k9)) 77 dn202) 78 wt203) 79 x248) (updA (updA (updA (updA (updA B 14 nc) 17 (upd ty205 c186 (nI r199))) 18 mn206) 48 vn) 49 vt)) := mW_D hD
      exact W.iret (v := 2) hx hb hr (fun t9 ht9 hW9 => ⟨⟨_, (2, fa238, pl239, dn202, wt203, x248, (upd ty205 c186 (nI r199)), mn206), rfl, ⟨rfl, hz250, hz251, hz252, hz253, hz254, hz255, hz256⟩, by rw [ht9]; exact hP, hD⟩, hS.F ht9⟩) hS.2.2 dX12_joined_179
    · have n257 : r199 = 2 := (nI_eq (a := r199) (b := 2) (by omega) (by omega)).mp c225
      refine lv_iconst (v := 1) hx hb dX12_joined_127 (by decide) ?_
      refine lv_goto (tgt := 132) hx hb dX12_joined_128 (by decide) ?_
      refine lv_bipush (v := 11) hx hb dX12_joined_132 (by decide) ?_
      refine lv_aload_n hx hb dX12_joined_134 rfl (lv_at hl 5 rfl) ?_
      refine r_get (v := .ref (a 10)) hx hb hown hq hE hP 18 41 tFX12_18 (by decide) pw_1440 rfl dX12_joined_135 ?_
      refine lv_aload_n hx hb dX12_joined_138 rfl (lv_at hl 5 rfl) ?_
      refine r_get (v := .ref (a 13)) hx hb hown hq hE hP 21 50 tFX12_21 (by decide) pw_1443 rfl dX12_joined_139 ?_
      refine lv_iload_n hx hb dX12_joined_142 rfl (lv_at hl 6 rfl) ?_
      refine r_ldi (f := (B 13)) (j := n9) hx hb hE hP 13 (ma_13 G a _) rfl (by omega) (by decide) dX12_joined_143 ?_
      refine lv_topi (fun x258 e259 => ?_)
      obtain rfl : x258 = nI c186 := e259.trans e187
      refine r_ldi (f := (B 10)) (j := c186) hx hb hE hP 10 (ma_10 G a _) rfl (by omega) (by decide) dX12_joined_144 ?_
      obtain ⟨⟨t260, e261, h262⟩, -⟩ := hF c186 h188
      refine lv_topi (fun x263 e264 => ?_)
      obtain rfl : x263 = nI t260 := e264.trans e261
      have hP : va_P G.1 pCl (mW G h0 a (upd (upd (upd (upd (upd (upd (upd (upd (upd (upd F 15 (nI fa200)) 16 pl201) 44 (nI fd)) 49 (nI md)) 73 (nI sc)) 74 (nI k9)) 77 dn202) 78 wt203) 79 wf204) 15 (nI fa200)) (updA (updA (updA (updA (updA B 14 nc) 17 (upd ty205 c186 (nI r199))) 18 mn206) 48 vn) 49 vt)) _ := mW_to (F := F) (l1 := [(15, (nI fa200)), (16, pl201), (44, (nI fd)), (49, (nI md)), (73, (nI sc)), (74, (nI k9)), (77, dn202), (78, wt203), (79, wf204)]) (l2 := [(15, (nI fa200)), (16, pl201), (44, (nI fd)), (49, (nI md)), (73, (nI sc)), (74, (nI k9)), (77, dn202), (78, wt203), (79, wf204), (15, (nI fa200))]) (V := [(nI fa200), pl201, (nI fd), (nI md), (nI sc), (nI k9), dn202, wt203, wf204, (nI fa200), pl201, (nI fd), (nI md), (nI sc), (nI k9), dn202, wt203, wf204, (nI fa200)]) rfl rfl (show (updA (updA (updA (updA (updA (updA B 14 nc) 17 ty205) 18 mn206) 48 vn) 49 vt) 17 (upd ty205 c186 (nI r199))) = (updA (updA (updA (updA (updA B 14 nc) 17 (upd ty205 c186 (nI r199))) 18 mn206) 48 vn) 49 vt) from updsA_eq2 (F := B) (l1 := [(14, nc), (17, ty205), (18, mn206), (48, vn), (49, vt), (17, (upd ty205 c186 (nI r199)))]) (l2 := [(14, nc), (17, (upd ty205 c186 (nI r199))), (18, mn206), (48, vn), (49, vt)]) (V := [nc, (upd ty205 c186 (nI r199)), mn206, vn, vt, (upd ty205 c186 (nI r199)), nc, (upd ty205 c186 (nI r199)), mn206, vn, vt]) rfl rfl) hP
      have hD : va_D A (mW G h0 a (upd (upd (upd (upd (upd (upd (upd (upd (upd (upd F 15 (nI fa200)) 16 pl201) 44 (nI fd)) 49 (nI md)) 73 (nI sc)) 74 (nI k9)) 77 dn202) 78 wt203) 79 wf204) 15 (nI fa200)) (updA (updA (updA (updA (updA B 14 nc) 17 (upd ty205 c186 (nI r199))) 18 mn206) 48 vn) 49 vt)) := mW_D hD
      refine pc_V0 (G := G) (As := [.int (nI 1), .int (nI 11), .int (nI t260)]) (rest := []) hx hb hml hown hq hE hX pX0_al hP hD hS hA hl.1 (R_judgeL l G h0 a (upd (upd (upd (upd (upd (upd (upd (upd (upd F 15 (nI fa200)) 16 pl201) 44 (nI fd)) 49 (nI md)) 73 (nI sc)) 74 (nI k9)) 77 dn202) 78 wt203) 79 wf204) (updA (updA (updA (updA (updA B 14 nc) 17 (upd ty205 c186 (nI r199))) 18 mn206) 48 vn) 49 vt) 1 11 t260 fa200 (by omega) (by omega) (by omega) (by omega)) (gV pw_1798 pw_1799 pw_1800 pw_1523 pw_1793) hV_X12_judge 0 9 rfl rfl rfl rfl (Nat.le_of_ble_eq_true rfl) dX12_joined_145 ⟨Nat.le_of_ble_eq_true rfl, Nat.le_of_ble_eq_true rfl⟩ ⟨(by show 3 + 1 ≤ (4 * z9 + 9); omega), (by show 8 + (4 + 11) + 82 ≤ (160 * z9 + 1360); omega)⟩ (fun v267 u265 H locs hw266 hP hD hS => ?_)
      obtain ⟨r268, fa269, pl270⟩ := u265
      obtain ⟨hw266, h271, h272, h273, h274, h275, h276, h277⟩ := hw266
      replace h271 : r268 ≤ 1 := h271
      replace h272 : fa200 ≤ fa269 := h272
      replace h273 : fa269 ≤ 15 := h273
      replace h274 : fa269 + 15 * r268 ≤ 15 := h274
      replace h275 : 1 ≤ r268 + fa269 := h275
      replace h276 : 1 ≤ 1 + fa269 := h276
      replace h277 : fa269 ≤ fa200 + 15 * (1 - 1) := h277
      obtain rfl : v267 = some (.int (nI r268)) := hw266
      have hP : va_P G.1 pCl (mW G h0 a (upd (upd (upd (upd (upd (upd (upd (upd (upd F 15 (nI fa269)) 16 pl270) 44 (nI fd)) 49 (nI md)) 73 (nI sc)) 74 (nI k9)) 77 dn202) 78 wt203) 79 wf204) (updA (updA (updA (updA (updA B 14 nc) 17 (upd ty205 c186 (nI r199))) 18 mn206) 48 vn) 49 vt)) _ := mW_to (F := F) (l1 := [(15, (nI fa200)), (16, pl201), (44, (nI fd)), (49, (nI md)), (73, (nI sc)), (74, (nI k9)), (77, dn202), (78, wt203), (79, wf204), (15, (nI fa269)), (16, pl270)]) (l2 := [(15, (nI fa269)), (16, pl270), (44, (nI fd)), (49, (nI md)), (73, (nI sc)), (74, (nI k9)), (77, dn202), (78, wt203), (79, wf204)]) (V := [(nI fa269), pl270, (nI fd), (nI md), (nI sc), (nI k9), dn202, wt203, wf204, (nI fa269), pl270, (nI fa269), pl270, (nI fd), (nI md), (nI sc), (nI k9), dn202, wt203, wf204]) rfl rfl rfl hP
      have hD : va_D A (mW G h0 a (upd (upd (upd (upd (upd (upd (upd (upd (upd F 15 (nI fa269)) 16 pl270) 44 (nI fd)) 49 (nI md)) 73 (nI sc)) 74 (nI k9)) 77 dn202) 78 wt203) 79 wf204) (updA (updA (updA (updA (updA B 14 nc) 17 (upd ty205 c186 (nI r199))) 18 mn206) 48 vn) 49 vt)) := mW_D hD
      refine W.widen (k := 0) (n := 0) (Nat.le_of_ble_eq_true rfl) (Nat.le_of_ble_eq_true rfl) ?_
      refine W.eq (g2 := F0 m 148 ls [.int (nI r268)]) rfl ?_
      refine lv_pop hx hb dX12_joined_148 rfl ?_
      refine lv_iload_n hx hb dX12_joined_149 rfl (lv_at hl 4 rfl) ?_
      refine lv_if_eq (tgt := 167) hx hb dX12_joined_150 (by decide) (fun c278 => absurd c278 (by decide)) (fun c278 => ?_)
      refine lv_aload_n hx hb dX12_joined_153 rfl (lv_at hl 5 rfl) ?_
      refine lv_iload hx hb dX12_joined_154 (lv_at hl 1 rfl) ?_
      refine lv_aload_n hx hb dX12_joined_156 rfl (lv_at hl 5 rfl) ?_
      refine r_get (v := .int wf204) hx hb hown hq hE hP 79 554 tFX12_79 (by decide) pw_1806 rfl dX12_joined_157 ?_
      refine lv_iand hx hb dX12_joined_160 ?_
      refine lv_topi (fun x279 e280 => ?_)
      refine r_put (v := x279) (ty := .int) hx hb hown hq hE hP hD hS 79 554 tFX12_79 (by decide) pw_1806 (by decide) rfl rfl (ms_79 a _ _) dX12_joined_161 (fun H locs hP hD hS => ?_)
      refine lv_goto (tgt := 178) hx hb dX12_joined_164 (by decide) ?_
      refine lv_iconst (v := 2) hx hb dX12_joined_178 (by decide) ?_
      have hz281 : fa ≤ fa269 := (by omega)
      have hz282 : fa269 ≤ 15 := (by omega)
      have hz283 : TyC dc 2 := (by unfold TyC; omega)
      have hz284 : 2 ≤ 2050 := (by omega)
      have hz285 : ChE B nd n9 ty (upd ty205 c186 (nI r199)) mn mn206 := hch220
      have hz286 : mnN B nd mn206 := h212
      have hz287 : If (fa269 = 0) (Typ0 B dc fd md nd (upd ty205 c186 (nI r199)) mn206 vt sc k9 n9 (nI 2)) := (fun e => Typ0.of (kids (kk := 19) (c1 := c4) (c2 := c186) (c3 := c4) hkd (by decide) ⟨by omega, by omega, by omega⟩ (Or.inr ⟨by decide, e5⟩) (Or.inr ⟨by decide, e187⟩) (Or.inl (by decide)) (by decide) (hy221 (by omega)) (hy223 (by omega)) (hy221 (by omega))) (LT19 hkd hh10 hh192 (ht222.trans (by rw [show r17 = 2 by omega]; rfl)) (ht224.trans (by rw [show r199 = 2 by omega]; rfl))))
      have hP : va_P G.1 pCl (mW G h0 a (upd (upd (upd (upd (upd (upd (upd (upd (upd F 15 (nI fa269)) 16 pl270) 44 (nI fd)) 49 (nI md)) 73 (nI sc)) 74 (nI k9)) 77 dn202) 78 wt203) 79 x279) (updA (updA (updA (updA (updA B 14 nc) 17 (upd ty205 c186 (nI r199))) 18 mn206) 48 vn) 49 vt)) _ := mW_to (F := F) (l1 := [(15, (nI fa269)), (16, pl270), (44, (nI fd)), (49, (nI md)), (73, (nI sc)), (74, (nI k9)), (77, dn202), (78, wt203), (79, wf204), (79, x279)]) (l2 := [(15, (nI fa269)), (16, pl270), (44, (nI fd)), (49, (nI md)), (73, (nI sc)), (74, (nI k9)), (77, dn202), (78, wt203), (79, x279)]) (V := [(nI fa269), pl270, (nI fd), (nI md), (nI sc), (nI k9), dn202, wt203, x279, x279, (nI fa269), pl270, (nI fd), (nI md), (nI sc), (nI k9), dn202, wt203, x279]) rfl rfl rfl hP
      have hD : va_D A (mW G h0 a (upd (upd (upd (upd (upd (upd (upd (upd (upd F 15 (nI fa269)) 16 pl270) 44 (nI fd)) 49 (nI md)) 73 (nI sc)) 74 (nI k9)) 77 dn202) 78 wt203) 79 x279) (updA (updA (updA (updA (updA B 14 nc) 17 (upd ty205 c186 (nI r199))) 18 mn206) 48 vn) 49 vt)) := mW_D hD
      exact W.iret (v := 2) hx hb hr (fun t9 ht9 hW9 => ⟨⟨_, (2, fa269, pl270, dn202, wt203, x279, (upd ty205 c186 (nI r199)), mn206), rfl, ⟨rfl, hz281, hz282, hz283, hz284, hz285, hz286, hz287⟩, by rw [ht9]; exact hP, hD⟩, hS.F ht9⟩) hS.2.2 dX12_joined_179
theorem dX12_joined_15 : decode cX12_joined 15 = .ok (.iconst 0, 1) := by decide +kernel
theorem dX12_joined_90 : decode cX12_joined 90 = .ok (.iload 5, 2) := by decide +kernel
theorem dX12_joined_167 : decode cX12_joined 167 = .ok (.aload_n 0, 1) := by decide +kernel
theorem dX12_joined_168 : decode cX12_joined 168 = .ok (.iload 4, 2) := by decide +kernel
theorem dX12_joined_170 : decode cX12_joined 170 = .ok (.aload_n 0, 1) := by decide +kernel
theorem dX12_joined_171 : decode cX12_joined 171 = .ok (.getfield 551, 3) := by decide +kernel
theorem dX12_joined_174 : decode cX12_joined 174 = .ok (.iand, 1) := by decide +kernel
theorem dX12_joined_175 : decode cX12_joined 175 = .ok (.putfield 551, 3) := by decide +kernel
set_option maxHeartbeats 6000000 in
set_option maxRecDepth 100000 in
/-- joined(n), kind 20 -/
theorem L_joined20 (l : Launch) (G : pT) (h0 : Nat) (a : Nat → Nat) (F : Nat → Int32) (B : Nat → Nat → Int32) (n9 : Nat) (z9 : Nat) (fa : Nat) (sc : Nat) (k9 : Nat) (nd : Nat) (T : Nat) (nm : Nat) (wr : Nat) (lz : Nat) (dc : Nat) (fd : Nat) (md : Nat) (pr : Nat) (bk : Nat) (gh : Nat → Nat → Nat) (dn : Int32) (wt : Int32) (wf : Int32) (nc : Nat → Int32) (ty : Nat → Int32) (mn : Nat → Int32) (vn : Nat → Int32) (vt : Nat → Int32) (hst : St B gh nd T nm wr lz dc fd md pr bk) (hnm : nd ≤ 12000 ∧ T ≤ 5000 ∧ wr ≤ 5000 ∧ 7 ≤ dc ∧ dc ≤ 37 ∧ fd ≤ 620 ∧ md ≤ 920 ∧ pr ≤ 5000) (hn9 : n9 < nd) (hz : gh 1 n9 < z9) (hfa : fa ≤ 15) (hsc : sc ≤ 30) (hk9 : 7 ≤ k9 ∧ k9 < dc) (hnc : ∀ i : Nat, i < nd → ¬ B 9 i = 44 → nc i = B 14 i) (hmn : mnN B nd mn) (hvt : ∀ i : Nat, i < sc → tyOK dc (vt i)) (hkd : B 9 n9 = nI 20) (ihA : PlookAt l G (z9 - 1)) : PM l G pX0 yX12_joined cX12_joined 7 (some .int) ({ frames := (4 * z9 + 9), cells := 0, slots := 0, locals := (160 * z9 + 1360) }) [.ref h0, .int (nI n9)] (mW G h0 a (upd (upd (upd (upd (upd (upd (upd (upd F 15 (nI fa)) 44 (nI fd)) 49 (nI md)) 73 (nI sc)) 74 (nI k9)) 77 dn) 78 wt) 79 wf) (updA (updA (updA (updA (updA B 14 nc) 17 ty) 18 mn) 48 vn) 49 vt)) (fun (v : Option Value) (u : Nat × Nat × Int32 × Int32 × Int32 × Int32 × (Nat → Int32) × (Nat → Int32)) => v = some (.int (nI u.1)) ∧ (fa ≤ u.2.1) ∧ (u.2.1 ≤ 15) ∧ (TyC dc u.1) ∧ (u.1 ≤ 2050) ∧ (ChE B nd n9 ty u.2.2.2.2.2.2.1 mn u.2.2.2.2.2.2.2) ∧ (mnN B nd u.2.2.2.2.2.2.2) ∧ (If (u.2.1 = 0) (Typ0 B dc fd md nd u.2.2.2.2.2.2.1 u.2.2.2.2.2.2.2 vt sc k9 n9 (nI u.1)))) (fun u => (mW G h0 a (upd (upd (upd (upd (upd (upd (upd (upd (upd F 15 (nI u.2.1)) 16 u.2.2.1) 44 (nI fd)) 49 (nI md)) 73 (nI sc)) 74 (nI k9)) 77 u.2.2.2.1) 78 u.2.2.2.2.1) 79 u.2.2.2.2.2.1) (updA (updA (updA (updA (updA B 14 nc) 17 u.2.2.2.2.2.2.1) 18 u.2.2.2.2.2.2.2) 48 vn) 49 vt))) := by
  intro sz
  refine Met.ofW (cc := cX12_joined) (maxL := 7) (ret := (some .int)) (by decide) rfl ?_
  intro p e s m args below meth c s₁ B9 hml hv
  obtain ⟨rfl, hsz, hP, hD0, hE, hX⟩ := hv
  have hx := B9.exec
  have hb := B9.bytes
  have hr := B9.returns
  have hts := atoms_spec (ws := Cond.code yX12_joined cX12_joined 7 (some .int) :: pw) B9.pre
  have hq : ∀ w ∈ pw, w.before _ s = true := fun w h => hts w (List.mem_cons_of_mem _ h)
  have hown : s.vm.findClass RX12 = some m.cls := findClass_of_methodNamed B9.named
  have hlocks := B9.notSynchronized
  subst hsz
  have hD := hD0.self (sz := s.heap.size)
  have hA : ∀ q : Nat, s.heap.size ≤ q → va_A (mW G h0 a (upd (upd (upd (upd (upd (upd (upd (upd F 15 (nI fa)) 44 (nI fd)) 49 (nI md)) 73 (nI sc)) 74 (nI k9)) 77 dn) 78 wt) 79 wf) (updA (updA (updA (updA (updA B 14 nc) 17 ty) 18 mn) 48 vn) 49 vt)) s.heap.size q := fun q h => Or.inr h
  have hP : va_P G.1 pCl (mW G h0 a (upd (upd (upd (upd (upd (upd (upd (upd F 15 (nI fa)) 44 (nI fd)) 49 (nI md)) 73 (nI sc)) 74 (nI k9)) 77 dn) 78 wt) 79 wf) (updA (updA (updA (updA (updA B 14 nc) 17 ty) 18 mn) 48 vn) 49 vt)) s.heap := hP
  generalize va_A (mW G h0 a (upd (upd (upd (upd (upd (upd (upd (upd F 15 (nI fa)) 44 (nI fd)) 49 (nI md)) 73 (nI sc)) 74 (nI k9)) 77 dn) 78 wt) 79 wf) (updA (updA (updA (updA (updA B 14 nc) 17 ty) 18 mn) 48 vn) 49 vt)) s.heap.size = A at hD hE hA ⊢
  have hS : va_S A s.heap s.heap [] := va_S.rf
  have hl := lv_entry ([.ref h0, .int (nI n9)]) (n := 7) (Nat.le_of_ble_eq_true rfl)
  rw [lg_entry_eq]
  generalize (lg_sl ([.ref h0, .int (nI n9)]) ++ List.replicate (7 - (lg_sl ([.ref h0, .int (nI n9)])).length) Slot.unset).toArray = ls at hl ⊢
  have hl : lv_has ls 7 [(0, .ref h0), (1, .int (nI n9))] := hl
  have hF := hst.1
  have hPS := hst.2.1
  have hBI := hst.2.2.1
  have hRK := hst.2.2.2.1
  have hTY := hst.2.2.2.2.1
  have hNW := hst.2.2.2.2.2.1
  have hTK := hst.2.2.2.2.2.2
  refine lv_aload_n hx hb dX12_joined_0 rfl (lv_at hl 0 rfl) ?_
  refine r_get (v := .ref (a 9)) hx hb hown hq hE hP 17 38 tFX12_17 (by decide) pw_1439 rfl dX12_joined_1 ?_
  refine lv_iload_n hx hb dX12_joined_4 rfl (lv_at hl 1 rfl) ?_
  refine r_ldi (f := (B 9)) (j := n9) hx hb hE hP 9 (ma_9 G a _) rfl (by omega) (by decide) dX12_joined_5 ?_
  refine lv_topi (fun x1 e2 => ?_)
  obtain rfl : x1 = 20 := e2.trans hkd
  refine lv_bipush (v := 19) hx hb dX12_joined_6 (by decide) ?_
  refine lv_icmp_ne (tgt := 15) hx hb dX12_joined_8 (by decide) (fun c3 => ?_) (fun c3 => absurd c3 (by decide))
  refine lv_iconst (v := 0) hx hb dX12_joined_15 (by decide) ?_
  refine lv_istore_n (lv' := [(2, .int 0), (0, .ref h0), (1, .int (nI n9))]) hx hb dX12_joined_16 rfl hl (by decide) rfl (fun ls hl => ?_)
  refine lv_aload_n hx hb dX12_joined_17 rfl (lv_at hl 1 rfl) ?_
  refine lv_aload_n hx hb dX12_joined_18 rfl (lv_at hl 1 rfl) ?_
  refine r_get (v := .ref (a 12)) hx hb hown hq hE hP 20 47 tFX12_20 (by decide) pw_1442 rfl dX12_joined_19 ?_
  refine lv_iload_n hx hb dX12_joined_22 rfl (lv_at hl 2 rfl) ?_
  refine r_ldi (f := (B 12)) (j := n9) hx hb hE hP 12 (ma_12 G a _) rfl (by omega) (by decide) dX12_joined_23 ?_
  obtain ⟨c4, e5, h6, hp7, h8, hc9, hh10, hg11⟩ := Fs2.kid (kk := 20) (s := 1) hF hn9 hkd (by decide) (by decide) (by decide) (by decide) (by omega)
  refine lv_topi (fun x12 e13 => ?_)
  obtain rfl : x12 = nI c4 := e13.trans e5
  have hP : va_P G.1 pCl (mW G h0 a (upd (upd (upd (upd (upd (upd (upd (upd (upd (upd (upd (upd (upd (upd (upd (upd F 15 (nI fa)) 44 (nI fd)) 49 (nI md)) 73 (nI sc)) 74 (nI k9)) 77 dn) 78 wt) 79 wf) 15 (nI fa)) 44 (nI fd)) 49 (nI md)) 73 (nI sc)) 74 (nI k9)) 77 dn) 78 wt) 79 wf) (updA (updA (updA (updA (updA B 14 nc) 17 ty) 18 mn) 48 vn) 49 vt)) _ := mW_to (F := F) (l1 := [(15, (nI fa)), (44, (nI fd)), (49, (nI md)), (73, (nI sc)), (74, (nI k9)), (77, dn), (78, wt), (79, wf)]) (l2 := [(15, (nI fa)), (44, (nI fd)), (49, (nI md)), (73, (nI sc)), (74, (nI k9)), (77, dn), (78, wt), (79, wf), (15, (nI fa)), (44, (nI fd)), (49, (nI md)), (73, (nI sc)), (74, (nI k9)), (77, dn), (78, wt), (79, wf)]) (V := [(nI fa), (nI fd), (nI md), (nI sc), (nI k9), dn, wt, wf, (nI fa), (nI fd), (nI md), (nI sc), (nI k9), dn, wt, wf, (nI fa), (nI fd), (nI md), (nI sc), (nI k9), dn, wt, wf]) rfl rfl rfl hP
  have hD : va_D A (mW G h0 a (upd (upd (upd (upd (upd (upd (upd (upd (upd (upd (upd (upd (upd (upd (upd (upd F 15 (nI fa)) 44 (nI fd)) 49 (nI md)) 73 (nI sc)) 74 (nI k9)) 77 dn) 78 wt) 79 wf) 15 (nI fa)) 44 (nI fd)) 49 (nI md)) 73 (nI sc)) 74 (nI k9)) 77 dn) 78 wt) 79 wf) (updA (updA (updA (updA (updA B 14 nc) 17 ty) 18 mn) 48 vn) 49 vt)) := mW_D hD
  refine pc_V0 (G := G) (As := [.int (nI c4)]) (rest := []) hx hb hml hown hq hE hX pX0_al hP hD hS hA hl.1 (ihA h0 a (upd (upd (upd (upd (upd (upd (upd (upd F 15 (nI fa)) 44 (nI fd)) 49 (nI md)) 73 (nI sc)) 74 (nI k9)) 77 dn) 78 wt) 79 wf) B c4 fa sc k9 nd T nm wr lz dc fd md pr bk gh dn wt wf nc ty mn vn vt hst hnm h6 (by omega) (by omega) (by omega) hk9 hnc hmn hvt (show kcl 1 _ = true from hc9)) (gV pw_1815 pw_1816 pw_1817 pw_1523 pw_1831) hV_X12_lookAt 0 9 rfl rfl rfl rfl (Nat.le_of_ble_eq_true rfl) dX12_joined_24 ⟨Nat.le_of_ble_eq_true rfl, Nat.le_of_ble_eq_true rfl⟩ ⟨(by show (4 * (z9 - 1) + 10) + 1 ≤ (4 * z9 + 9); omega), (by show 8 + (3 + 11) + (160 * (z9 - 1) + 1400) ≤ (160 * z9 + 1360); omega)⟩ (fun v16 u14 H locs hw15 hP hD hS => ?_)
  obtain ⟨r17, fa18, pl19, dn20, wt21, wf22, ty23, mn24⟩ := u14
  obtain ⟨hw15, h25, h26, h27, h28, h29, h30, h31⟩ := hw15
  replace h25 : fa ≤ fa18 := h25
  replace h26 : fa18 ≤ 15 := h26
  replace h27 : TyC dc r17 := h27
  replace h28 : r17 ≤ 2050 := h28
  replace h29 : ChE B nd c4 ty ty23 mn mn24 := h29
  replace h30 : mnN B nd mn24 := h30
  replace h31 : If (fa18 = 0) (Typ0 B dc fd md nd ty23 mn24 vt sc k9 c4 (nI r17)) := h31
  obtain rfl : v16 = some (.int (nI r17)) := hw15
  have hP : va_P G.1 pCl (mW G h0 a (upd (upd (upd (upd (upd (upd (upd (upd (upd F 15 (nI fa18)) 16 pl19) 44 (nI fd)) 49 (nI md)) 73 (nI sc)) 74 (nI k9)) 77 dn20) 78 wt21) 79 wf22) (updA (updA (updA (updA (updA B 14 nc) 17 ty23) 18 mn24) 48 vn) 49 vt)) _ := mW_to (F := F) (l1 := [(15, (nI fa)), (44, (nI fd)), (49, (nI md)), (73, (nI sc)), (74, (nI k9)), (77, dn), (78, wt), (79, wf), (15, (nI fa18)), (16, pl19), (44, (nI fd)), (49, (nI md)), (73, (nI sc)), (74, (nI k9)), (77, dn20), (78, wt21), (79, wf22)]) (l2 := [(15, (nI fa18)), (16, pl19), (44, (nI fd)), (49, (nI md)), (73, (nI sc)), (74, (nI k9)), (77, dn20), (78, wt21), (79, wf22)]) (V := [(nI fa18), (nI fd), (nI md), (nI sc), (nI k9), dn20, wt21, wf22, (nI fa18), pl19, (nI fd), (nI md), (nI sc), (nI k9), dn20, wt21, wf22, (nI fa18), pl19, (nI fd), (nI md), (nI sc), (nI k9), dn20, wt21, wf22]) rfl rfl rfl hP
  have hD : va_D A (mW G h0 a (upd (upd (upd (upd (upd (upd (upd (upd (upd F 15 (nI fa18)) 16 pl19) 44 (nI fd)) 49 (nI md)) 73 (nI sc)) 74 (nI k9)) 77 dn20) 78 wt21) 79 wf22) (updA (updA (updA (updA (updA B 14 nc) 17 ty23) 18 mn24) 48 vn) 49 vt)) := mW_D hD
  refine W.widen (k := 0) (n := 0) (Nat.le_of_ble_eq_true rfl) (Nat.le_of_ble_eq_true rfl) ?_
  refine W.eq (g2 := F0 m 27 ls [.int (nI r17)]) rfl ?_
  have hch32 : ChE B nd n9 ty ty23 mn mn24 := (ChE.trans ChE.rfl (ChE.kid h29 (by omega) hp7))
  refine lv_istore_n (lv' := [(3, .int (nI r17)), (2, .int 0), (0, .ref h0), (1, .int (nI n9))]) hx hb dX12_joined_27 rfl hl (by decide) rfl (fun ls hl => ?_)
  refine lv_aload_n hx hb dX12_joined_28 rfl (lv_at hl 2 rfl) ?_
  refine r_get (v := .ref (a 17)) hx hb hown hq hE hP 25 62 tFX12_25 (by decide) pw_1447 rfl dX12_joined_29 ?_
  refine lv_aload_n hx hb dX12_joined_32 rfl (lv_at hl 2 rfl) ?_
  refine r_get (v := .ref (a 12)) hx hb hown hq hE hP 20 47 tFX12_20 (by decide) pw_1442 rfl dX12_joined_33 ?_
  refine lv_iload_n hx hb dX12_joined_36 rfl (lv_at hl 3 rfl) ?_
  refine r_ldi (f := (B 12)) (j := n9) hx hb hE hP 12 (ma_12 G a _) rfl (by omega) (by decide) dX12_joined_37 ?_
  refine lv_topi (fun x33 e34 => ?_)
  obtain rfl : x33 = nI c4 := e34.trans e5
  refine lv_iload_n hx hb dX12_joined_38 rfl (lv_at hl 0 rfl) ?_
  refine r_sti (f := ty23) (j := c4) hx hb hE hP hD hS 17 (ma_17 G a _) rfl (mas_17 G a _) (by omega) (by decide) dX12_joined_39 (fun H locs hP hD hS => ?_)
  have hch35 : ChE B nd c4 ty23 (upd ty23 c4 (nI r17)) mn24 mn24 := (ChE.setT sub.rfl)
  have hch36 : ChE B nd n9 ty (upd ty23 c4 (nI r17)) mn mn24 := (ChE.trans hch32 (ChE.kid hch35 (by omega) hp7))
  have hy37 : If (fa18 = 0) (Typ B dc fd md nd (upd ty23 c4 (nI r17)) mn24 vt sc k9 c4) := (fun e => Typ0.st hF (by omega) h6 (h31 e))
  have ht38 : (upd ty23 c4 (nI r17)) c4 = nI r17 := upd_eq
  refine lv_aload_n hx hb dX12_joined_40 rfl (lv_at hl 2 rfl) ?_
  refine lv_iload_n hx hb dX12_joined_41 rfl (lv_at hl 0 rfl) ?_
  refine lv_iconst (v := 2) hx hb dX12_joined_42 (by decide) ?_
  refine lv_icmp_ne (tgt := 50) hx hb dX12_joined_43 (by decide) (fun c39 => ?_) (fun c39 => ?_)
  · have n40 : ¬ (r17 = 2) := fun h9 => c39 ((nI_eq (a := r17) (b := 2) (by omega) (by omega)).mpr h9)
    refine lv_iconst (v := 0) hx hb dX12_joined_50 (by decide) ?_
    refine lv_bipush (v := 11) hx hb dX12_joined_51 (by decide) ?_
    refine lv_aload_n hx hb dX12_joined_53 rfl (lv_at hl 2 rfl) ?_
    refine r_get (v := .ref (a 10)) hx hb hown hq hE hP 18 41 tFX12_18 (by decide) pw_1440 rfl dX12_joined_54 ?_
    refine lv_aload_n hx hb dX12_joined_57 rfl (lv_at hl 2 rfl) ?_
    refine r_get (v := .ref (a 12)) hx hb hown hq hE hP 20 47 tFX12_20 (by decide) pw_1442 rfl dX12_joined_58 ?_
    refine lv_iload_n hx hb dX12_joined_61 rfl (lv_at hl 3 rfl) ?_
    refine r_ldi (f := (B 12)) (j := n9) hx hb hE hP 12 (ma_12 G a _) rfl (by omega) (by decide) dX12_joined_62 ?_
    refine lv_topi (fun x41 e42 => ?_)
    obtain rfl : x41 = nI c4 := e42.trans e5
    refine r_ldi (f := (B 10)) (j := c4) hx hb hE hP 10 (ma_10 G a _) rfl (by omega) (by decide) dX12_joined_63 ?_
    obtain ⟨⟨t43, e44, h45⟩, -⟩ := hF c4 h6
    refine lv_topi (fun x46 e47 => ?_)
    obtain rfl : x46 = nI t43 := e47.trans e44
    have hP : va_P G.1 pCl (mW G h0 a (upd (upd (upd (upd (upd (upd (upd (upd (upd (upd F 15 (nI fa18)) 16 pl19) 44 (nI fd)) 49 (nI md)) 73 (nI sc)) 74 (nI k9)) 77 dn20) 78 wt21) 79 wf22) 15 (nI fa18)) (updA (updA (updA (updA (updA B 14 nc) 17 (upd ty23 c4 (nI r17))) 18 mn24) 48 vn) 49 vt)) _ := mW_to (F := F) (l1 := [(15, (nI fa18)), (16, pl19), (44, (nI fd)), (49, (nI md)), (73, (nI sc)), (74, (nI k9)), (77, dn20), (78, wt21), (79, wf22)]) (l2 := [(15, (nI fa18)), (16, pl19), (44, (nI fd)), (49, (nI md)), (73, (nI sc)), (74, (nI k9)), (77, dn20), (78, wt21), (79, wf22), (15, (nI fa18))]) (V := [(nI fa18), pl19, (nI fd), (nI md), (nI sc), (nI k9), dn20, wt21, wf22, (nI fa18), pl19, (nI fd), (nI md), (nI sc), (nI k9), dn20, wt21, wf22, (nI fa18)]) rfl rfl (show (updA (updA (updA (updA (updA (updA B 14 nc) 17 ty23) 18 mn24) 48 vn) 49 vt) 17 (upd ty23 c4 (nI r17))) = (updA (updA (updA (updA (updA B 14 nc) 17 (upd ty23 c4 (nI r17))) 18 mn24) 48 vn) 49 vt) from updsA_eq2 (F := B) (l1 := [(14, nc), (17, ty23), (18, mn24), (48, vn), (49, vt), (17, (upd ty23 c4 (nI r17)))]) (l2 := [(14, nc), (17, (upd ty23 c4 (nI r17))), (18, mn24), (48, vn), (49, vt)]) (V := [nc, (upd ty23 c4 (nI r17)), mn24, vn, vt, (upd ty23 c4 (nI r17)), nc, (upd ty23 c4 (nI r17)), mn24, vn, vt]) rfl rfl) hP
    have hD : va_D A (mW G h0 a (upd (upd (upd (upd (upd (upd (upd (upd (upd (upd F 15 (nI fa18)) 16 pl19) 44 (nI fd)) 49 (nI md)) 73 (nI sc)) 74 (nI k9)) 77 dn20) 78 wt21) 79 wf22) 15 (nI fa18)) (updA (updA (updA (updA (updA B 14 nc) 17 (upd ty23 c4 (nI r17))) 18 mn24) 48 vn) 49 vt)) := mW_D hD
    refine pc_V0 (G := G) (As := [.int (nI 0), .int (nI 11), .int (nI t43)]) (rest := []) hx hb hml hown hq hE hX pX0_al hP hD hS hA hl.1 (R_judgeL l G h0 a (upd (upd (upd (upd (upd (upd (upd (upd (upd F 15 (nI fa18)) 16 pl19) 44 (nI fd)) 49 (nI md)) 73 (nI sc)) 74 (nI k9)) 77 dn20) 78 wt21) 79 wf22) (updA (updA (updA (updA (updA B 14 nc) 17 (upd ty23 c4 (nI r17))) 18 mn24) 48 vn) 49 vt) 0 11 t43 fa18 (by omega) (by omega) (by omega) (by omega)) (gV pw_1798 pw_1799 pw_1800 pw_1523 pw_1793) hV_X12_judge 0 9 rfl rfl rfl rfl (Nat.le_of_ble_eq_true rfl) dX12_joined_64 ⟨Nat.le_of_ble_eq_true rfl, Nat.le_of_ble_eq_true rfl⟩ ⟨(by show 3 + 1 ≤ (4 * z9 + 9); omega), (by show 8 + (4 + 11) + 82 ≤ (160 * z9 + 1360); omega)⟩ (fun v50 u48 H locs hw49 hP hD hS => ?_)
    obtain ⟨r51, fa52, pl53⟩ := u48
    obtain ⟨hw49, h54, h55, h56, h57, h58, h59, h60⟩ := hw49
    replace h54 : r51 ≤ 1 := h54
    replace h55 : fa18 ≤ fa52 := h55
    replace h56 : fa52 ≤ 15 := h56
    replace h57 : fa52 + 15 * r51 ≤ 15 := h57
    replace h58 : 1 ≤ r51 + fa52 := h58
    replace h59 : 1 ≤ 0 + fa52 := h59
    replace h60 : fa52 ≤ fa18 + 15 * (1 - 0) := h60
    obtain rfl : v50 = some (.int (nI r51)) := hw49
    have hP : va_P G.1 pCl (mW G h0 a (upd (upd (upd (upd (upd (upd (upd (upd (upd F 15 (nI fa52)) 16 pl53) 44 (nI fd)) 49 (nI md)) 73 (nI sc)) 74 (nI k9)) 77 dn20) 78 wt21) 79 wf22) (updA (updA (updA (updA (updA B 14 nc) 17 (upd ty23 c4 (nI r17))) 18 mn24) 48 vn) 49 vt)) _ := mW_to (F := F) (l1 := [(15, (nI fa18)), (16, pl19), (44, (nI fd)), (49, (nI md)), (73, (nI sc)), (74, (nI k9)), (77, dn20), (78, wt21), (79, wf22), (15, (nI fa52)), (16, pl53)]) (l2 := [(15, (nI fa52)), (16, pl53), (44, (nI fd)), (49, (nI md)), (73, (nI sc)), (74, (nI k9)), (77, dn20), (78, wt21), (79, wf22)]) (V := [(nI fa52), pl53, (nI fd), (nI md), (nI sc), (nI k9), dn20, wt21, wf22, (nI fa52), pl53, (nI fa52), pl53, (nI fd), (nI md), (nI sc), (nI k9), dn20, wt21, wf22]) rfl rfl rfl hP
    have hD : va_D A (mW G h0 a (upd (upd (upd (upd (upd (upd (upd (upd (upd F 15 (nI fa52)) 16 pl53) 44 (nI fd)) 49 (nI md)) 73 (nI sc)) 74 (nI k9)) 77 dn20) 78 wt21) 79 wf22) (updA (updA (updA (updA (updA B 14 nc) 17 (upd ty23 c4 (nI r17))) 18 mn24) 48 vn) 49 vt)) := mW_D hD
    refine W.widen (k := 0) (n := 0) (Nat.le_of_ble_eq_true rfl) (Nat.le_of_ble_eq_true rfl) ?_
    refine W.eq (g2 := F0 m 67 ls [.int (nI r51)]) rfl ?_
    refine lv_pop hx hb dX12_joined_67 rfl ?_
    refine lv_aload_n hx hb dX12_joined_68 rfl (lv_at hl 2 rfl) ?_
    refine r_get (v := .int wt21) hx hb hown hq hE hP 78 551 tFX12_78 (by decide) pw_1805 rfl dX12_joined_69 ?_
    refine lv_istore (lv' := [(4, .int wt21), (3, .int (nI r17)), (2, .int 0), (0, .ref h0), (1, .int (nI n9))]) hx hb dX12_joined_72 hl (by decide) rfl (fun ls hl => ?_)
    refine lv_aload_n hx hb dX12_joined_74 rfl (lv_at hl 3 rfl) ?_
    refine r_get (v := .int wf22) hx hb hown hq hE hP 79 554 tFX12_79 (by decide) pw_1806 rfl dX12_joined_75 ?_
    refine lv_istore (lv' := [(5, .int wf22), (4, .int wt21), (3, .int (nI r17)), (2, .int 0), (0, .ref h0), (1, .int (nI n9))]) hx hb dX12_joined_78 hl (by decide) rfl (fun ls hl => ?_)
    refine lv_aload_n hx hb dX12_joined_80 rfl (lv_at hl 4 rfl) ?_
    refine lv_iload_n hx hb dX12_joined_81 rfl (lv_at hl 3 rfl) ?_
    refine lv_if_eq (tgt := 90) hx hb dX12_joined_82 (by decide) (fun c61 => ?_) (fun c61 => absurd c61 (by decide))
    refine lv_iload hx hb dX12_joined_90 (lv_at hl 0 rfl) ?_
    refine r_put (v := wf22) (ty := .int) hx hb hown hq hE hP hD hS 77 544 tFX12_77 (by decide) pw_1796 (by decide) rfl rfl (ms_77 a _ _) dX12_joined_92 (fun H locs hP hD hS => ?_)
    refine lv_aload_n hx hb dX12_joined_95 rfl (lv_at hl 4 rfl) ?_
    refine lv_aload_n hx hb dX12_joined_96 rfl (lv_at hl 4 rfl) ?_
    refine r_get (v := .ref (a 13)) hx hb hown hq hE hP 21 50 tFX12_21 (by decide) pw_1443 rfl dX12_joined_97 ?_
    refine lv_iload_n hx hb dX12_joined_100 rfl (lv_at hl 5 rfl) ?_
    refine r_ldi (f := (B 13)) (j := n9) hx hb hE hP 13 (ma_13 G a _) rfl (by omega) (by decide) dX12_joined_101 ?_
    obtain ⟨c62, e63, h64, hp65, h66, hc67, hh68, hg69⟩ := Fs2.kid (kk := 20) (s := 2) hF hn9 hkd (by decide) (by decide) (by decide) (by decide) (by omega)
    refine lv_topi (fun x70 e71 => ?_)
    obtain rfl : x70 = nI c62 := e71.trans e63
    have hP : va_P G.1 pCl (mW G h0 a (upd (upd (upd (upd (upd (upd (upd (upd (upd (upd (upd (upd (upd (upd (upd (upd (upd F 15 (nI fa52)) 16 pl53) 44 (nI fd)) 49 (nI md)) 73 (nI sc)) 74 (nI k9)) 77 wf22) 78 wt21) 79 wf22) 15 (nI fa52)) 44 (nI fd)) 49 (nI md)) 73 (nI sc)) 74 (nI k9)) 77 wf22) 78 wt21) 79 wf22) (updA (updA (updA (updA (updA B 14 nc) 17 (upd ty23 c4 (nI r17))) 18 mn24) 48 vn) 49 vt)) _ := mW_to (F := F) (l1 := [(15, (nI fa52)), (16, pl53), (44, (nI fd)), (49, (nI md)), (73, (nI sc)), (74, (nI k9)), (77, dn20), (78, wt21), (79, wf22), (77, wf22)]) (l2 := [(15, (nI fa52)), (16, pl53), (44, (nI fd)), (49, (nI md)), (73, (nI sc)), (74, (nI k9)), (77, wf22), (78, wt21), (79, wf22), (15, (nI fa52)), (44, (nI fd)), (49, (nI md)), (73, (nI sc)), (74, (nI k9)), (77, wf22), (78, wt21), (79, wf22)]) (V := [(nI fa52), pl53, (nI fd), (nI md), (nI sc), (nI k9), wf22, wt21, wf22, wf22, (nI fa52), pl53, (nI fd), (nI md), (nI sc), (nI k9), wf22, wt21, wf22, (nI fa52), (nI fd), (nI md), (nI sc), (nI k9), wf22, wt21, wf22]) rfl rfl rfl hP
    have hD : va_D A (mW G h0 a (upd (upd (upd (upd (upd (upd (upd (upd (upd (upd (upd (upd (upd (upd (upd (upd (upd F 15 (nI fa52)) 16 pl53) 44 (nI fd)) 49 (nI md)) 73 (nI sc)) 74 (nI k9)) 77 wf22) 78 wt21) 79 wf22) 15 (nI fa52)) 44 (nI fd)) 49 (nI md)) 73 (nI sc)) 74 (nI k9)) 77 wf22) 78 wt21) 79 wf22) (updA (updA (updA (updA (updA B 14 nc) 17 (upd ty23 c4 (nI r17))) 18 mn24) 48 vn) 49 vt)) := mW_D hD
    refine pc_V0 (G := G) (As := [.int (nI c62)]) (rest := []) hx hb hml hown hq hE hX pX0_al hP hD hS hA hl.1 (ihA h0 a (upd (upd (upd (upd (upd (upd (upd (upd (upd F 15 (nI fa52)) 16 pl53) 44 (nI fd)) 49 (nI md)) 73 (nI sc)) 74 (nI k9)) 77 wf22) 78 wt21) 79 wf22) B c62 fa52 sc k9 nd T nm wr lz dc fd md pr bk gh wf22 wt21 wf22 nc (upd ty23 c4 (nI r17)) mn24 vn vt hst hnm h64 (by omega) (by omega) (by omega) hk9 hnc h30 hvt (show kcl 1 _ = true from hc67)) (gV pw_1815 pw_1816 pw_1817 pw_1523 pw_1831) hV_X12_lookAt 0 9 rfl rfl rfl rfl (Nat.le_of_ble_eq_true rfl) dX12_joined_102 ⟨Nat.le_of_ble_eq_true rfl, Nat.le_of_ble_eq_true rfl⟩ ⟨(by show (4 * (z9 - 1) + 10) + 1 ≤ (4 * z9 + 9); omega), (by show 8 + (3 + 11) + (160 * (z9 - 1) + 1400) ≤ (160 * z9 + 1360); omega)⟩ (fun v74 u72 H locs hw73 hP hD hS => ?_)
    obtain ⟨r75, fa76, pl77, dn78, wt79, wf80, ty81, mn82⟩ := u72
    obtain ⟨hw73, h83, h84, h85, h86, h87, h88, h89⟩ := hw73
    replace h83 : fa52 ≤ fa76 := h83
    replace h84 : fa76 ≤ 15 := h84
    replace h85 : TyC dc r75 := h85
    replace h86 : r75 ≤ 2050 := h86
    replace h87 : ChE B nd c62 (upd ty23 c4 (nI r17)) ty81 mn24 mn82 := h87
    replace h88 : mnN B nd mn82 := h88
    replace h89 : If (fa76 = 0) (Typ0 B dc fd md nd ty81 mn82 vt sc k9 c62 (nI r75)) := h89
    obtain rfl : v74 = some (.int (nI r75)) := hw73
    have hP : va_P G.1 pCl (mW G h0 a (upd (upd (upd (upd (upd (upd (upd (upd (upd F 15 (nI fa76)) 16 pl77) 44 (nI fd)) 49 (nI md)) 73 (nI sc)) 74 (nI k9)) 77 dn78) 78 wt79) 79 wf80) (updA (updA (updA (updA (updA B 14 nc) 17 ty81) 18 mn82) 48 vn) 49 vt)) _ := mW_to (F := F) (l1 := [(15, (nI fa52)), (16, pl53), (44, (nI fd)), (49, (nI md)), (73, (nI sc)), (74, (nI k9)), (77, wf22), (78, wt21), (79, wf22), (15, (nI fa76)), (16, pl77), (44, (nI fd)), (49, (nI md)), (73, (nI sc)), (74, (nI k9)), (77, dn78), (78, wt79), (79, wf80)]) (l2 := [(15, (nI fa76)), (16, pl77), (44, (nI fd)), (49, (nI md)), (73, (nI sc)), (74, (nI k9)), (77, dn78), (78, wt79), (79, wf80)]) (V := [(nI fa76), pl77, (nI fd), (nI md), (nI sc), (nI k9), dn78, wt79, wf80, (nI fa76), pl77, (nI fd), (nI md), (nI sc), (nI k9), dn78, wt79, wf80, (nI fa76), pl77, (nI fd), (nI md), (nI sc), (nI k9), dn78, wt79, wf80]) rfl rfl rfl hP
    have hD : va_D A (mW G h0 a (upd (upd (upd (upd (upd (upd (upd (upd (upd F 15 (nI fa76)) 16 pl77) 44 (nI fd)) 49 (nI md)) 73 (nI sc)) 74 (nI k9)) 77 dn78) 78 wt79) 79 wf80) (updA (updA (updA (updA (updA B 14 nc) 17 ty81) 18 mn82) 48 vn) 49 vt)) := mW_D hD
    refine W.widen (k := 0) (n := 0) (Nat.le_of_ble_eq_true rfl) (Nat.le_of_ble_eq_true rfl) ?_
    refine W.eq (g2 := F0 m 105 ls [.int (nI r75)]) rfl ?_
    have hch90 : ChE B nd n9 ty ty81 mn mn82 := (ChE.trans hch36 (ChE.kid h87 (by omega) hp65))
    have hy91 : If (fa18 = 0) (Typ B dc fd md nd ty81 mn82 vt sc k9 c4) := (fun e => Typ.beside hF (by omega) hn9 (hy37 e) h6 h64 hp7 hp65 (fun e => by have z := hg11; rw [e] at z; have := hg69; omega) h87)
    have ht92 : ty81 c4 = nI r17 := ((ChE.at hF (by omega) hn9 h6 h64 hp7 hp65 (fun e => by have z := hg11; rw [e] at z; have := hg69; omega) h87).trans ht38)
    refine lv_istore (lv' := [(6, .int (nI r75)), (5, .int wf22), (4, .int wt21), (3, .int (nI r17)), (2, .int 0), (0, .ref h0), (1, .int (nI n9))]) hx hb dX12_joined_105 hl (by decide) rfl (fun ls hl => ?_)
    refine lv_aload_n hx hb dX12_joined_107 rfl (lv_at hl 5 rfl) ?_
    refine r_get (v := .ref (a 17)) hx hb hown hq hE hP 25 62 tFX12_25 (by decide) pw_1447 rfl dX12_joined_108 ?_
    refine lv_aload_n hx hb dX12_joined_111 rfl (lv_at hl 5 rfl) ?_
    refine r_get (v := .ref (a 13)) hx hb hown hq hE hP 21 50 tFX12_21 (by decide) pw_1443 rfl dX12_joined_112 ?_
    refine lv_iload_n hx hb dX12_joined_115 rfl (lv_at hl 6 rfl) ?_
    refine r_ldi (f := (B 13)) (j := n9) hx hb hE hP 13 (ma_13 G a _) rfl (by omega) (by decide) dX12_joined_116 ?_
    refine lv_topi (fun x93 e94 => ?_)
    obtain rfl : x93 = nI c62 := e94.trans e63
    refine lv_iload hx hb dX12_joined_117 (lv_at hl 0 rfl) ?_
    refine r_sti (f := ty81) (j := c62) hx hb hE hP hD hS 17 (ma_17 G a _) rfl (mas_17 G a _) (by omega) (by decide) dX12_joined_119 (fun H locs hP hD hS => ?_)
    have hch95 : ChE B nd c62 ty81 (upd ty81 c62 (nI r75)) mn82 mn82 := (ChE.setT sub.rfl)
    have hch96 : ChE B nd n9 ty (upd ty81 c62 (nI r75)) mn mn82 := (ChE.trans hch90 (ChE.kid hch95 (by omega) hp65))
    have hy97 : If (fa18 = 0) (Typ B dc fd md nd (upd ty81 c62 (nI r75)) mn82 vt sc k9 c4) := (fun e => Typ.beside hF (by omega) hn9 (hy91 e) h6 h64 hp7 hp65 (fun e => by have z := hg11; rw [e] at z; have := hg69; omega) hch95)
    have ht98 : (upd ty81 c62 (nI r75)) c4 = nI r17 := ((ChE.at hF (by omega) hn9 h6 h64 hp7 hp65 (fun e => by have z := hg11; rw [e] at z; have := hg69; omega) hch95).trans ht92)
    have hy99 : If (fa76 = 0) (Typ B dc fd md nd (upd ty81 c62 (nI r75)) mn82 vt sc k9 c62) := (fun e => Typ0.st hF (by omega) h64 (h89 e))
    have ht100 : (upd ty81 c62 (nI r75)) c62 = nI r75 := upd_eq
    refine lv_aload_n hx hb dX12_joined_120 rfl (lv_at hl 5 rfl) ?_
    refine lv_iload hx hb dX12_joined_121 (lv_at hl 0 rfl) ?_
    refine lv_iconst (v := 2) hx hb dX12_joined_123 (by decide) ?_
    refine lv_icmp_ne (tgt := 131) hx hb dX12_joined_124 (by decide) (fun c101 => ?_) (fun c101 => ?_)
    · have n102 : ¬ (r75 = 2) := fun h9 => c101 ((nI_eq (a := r75) (b := 2) (by omega) (by omega)).mpr h9)
      refine lv_iconst (v := 0) hx hb dX12_joined_131 (by decide) ?_
      refine lv_bipush (v := 11) hx hb dX12_joined_132 (by decide) ?_
      refine lv_aload_n hx hb dX12_joined_134 rfl (lv_at hl 5 rfl) ?_
      refine r_get (v := .ref (a 10)) hx hb hown hq hE hP 18 41 tFX12_18 (by decide) pw_1440 rfl dX12_joined_135 ?_
      refine lv_aload_n hx hb dX12_joined_138 rfl (lv_at hl 5 rfl) ?_
      refine r_get (v := .ref (a 13)) hx hb hown hq hE hP 21 50 tFX12_21 (by decide) pw_1443 rfl dX12_joined_139 ?_
      refine lv_iload_n hx hb dX12_joined_142 rfl (lv_at hl 6 rfl) ?_
      refine r_ldi (f := (B 13)) (j := n9) hx hb hE hP 13 (ma_13 G a _) rfl (by omega) (by decide) dX12_joined_143 ?_
      refine lv_topi (fun x103 e104 => ?_)
      obtain rfl : x103 = nI c62 := e104.trans e63
      refine r_ldi (f := (B 10)) (j := c62) hx hb hE hP 10 (ma_10 G a _) rfl (by omega) (by decide) dX12_joined_144 ?_
      obtain ⟨⟨t105, e106, h107⟩, -⟩ := hF c62 h64
      refine lv_topi (fun x108 e109 => ?_)
      obtain rfl : x108 = nI t105 := e109.trans e106
      have hP : va_P G.1 pCl (mW G h0 a (upd (upd (upd (upd (upd (upd (upd (upd (upd (upd F 15 (nI fa76)) 16 pl77) 44 (nI fd)) 49 (nI md)) 73 (nI sc)) 74 (nI k9)) 77 dn78) 78 wt79) 79 wf80) 15 (nI fa76)) (updA (updA (updA (updA (updA B 14 nc) 17 (upd ty81 c62 (nI r75))) 18 mn82) 48 vn) 49 vt)) _ := mW_to (F := F) (l1 := [(15, (nI fa76)), (16, pl77), (44, (nI fd)), (49, (nI md)), (73, (nI sc)), (74, (nI k9)), (77, dn78), (78, wt79), (79, wf80)]) (l2 := [(15, (nI fa76)), (16, pl77), (44, (nI fd)), (49, (nI md)), (73, (nI sc)), (74, (nI k9)), (77, dn78), (78, wt79), (79, wf80), (15, (nI fa76))]) (V := [(nI fa76), pl77, (nI fd), (nI md), (nI sc), (nI k9), dn78, wt79, wf80, (nI fa76), pl77, (nI fd), (nI md), (nI sc), (nI k9), dn78, wt79, wf80, (nI fa76)]) rfl rfl (show (updA (updA (updA (updA (updA (updA B 14 nc) 17 ty81) 18 mn82) 48 vn) 49 vt) 17 (upd ty81 c62 (nI r75))) = (updA (updA (updA (updA (updA B 14 nc) 17 (upd ty81 c62 (nI r75))) 18 mn82) 48 vn) 49 vt) from updsA_eq2 (F := B) (l1 := [(14, nc), (17, ty81), (18, mn82), (48, vn), (49, vt), (17, (upd ty81 c62 (nI r75)))]) (l2 := [(14, nc), (17, (upd ty81 c62 (nI r75))), (18, mn82), (48, vn), (49, vt)]) (V := [nc, (upd ty81 c62 (nI r75)), mn82, vn, vt, (upd ty81 c62 (nI r75)), nc, (upd ty81 c62 (nI r75)), mn82, vn, vt]) rfl rfl) hP
      have hD : va_D A (mW G h0 a (upd (upd (upd (upd (upd (upd (upd (upd (upd (upd F 15 (nI fa76)) 16 pl77) 44 (nI fd)) 49 (nI md)) 73 (nI sc)) 74 (nI k9)) 77 dn78) 78 wt79) 79 wf80) 15 (nI fa76)) (updA (updA (updA (updA (updA B 14 nc) 17 (upd ty81 c62 (nI r75))) 18 mn82) 48 vn) 49 vt)) := mW_D hD
      refine pc_V0 (G := G) (As := [.int (nI 0), .int (nI 11), .int (nI t105)]) (rest := []) hx hb hml hown hq hE hX pX0_al hP hD hS hA hl.1 (R_judgeL l G h0 a (upd (upd (upd (upd (upd (upd (upd (upd (upd F 15 (nI fa76)) 16 pl77) 44 (nI fd)) 49 (nI md)) 73 (nI sc)) 74 (nI k9)) 77 dn78) 78 wt79) 79 wf80) (updA (updA (updA (updA (updA B 14 nc) 17 (upd ty81 c62 (nI r75))) 18 mn82) 48 vn) 49 vt) 0 11 t105 fa76 (by omega) (by omega) (by omega) (by omega)) (gV pw_1798 pw_1799 pw_1800 pw_1523 pw_1793) hV_X12_judge 0 9 rfl rfl rfl rfl (Nat.le_of_ble_eq_true rfl) dX12_joined_145 ⟨Nat.le_of_ble_eq_true rfl, Nat.le_of_ble_eq_true rfl⟩ ⟨(by show 3 + 1 ≤ (4 * z9 + 9); omega), (by show 8 + (4 + 11) + 82 ≤ (160 * z9 + 1360); omega)⟩ (fun v112 u110 H locs hw111 hP hD hS => ?_)
      obtain ⟨r113, fa114, pl115⟩ := u110
      obtain ⟨hw111, h116, h117, h118, h119, h120, h121, h122⟩ := hw111
      replace h116 : r113 ≤ 1 := h116
      replace h117 : fa76 ≤ fa114 := h117
      replace h118 : fa114 ≤ 15 := h118
      replace h119 : fa114 + 15 * r113 ≤ 15 := h119
      replace h120 : 1 ≤ r113 + fa114 := h120
      replace h121 : 1 ≤ 0 + fa114 := h121
      replace h122 : fa114 ≤ fa76 + 15 * (1 - 0) := h122
      obtain rfl : v112 = some (.int (nI r113)) := hw111
      have hP : va_P G.1 pCl (mW G h0 a (upd (upd (upd (upd (upd (upd (upd (upd (upd F 15 (nI fa114)) 16 pl115) 44 (nI fd)) 49 (nI md)) 73 (nI sc)) 74 (nI k9)) 77 dn78) 78 wt79) 79 wf80) (updA (updA (updA (updA (updA B 14 nc) 17 (upd ty81 c62 (nI r75))) 18 mn82) 48 vn) 49 vt)) _ := mW_to (F := F) (l1 := [(15, (nI fa76)), (16, pl77), (44, (nI fd)), (49, (nI md)), (73, (nI sc)), (74, (nI k9)), (77, dn78), (78, wt79), (79, wf80), (15, (nI fa114)), (16, pl115)]) (l2 := [(15, (nI fa114)), (16, pl115), (44, (nI fd)), (49, (nI md)), (73, (nI sc)), (74, (nI k9)), (77, dn78), (78, wt79), (79, wf80)]) (V := [(nI fa114), pl115, (nI fd), (nI md), (nI sc), (nI k9), dn78, wt79, wf80, (nI fa114), pl115, (nI fa114), pl115, (nI fd), (nI md), (nI sc), (nI k9), dn78, wt79, wf80]) rfl rfl rfl hP
      have hD : va_D A (mW G h0 a (upd (upd (upd (upd (upd (upd (upd (upd (upd F 15 (nI fa114)) 16 pl115) 44 (nI fd)) 49 (nI md)) 73 (nI sc)) 74 (nI k9)) 77 dn78) 78 wt79) 79 wf80) (updA (updA (updA (updA (updA B 14 nc) 17 (upd ty81 c62 (nI r75))) 18 mn82) 48 vn) 49 vt)) := mW_D hD
      refine W.widen (k := 0) (n := 0) (Nat.le_of_ble_eq_true rfl) (Nat.le_of_ble_eq_true rfl) ?_
      refine W.eq (g2 := F0 m 148 ls [.int (nI r113)]) rfl ?_
      refine lv_pop hx hb dX12_joined_148 rfl ?_
      refine lv_iload_n hx hb dX12_joined_149 rfl (lv_at hl 4 rfl) ?_
      refine lv_if_eq (tgt := 167) hx hb dX12_joined_150 (by decide) (fun c123 => ?_) (fun c123 => absurd c123 (by decide))
      refine lv_aload_n hx hb dX12_joined_167 rfl (lv_at hl 5 rfl) ?_
      refine lv_iload hx hb dX12_joined_168 (lv_at hl 2 rfl) ?_
      refine lv_aload_n hx hb dX12_joined_170 rfl (lv_at hl 5 rfl) ?_
      refine r_get (v := .int wt79) hx hb hown hq hE hP 78 551 tFX12_78 (by decide) pw_1805 rfl dX12_joined_171 ?_
      refine lv_iand hx hb dX12_joined_174 ?_
      refine lv_topi (fun x124 e125 => ?_)
      refine r_put (v := x124) (ty := .int) hx hb hown hq hE hP hD hS 78 551 tFX12_78 (by decide) pw_1805 (by decide) rfl rfl (ms_78 a _ _) dX12_joined_175 (fun H locs hP hD hS => ?_)
      refine lv_iconst (v := 2) hx hb dX12_joined_178 (by decide) ?_
      have hz126 : fa ≤ fa114 := (by omega)
      have hz127 : fa114 ≤ 15 := (by omega)
      have hz128 : TyC dc 2 := (by unfold TyC; omega)
      have hz129 : 2 ≤ 2050 := (by omega)
      have hz130 : ChE B nd n9 ty (upd ty81 c62 (nI r75)) mn mn82 := hch96
      have hz131 : mnN B nd mn82 := h88
      have hz132 : If (fa114 = 0) (Typ0 B dc fd md nd (upd ty81 c62 (nI r75)) mn82 vt sc k9 n9 (nI 2)) := (fun e => absurd e (by omega))
      have hP : va_P G.1 pCl (mW G h0 a (upd (upd (upd (upd (upd (upd (upd (upd (upd F 15 (nI fa114)) 16 pl115) 44 (nI fd)) 49 (nI md)) 73 (nI sc)) 74 (nI k9)) 77 dn78) 78 x124) 79 wf80) (updA (updA (updA (updA (updA B 14 nc) 17 (upd ty81 c62 (nI r75))) 18 mn82) 48 vn) 49 vt)) _ := mW_to (F := F) (l1 := [(15, (nI fa114)), (16, pl115), (44, (nI fd)), (49, (nI md)), (73, (nI sc)), (74, (nI k9)), (77, dn78), (78, wt79), (79, wf80), (78, x124)]) (l2 := [(15, (nI fa114)), (16, pl115), (44, (nI fd)), (49, (nI md)), (73, (nI sc)), (74, (nI k9)), (77, dn78), (78, x124), (79, wf80)]) (V := [(nI fa114), pl115, (nI fd), (nI md), (nI sc), (nI k9), dn78, x124, wf80, x124, (nI fa114), pl115, (nI fd), (nI md), (nI sc), (nI k9), dn78, x124, wf80]) rfl rfl rfl hP
      have hD : va_D A (mW G h0 a (upd (upd (upd (upd (upd (upd (upd (upd (upd F 15 (nI fa114)) 16 pl115) 44 (nI fd)) 49 (nI md)) 73 (nI sc)) 74 (nI k9)) 77 dn78) 78 x124) 79 wf80) (updA (updA (updA (updA (updA B 14 nc) 17 (upd ty81 c62 (nI r75))) 18 mn82) 48 vn) 49 vt)) := mW_D hD
      exact W.iret (v := 2) hx hb hr (fun t9 ht9 hW9 => ⟨⟨_, (2, fa114, pl115, dn78, x124, wf80, (upd ty81 c62 (nI r75)), mn82), rfl, ⟨rfl, hz126, hz127, hz128, hz129, hz130, hz131, hz132⟩, by rw [ht9]; exact hP, hD⟩, hS.F ht9⟩) hS.2.2 dX12_joined_179
    · have n133 : r75 = 2 := (nI_eq (a := r75) (b := 2) (by omega) (by omega)).mp c101
      refine lv_iconst (v := 1) hx hb dX12_joined_127 (by decide) ?_
      refine lv_goto (tgt := 132) hx hb dX12_joined_128 (by decide) ?_
      refine lv_bipush (v := 11) hx hb dX12_joined_132 (by decide) ?_
      refine lv_aload_n hx hb dX12_joined_134 rfl (lv_at hl 5 rfl) ?_
      refine r_get (v := .ref (a 10)) hx hb hown hq hE hP 18 41 tFX12_18 (by decide) pw_1440 rfl dX12_joined_135 ?_
      refine lv_aload_n hx hb dX12_joined_138 rfl (lv_at hl 5 rfl) ?_
      refine r_get (v := .ref (a 13)) hx hb hown hq hE hP 21 50 tFX12_21 (by decide) pw_1443 rfl dX12_joined_139 ?_
      refine lv_iload_n hx hb dX12_joined_142 rfl (lv_at hl 6 rfl) ?_
      refine r_ldi (f := (B 13)) (j := n9) hx hb hE hP 13 (ma_13 G a _) rfl (by omega) (by decide) dX12_joined_143 ?_
      refine lv_topi (fun x134 e135 => ?_)
      obtain rfl : x134 = nI c62 := e135.trans e63
      refine r_ldi (f := (B 10)) (j := c62) hx hb hE hP 10 (ma_10 G a _) rfl (by omega) (by decide) dX12_joined_144 ?_
      obtain ⟨⟨t136, e137, h138⟩, -⟩ := hF c62 h64
      refine lv_topi (fun x139 e140 => ?_)
      obtain rfl : x139 = nI t136 := e140.trans e137
      have hP : va_P G.1 pCl (mW G h0 a (upd (upd (upd (upd (upd (upd (upd (upd (upd (upd F 15 (nI fa76)) 16 pl77) 44 (nI fd)) 49 (nI md)) 73 (nI sc)) 74 (nI k9)) 77 dn78) 78 wt79) 79 wf80) 15 (nI fa76)) (updA (updA (updA (updA (updA B 14 nc) 17 (upd ty81 c62 (nI r75))) 18 mn82) 48 vn) 49 vt)) _ := mW_to (F := F) (l1 := [(15, (nI fa76)), (16, pl77), (44, (nI fd)), (49, (nI md)), (73, (nI sc)), (74, (nI k9)), (77, dn78), (78, wt79), (79, wf80)]) (l2 := [(15, (nI fa76)), (16, pl77), (44, (nI fd)), (49, (nI md)), (73, (nI sc)), (74, (nI k9)), (77, dn78), (78, wt79), (79, wf80), (15, (nI fa76))]) (V := [(nI fa76), pl77, (nI fd), (nI md), (nI sc), (nI k9), dn78, wt79, wf80, (nI fa76), pl77, (nI fd), (nI md), (nI sc), (nI k9), dn78, wt79, wf80, (nI fa76)]) rfl rfl (show (updA (updA (updA (updA (updA (updA B 14 nc) 17 ty81) 18 mn82) 48 vn) 49 vt) 17 (upd ty81 c62 (nI r75))) = (updA (updA (updA (updA (updA B 14 nc) 17 (upd ty81 c62 (nI r75))) 18 mn82) 48 vn) 49 vt) from updsA_eq2 (F := B) (l1 := [(14, nc), (17, ty81), (18, mn82), (48, vn), (49, vt), (17, (upd ty81 c62 (nI r75)))]) (l2 := [(14, nc), (17, (upd ty81 c62 (nI r75))), (18, mn82), (48, vn), (49, vt)]) (V := [nc, (upd ty81 c62 (nI r75)), mn82, vn, vt, (upd ty81 c62 (nI r75)), nc, (upd ty81 c62 (nI r75)), mn82, vn, vt]) rfl rfl) hP
      have hD : va_D A (mW G h0 a (upd (upd (upd (upd (upd (upd (upd (upd (upd (upd F 15 (nI fa76)) 16 pl77) 44 (nI fd)) 49 (nI md)) 73 (nI sc)) 74 (nI k9)) 77 dn78) 78 wt79) 79 wf80) 15 (nI fa76)) (updA (updA (updA (updA (updA B 14 nc) 17 (upd ty81 c62 (nI r75))) 18 mn82) 48 vn) 49 vt)) := mW_D hD
      refine pc_V0 (G := G) (As := [.int (nI 1), .int (nI 11), .int (nI t136)]) (rest := []) hx hb hml hown hq hE hX pX0_al hP hD hS hA hl.1 (R_judgeL l G h0 a (upd (upd (upd (upd (upd (upd (upd (upd (upd F 15 (nI fa76)) 16 pl77) 44 (nI fd)) 49 (nI md)) 73 (nI sc)) 74 (nI k9)) 77 dn78) 78 wt79) 79 wf80) (updA (updA (updA (updA (updA B 14 nc) 17 (upd ty81 c62 (nI r75))) 18 mn82) 48 vn) 49 vt) 1 11 t136 fa76 (by omega) (by omega) (by omega) (by omega)) (gV pw_1798 pw_1799 pw_1800 pw_1523 pw_1793) hV_X12_judge 0 9 rfl rfl rfl rfl (Nat.le_of_ble_eq_true rfl) dX12_joined_145 ⟨Nat.le_of_ble_eq_true rfl, Nat.le_of_ble_eq_true rfl⟩ ⟨(by show 3 + 1 ≤ (4 * z9 + 9); omega), (by show 8 + (4 + 11) + 82 ≤ (160 * z9 + 1360); omega)⟩ (fun v143 u141 H locs hw142 hP hD hS => ?_)
      obtain ⟨r144, fa145, pl146⟩ := u141
      obtain ⟨hw142, h147, h148, h149, h150, h151, h152, h153⟩ := hw142
      replace h147 : r144 ≤ 1 := h147
      replace h148 : fa76 ≤ fa145 := h148
      replace h149 : fa145 ≤ 15 := h149
      replace h150 : fa145 + 15 * r144 ≤ 15 := h150
      replace h151 : 1 ≤ r144 + fa145 := h151
      replace h152 : 1 ≤ 1 + fa145 := h152
      replace h153 : fa145 ≤ fa76 + 15 * (1 - 1) := h153
      obtain rfl : v143 = some (.int (nI r144)) := hw142
      have hP : va_P G.1 pCl (mW G h0 a (upd (upd (upd (upd (upd (upd (upd (upd (upd F 15 (nI fa145)) 16 pl146) 44 (nI fd)) 49 (nI md)) 73 (nI sc)) 74 (nI k9)) 77 dn78) 78 wt79) 79 wf80) (updA (updA (updA (updA (updA B 14 nc) 17 (upd ty81 c62 (nI r75))) 18 mn82) 48 vn) 49 vt)) _ := mW_to (F := F) (l1 := [(15, (nI fa76)), (16, pl77), (44, (nI fd)), (49, (nI md)), (73, (nI sc)), (74, (nI k9)), (77, dn78), (78, wt79), (79, wf80), (15, (nI fa145)), (16, pl146)]) (l2 := [(15, (nI fa145)), (16, pl146), (44, (nI fd)), (49, (nI md)), (73, (nI sc)), (74, (nI k9)), (77, dn78), (78, wt79), (79, wf80)]) (V := [(nI fa145), pl146, (nI fd), (nI md), (nI sc), (nI k9), dn78, wt79, wf80, (nI fa145), pl146, (nI fa145), pl146, (nI fd), (nI md), (nI sc), (nI k9), dn78, wt79, wf80]) rfl rfl rfl hP
      have hD : va_D A (mW G h0 a (upd (upd (upd (upd (upd (upd (upd (upd (upd F 15 (nI fa145)) 16 pl146) 44 (nI fd)) 49 (nI md)) 73 (nI sc)) 74 (nI k9)) 77 dn78) 78 wt79) 79 wf80) (updA (updA (updA (updA (updA B 14 nc) 17 (upd ty81 c62 (nI r75))) 18 mn82) 48 vn) 49 vt)) := mW_D hD
      refine W.widen (k := 0) (n := 0) (Nat.le_of_ble_eq_true rfl) (Nat.le_of_ble_eq_true rfl) ?_
      refine W.eq (g2 := F0 m 148 ls [.int (nI r144)]) rfl ?_
      refine lv_pop hx hb dX12_joined_148 rfl ?_
      refine lv_iload_n hx hb dX12_joined_149 rfl (lv_at hl 4 rfl) ?_
      refine lv_if_eq (tgt := 167) hx hb dX12_joined_150 (by decide) (fun c154 => ?_) (fun c154 => absurd c154 (by decide))
      refine lv_aload_n hx hb dX12_joined_167 rfl (lv_at hl 5 rfl) ?_
      refine lv_iload hx hb dX12_joined_168 (lv_at hl 2 rfl) ?_
      refine lv_aload_n hx hb dX12_joined_170 rfl (lv_at hl 5 rfl) ?_
      refine r_get (v := .int wt79) hx hb hown hq hE hP 78 551 tFX12_78 (by decide) pw_1805 rfl dX12_joined_171 ?_
      refine lv_iand hx hb dX12_joined_174 ?_
      refine lv_topi (fun x155 e156 => ?_)
      refine r_put (v := x155) (ty := .int) hx hb hown hq hE hP hD hS 78 551 tFX12_78 (by decide) pw_1805 (by decide) rfl rfl (ms_78 a _ _) dX12_joined_175 (fun H locs hP hD hS => ?_)
      refine lv_iconst (v := 2) hx hb dX12_joined_178 (by decide) ?_
      have hz157 : fa ≤ fa145 := (by omega)
      have hz158 : fa145 ≤ 15 := (by omega)
      have hz159 : TyC dc 2 := (by unfold TyC; omega)
      have hz160 : 2 ≤ 2050 := (by omega)
      have hz161 : ChE B nd n9 ty (upd ty81 c62 (nI r75)) mn mn82 := hch96
      have hz162 : mnN B nd mn82 := h88
      have hz163 : If (fa145 = 0) (Typ0 B dc fd md nd (upd ty81 c62 (nI r75)) mn82 vt sc k9 n9 (nI 2)) := (fun e => absurd e (by omega))
      have hP : va_P G.1 pCl (mW G h0 a (upd (upd (upd (upd (upd (upd (upd (upd (upd F 15 (nI fa145)) 16 pl146) 44 (nI fd)) 49 (nI md)) 73 (nI sc)) 74 (nI k9)) 77 dn78) 78 x155) 79 wf80) (updA (updA (updA (updA (updA B 14 nc) 17 (upd ty81 c62 (nI r75))) 18 mn82) 48 vn) 49 vt)) _ := mW_to (F := F) (l1 := [(15, (nI fa145)), (16, pl146), (44, (nI fd)), (49, (nI md)), (73, (nI sc)), (74, (nI k9)), (77, dn78), (78, wt79), (79, wf80), (78, x155)]) (l2 := [(15, (nI fa145)), (16, pl146), (44, (nI fd)), (49, (nI md)), (73, (nI sc)), (74, (nI k9)), (77, dn78), (78, x155), (79, wf80)]) (V := [(nI fa145), pl146, (nI fd), (nI md), (nI sc), (nI k9), dn78, x155, wf80, x155, (nI fa145), pl146, (nI fd), (nI md), (nI sc), (nI k9), dn78, x155, wf80]) rfl rfl rfl hP
      have hD : va_D A (mW G h0 a (upd (upd (upd (upd (upd (upd (upd (upd (upd F 15 (nI fa145)) 16 pl146) 44 (nI fd)) 49 (nI md)) 73 (nI sc)) 74 (nI k9)) 77 dn78) 78 x155) 79 wf80) (updA (updA (updA (updA (updA B 14 nc) 17 (upd ty81 c62 (nI r75))) 18 mn82) 48 vn) 49 vt)) := mW_D hD
      exact W.iret (v := 2) hx hb hr (fun t9 ht9 hW9 => ⟨⟨_, (2, fa145, pl146, dn78, x155, wf80, (upd ty81 c62 (nI r75)), mn82), rfl, ⟨rfl, hz157, hz158, hz159, hz160, hz161, hz162, hz163⟩, by rw [ht9]; exact hP, hD⟩, hS.F ht9⟩) hS.2.2 dX12_joined_179
  · have n164 : r17 = 2 := (nI_eq (a := r17) (b := 2) (by omega) (by omega)).mp c39
    refine lv_iconst (v := 1) hx hb dX12_joined_46 (by decide) ?_
    refine lv_goto (tgt := 51) hx hb dX12_joined_47 (by decide) ?_
    refine lv_bipush (v := 11) hx hb dX12_joined_51 (by decide) ?_
    refine lv_aload_n hx hb dX12_joined_53 rfl (lv_at hl 2 rfl) ?_
    refine r_get (v := .ref (a 10)) hx hb hown hq hE hP 18 41 tFX12_18 (by decide) pw_1440 rfl dX12_joined_54 ?_
    refine lv_aload_n hx hb dX12_joined_57 rfl (lv_at hl 2 rfl) ?_
    refine r_get (v := .ref (a 12)) hx hb hown hq hE hP 20 47 tFX12_20 (by decide) pw_1442 rfl dX12_joined_58 ?_
    refine lv_iload_n hx hb dX12_joined_61 rfl (lv_at hl 3 rfl) ?_
    refine r_ldi (f := (B 12)) (j := n9) hx hb hE hP 12 (ma_12 G a _) rfl (by omega) (by decide) dX12_joined_62 ?_
    refine lv_topi (fun x165 e166 => ?_)
    obtain rfl : x165 = nI c4 := e166.trans e5
    refine r_ldi (f := (B 10)) (j := c4) hx hb hE hP 10 (ma_10 G a _) rfl (by omega) (by decide) dX12_joined_63 ?_
    obtain ⟨⟨t167, e168, h169⟩, -⟩ := hF c4 h6
    refine lv_topi (fun x170 e171 => ?_)
    obtain rfl : x170 = nI t167 := e171.trans e168
    have hP : va_P G.1 pCl (mW G h0 a (upd (upd (upd (upd (upd (upd (upd (upd (upd (upd F 15 (nI fa18)) 16 pl19) 44 (nI fd)) 49 (nI md)) 73 (nI sc)) 74 (nI k9)) 77 dn20) 78 wt21) 79 wf22) 15 (nI fa18)) (updA (updA (updA (updA (updA B 14 nc) 17 (upd ty23 c4 (nI r17))) 18 mn24) 48 vn) 49 vt)) _ := mW_to (F := F) (l1 := [(15, (nI fa18)), (16, pl19), (44, (nI fd)), (49, (nI md)), (73, (nI sc)), (74, (nI k9)), (77, dn20), (78, wt21), (79, wf22)]) (l2 := [(15, (nI fa18)), (16, pl19), (44, (nI fd)), (49, (nI md)), (73, (nI sc)), (74, (nI k9)), (77, dn20), (78, wt21), (79, wf22), (15, (nI fa18))]) (V := [(nI fa18), pl19, (nI fd), (nI md), (nI sc), (nI k9), dn20, wt21, wf22, (nI fa18), pl19, (nI fd), (nI md), (nI sc), (nI k9), dn20, wt21, wf22, (nI fa18)]) rfl rfl (show (updA (updA (updA (updA (updA (updA B 14 nc) 17 ty23) 18 mn24) 48 vn) 49 vt) 17 (upd ty23 c4 (nI r17))) = (updA (updA (updA (updA (updA B 14 nc) 17 (upd ty23 c4 (nI r17))) 18 mn24) 48 vn) 49 vt) from updsA_eq2 (F := B) (l1 := [(14, nc), (17, ty23), (18, mn24), (48, vn), (49, vt), (17, (upd ty23 c4 (nI r17)))]) (l2 := [(14, nc), (17, (upd ty23 c4 (nI r17))), (18, mn24), (48, vn), (49, vt)]) (V := [nc, (upd ty23 c4 (nI r17)), mn24, vn, vt, (upd ty23 c4 (nI r17)), nc, (upd ty23 c4 (nI r17)), mn24, vn, vt]) rfl rfl) hP
    have hD : va_D A (mW G h0 a (upd (upd (upd (upd (upd (upd (upd (upd (upd (upd F 15 (nI fa18)) 16 pl19) 44 (nI fd)) 49 (nI md)) 73 (nI sc)) 74 (nI k9)) 77 dn20) 78 wt21) 79 wf22) 15 (nI fa18)) (updA (updA (updA (updA (updA B 14 nc) 17 (upd ty23 c4 (nI r17))) 18 mn24) 48 vn) 49 vt)) := mW_D hD
    refine pc_V0 (G := G) (As := [.int (nI 1), .int (nI 11), .int (nI t167)]) (rest := []) hx hb hml hown hq hE hX pX0_al hP hD hS hA hl.1 (R_judgeL l G h0 a (upd (upd (upd (upd (upd (upd (upd (upd (upd F 15 (nI fa18)) 16 pl19) 44 (nI fd)) 49 (nI md)) 73 (nI sc)) 74 (nI k9)) 77 dn20) 78 wt21) 79 wf22) (updA (updA (updA (updA (updA B 14 nc) 17 (upd ty23 c4 (nI r17))) 18 mn24) 48 vn) 49 vt) 1 11 t167 fa18 (by omega) (by omega) (by omega) (by omega)) (gV pw_1798 pw_1799 pw_1800 pw_1523 pw_1793) hV_X12_judge 0 9 rfl rfl rfl rfl (Nat.le_of_ble_eq_true rfl) dX12_joined_64 ⟨Nat.le_of_ble_eq_true rfl, Nat.le_of_ble_eq_true rfl⟩ ⟨(by show 3 + 1 ≤ (4 * z9 + 9); omega), (by show 8 + (4 + 11) + 82 ≤ (160 * z9 + 1360); omega)⟩ (fun v174 u172 H locs hw173 hP hD hS => ?_)
    obtain ⟨r175, fa176, pl177⟩ := u172
    obtain ⟨hw173, h178, h179, h180, h181, h182, h183, h184⟩ := hw173
    replace h178 : r175 ≤ 1 := h178
    replace h179 : fa18 ≤ fa176 := h179
    replace h180 : fa176 ≤ 15 := h180
    replace h181 : fa176 + 15 * r175 ≤ 15 := h181
    replace h182 : 1 ≤ r175 + fa176 := h182
    replace h183 : 1 ≤ 1 + fa176 := h183
    replace h184 : fa176 ≤ fa18 + 15 * (1 - 1) := h184
    obtain rfl : v174 = some (.int (nI r175)) := hw173
    have hP : va_P G.1 pCl (mW G h0 a (upd (upd (upd (upd (upd (upd (upd (upd (upd F 15 (nI fa176)) 16 pl177) 44 (nI fd)) 49 (nI md)) 73 (nI sc)) 74 (nI k9)) 77 dn20) 78 wt21) 79 wf22) (updA (updA (updA (updA (updA B 14 nc) 17 (upd ty23 c4 (nI r17))) 18 mn24) 48 vn) 49 vt)) _ := mW_to (F := F) (l1 := [(15, (nI fa18)), (16, pl19), (44, (nI fd)), (49, (nI md)), (73, (nI sc)), (74, (nI k9)), (77, dn20), (78, wt21), (79, wf22), (15, (nI fa176)), (16, pl177)]) (l2 := [(15, (nI fa176)), (16, pl177), (44, (nI fd)), (49, (nI md)), (73, (nI sc)), (74, (nI k9)), (77, dn20), (78, wt21), (79, wf22)]) (V := [(nI fa176), pl177, (nI fd), (nI md), (nI sc), (nI k9), dn20, wt21, wf22, (nI fa176), pl177, (nI fa176), pl177, (nI fd), (nI md), (nI sc), (nI k9), dn20, wt21, wf22]) rfl rfl rfl hP
    have hD : va_D A (mW G h0 a (upd (upd (upd (upd (upd (upd (upd (upd (upd F 15 (nI fa176)) 16 pl177) 44 (nI fd)) 49 (nI md)) 73 (nI sc)) 74 (nI k9)) 77 dn20) 78 wt21) 79 wf22) (updA (updA (updA (updA (updA B 14 nc) 17 (upd ty23 c4 (nI r17))) 18 mn24) 48 vn) 49 vt)) := mW_D hD
    refine W.widen (k := 0) (n := 0) (Nat.le_of_ble_eq_true rfl) (Nat.le_of_ble_eq_true rfl) ?_
    refine W.eq (g2 := F0 m 67 ls [.int (nI r175)]) rfl ?_
    refine lv_pop hx hb dX12_joined_67 rfl ?_
    refine lv_aload_n hx hb dX12_joined_68 rfl (lv_at hl 2 rfl) ?_
    refine r_get (v := .int wt21) hx hb hown hq hE hP 78 551 tFX12_78 (by decide) pw_1805 rfl dX12_joined_69 ?_
    refine lv_istore (lv' := [(4, .int wt21), (3, .int (nI r17)), (2, .int 0), (0, .ref h0), (1, .int (nI n9))]) hx hb dX12_joined_72 hl (by decide) rfl (fun ls hl => ?_)
    refine lv_aload_n hx hb dX12_joined_74 rfl (lv_at hl 3 rfl) ?_
    refine r_get (v := .int wf22) hx hb hown hq hE hP 79 554 tFX12_79 (by decide) pw_1806 rfl dX12_joined_75 ?_
    refine lv_istore (lv' := [(5, .int wf22), (4, .int wt21), (3, .int (nI r17)), (2, .int 0), (0, .ref h0), (1, .int (nI n9))]) hx hb dX12_joined_78 hl (by decide) rfl (fun ls hl => ?_)
    refine lv_aload_n hx hb dX12_joined_80 rfl (lv_at hl 4 rfl) ?_
    refine lv_iload_n hx hb dX12_joined_81 rfl (lv_at hl 3 rfl) ?_
    refine lv_if_eq (tgt := 90) hx hb dX12_joined_82 (by decide) (fun c185 => ?_) (fun c185 => absurd c185 (by decide))
    refine lv_iload hx hb dX12_joined_90 (lv_at hl 0 rfl) ?_
    refine r_put (v := wf22) (ty := .int) hx hb hown hq hE hP hD hS 77 544 tFX12_77 (by decide) pw_1796 (by decide) rfl rfl (ms_77 a _ _) dX12_joined_92 (fun H locs hP hD hS => ?_)
    refine lv_aload_n hx hb dX12_joined_95 rfl (lv_at hl 4 rfl) ?_
    refine lv_aload_n hx hb dX12_joined_96 rfl (lv_at hl 4 rfl) ?_
    refine r_get (v := .ref (a 13)) hx hb hown hq hE hP 21 50 tFX12_21 (by decide) pw_1443 rfl dX12_joined_97 ?_
    refine lv_iload_n hx hb dX12_joined_100 rfl (lv_at hl 5 rfl) ?_
    refine r_ldi (f := (B 13)) (j := n9) hx hb hE hP 13 (ma_13 G a _) rfl (by omega) (by decide) dX12_joined_101 ?_
    obtain ⟨c186, e187, h188, hp189, h190, hc191, hh192, hg193⟩ := Fs2.kid (kk := 20) (s := 2) hF hn9 hkd (by decide) (by decide) (by decide) (by decide) (by omega)
    refine lv_topi (fun x194 e195 => ?_)
    obtain rfl : x194 = nI c186 := e195.trans e187
    have hP : va_P G.1 pCl (mW G h0 a (upd (upd (upd (upd (upd (upd (upd (upd (upd (upd (upd (upd (upd (upd (upd (upd (upd F 15 (nI fa176)) 16 pl177) 44 (nI fd)) 49 (nI md)) 73 (nI sc)) 74 (nI k9)) 77 wf22) 78 wt21) 79 wf22) 15 (nI fa176)) 44 (nI fd)) 49 (nI md)) 73 (nI sc)) 74 (nI k9)) 77 wf22) 78 wt21) 79 wf22) (updA (updA (updA (updA (updA B 14 nc) 17 (upd ty23 c4 (nI r17))) 18 mn24) 48 vn) 49 vt)) _ := mW_to (F := F) (l1 := [(15, (nI fa176)), (16, pl177), (44, (nI fd)), (49, (nI md)), (73, (nI sc)), (74, (nI k9)), (77, dn20), (78, wt21), (79, wf22), (77, wf22)]) (l2 := [(15, (nI fa176)), (16, pl177), (44, (nI fd)), (49, (nI md)), (73, (nI sc)), (74, (nI k9)), (77, wf22), (78, wt21), (79, wf22), (15, (nI fa176)), (44, (nI fd)), (49, (nI md)), (73, (nI sc)), (74, (nI k9)), (77, wf22), (78, wt21), (79, wf22)]) (V := [(nI fa176), pl177, (nI fd), (nI md), (nI sc), (nI k9), wf22, wt21, wf22, wf22, (nI fa176), pl177, (nI fd), (nI md), (nI sc), (nI k9), wf22, wt21, wf22, (nI fa176), (nI fd), (nI md), (nI sc), (nI k9), wf22, wt21, wf22]) rfl rfl rfl hP
    have hD : va_D A (mW G h0 a (upd (upd (upd (upd (upd (upd (upd (upd (upd (upd (upd (upd (upd (upd (upd (upd (upd F 15 (nI fa176)) 16 pl177) 44 (nI fd)) 49 (nI md)) 73 (nI sc)) 74 (nI k9)) 77 wf22) 78 wt21) 79 wf22) 15 (nI fa176)) 44 (nI fd)) 49 (nI md)) 73 (nI sc)) 74 (nI k9)) 77 wf22) 78 wt21) 79 wf22) (updA (updA (updA (updA (updA B 14 nc) 17 (upd ty23 c4 (nI r17))) 18 mn24) 48 vn) 49 vt)) := mW_D hD
    refine pc_V0 (G := G) (As := [.int (nI c186)]) (rest := []) hx hb hml hown hq hE hX pX0_al hP hD hS hA hl.1 (ihA h0 a (upd (upd (upd (upd (upd (upd (upd (upd (upd F 15 (nI fa176)) 16 pl177) 44 (nI fd)) 49 (nI md)) 73 (nI sc)) 74 (nI k9)) 77 wf22) 78 wt21) 79 wf22) B c186 fa176 sc k9 nd T nm wr lz dc fd md pr bk gh wf22 wt21 wf22 nc (upd ty23 c4 (nI r17)) mn24 vn vt hst hnm h188 (by omega) (by omega) (by omega) hk9 hnc h30 hvt (show kcl 1 _ = true from hc191)) (gV pw_1815 pw_1816 pw_1817 pw_1523 pw_1831) hV_X12_lookAt 0 9 rfl rfl rfl rfl (Nat.le_of_ble_eq_true rfl) dX12_joined_102 ⟨Nat.le_of_ble_eq_true rfl, Nat.le_of_ble_eq_true rfl⟩ ⟨(by show (4 * (z9 - 1) + 10) + 1 ≤ (4 * z9 + 9); omega), (by show 8 + (3 + 11) + (160 * (z9 - 1) + 1400) ≤ (160 * z9 + 1360); omega)⟩ (fun v198 u196 H locs hw197 hP hD hS => ?_)
    obtain ⟨r199, fa200, pl201, dn202, wt203, wf204, ty205, mn206⟩ := u196
    obtain ⟨hw197, h207, h208, h209, h210, h211, h212, h213⟩ := hw197
    replace h207 : fa176 ≤ fa200 := h207
    replace h208 : fa200 ≤ 15 := h208
    replace h209 : TyC dc r199 := h209
    replace h210 : r199 ≤ 2050 := h210
    replace h211 : ChE B nd c186 (upd ty23 c4 (nI r17)) ty205 mn24 mn206 := h211
    replace h212 : mnN B nd mn206 := h212
    replace h213 : If (fa200 = 0) (Typ0 B dc fd md nd ty205 mn206 vt sc k9 c186 (nI r199)) := h213
    obtain rfl : v198 = some (.int (nI r199)) := hw197
    have hP : va_P G.1 pCl (mW G h0 a (upd (upd (upd (upd (upd (upd (upd (upd (upd F 15 (nI fa200)) 16 pl201) 44 (nI fd)) 49 (nI md)) 73 (nI sc)) 74 (nI k9)) 77 dn202) 78 wt203) 79 wf204) (updA (updA (updA (updA (updA B 14 nc) 17 ty205) 18 mn206) 48 vn) 49 vt)) _ := mW_to (F := F) (l1 := [(15, (nI fa176)), (16, pl177), (44, (nI fd)), (49, (nI md)), (73, (nI sc)), (74, (nI k9)), (77, wf22), (78, wt21), (79, wf22), (15, (nI fa200)), (16, pl201), (44, (nI fd)), (49, (nI md)), (73, (nI sc)), (74, (nI k9)), (77, dn202), (78, wt203), (79, wf204)]) (l2 := [(15, (nI fa200)), (16, pl201), (44, (nI fd)), (49, (nI md)), (73, (nI sc)), (74, (nI k9)), (77, dn202), (78, wt203), (79, wf204)]) (V := [(nI fa200), pl201, (nI fd), (nI md), (nI sc), (nI k9), dn202, wt203, wf204, (nI fa200), pl201, (nI fd), (nI md), (nI sc), (nI k9), dn202, wt203, wf204, (nI fa200), pl201, (nI fd), (nI md), (nI sc), (nI k9), dn202, wt203, wf204]) rfl rfl rfl hP
    have hD : va_D A (mW G h0 a (upd (upd (upd (upd (upd (upd (upd (upd (upd F 15 (nI fa200)) 16 pl201) 44 (nI fd)) 49 (nI md)) 73 (nI sc)) 74 (nI k9)) 77 dn202) 78 wt203) 79 wf204) (updA (updA (updA (updA (updA B 14 nc) 17 ty205) 18 mn206) 48 vn) 49 vt)) := mW_D hD
    refine W.widen (k := 0) (n := 0) (Nat.le_of_ble_eq_true rfl) (Nat.le_of_ble_eq_true rfl) ?_
    refine W.eq (g2 := F0 m 105 ls [.int (nI r199)]) rfl ?_
    have hch214 : ChE B nd n9 ty ty205 mn mn206 := (ChE.trans hch36 (ChE.kid h211 (by omega) hp189))
    have hy215 : If (fa18 = 0) (Typ B dc fd md nd ty205 mn206 vt sc k9 c4) := (fun e => Typ.beside hF (by omega) hn9 (hy37 e) h6 h188 hp7 hp189 (fun e => by have z := hg11; rw [e] at z; have := hg193; omega) h211)
    have ht216 : ty205 c4 = nI r17 := ((ChE.at hF (by omega) hn9 h6 h188 hp7 hp189 (fun e => by have z := hg11; rw [e] at z; have := hg193; omega) h211).trans ht38)
    refine lv_istore (lv' := [(6, .int (nI r199)), (5, .int wf22), (4, .int wt21), (3, .int (nI r17)), (2, .int 0), (0, .ref h0), (1, .int (nI n9))]) hx hb dX12_joined_105 hl (by decide) rfl (fun ls hl => ?_)
    refine lv_aload_n hx hb dX12_joined_107 rfl (lv_at hl 5 rfl) ?_
    refine r_get (v := .ref (a 17)) hx hb hown hq hE hP 25 62 tFX12_25 (by decide) pw_1447 rfl dX12_joined_108 ?_
    refine lv_aload_n hx hb dX12_joined_111 rfl (lv_at hl 5 rfl) ?_
    refine r_get (v := .ref (a 13)) hx hb hown hq hE hP 21 50 tFX12_21 (by decide) pw_1443 rfl dX12_joined_112 ?_
    refine lv_iload_n hx hb dX12_joined_115 rfl (lv_at hl 6 rfl) ?_
    refine r_ldi (f := (B 13)) (j := n9) hx hb hE hP 13 (ma_13 G a _) rfl (by omega) (by decide) dX12_joined_116 ?_
    refine lv_topi (fun x217 e218 => ?_)
    obtain rfl : x217 = nI c186 := e218.trans e187
    refine lv_iload hx hb dX12_joined_117 (lv_at hl 0 rfl) ?_
    refine r_sti (f := ty205) (j := c186) hx hb hE hP hD hS 17 (ma_17 G a _) rfl (mas_17 G a _) (by omega) (by decide) dX12_joined_119 (fun H locs hP hD hS => ?_)
    have hch219 : ChE B nd c186 ty205 (upd ty205 c186 (nI r199)) mn206 mn206 := (ChE.setT sub.rfl)
    have hch220 : ChE B nd n9 ty (upd ty205 c186 (nI r199)) mn mn206 := (ChE.trans hch214 (ChE.kid hch219 (by omega) hp189))
    have hy221 : If (fa18 = 0) (Typ B dc fd md nd (upd ty205 c186 (nI r199)) mn206 vt sc k9 c4) := (fun e => Typ.beside hF (by omega) hn9 (hy215 e) h6 h188 hp7 hp189 (fun e => by have z := hg11; rw [e] at z; have := hg193; omega) hch219)
    have ht222 : (upd ty205 c186 (nI r199)) c4 = nI r17 := ((ChE.at hF (by omega) hn9 h6 h188 hp7 hp189 (fun e => by have z := hg11; rw [e] at z; have := hg193; omega) hch219).trans ht216)
    have hy223 : If (fa200 = 0) (Typ B dc fd md nd (upd ty205 c186 (nI r199)) mn206 vt sc k9 c186) := (fun e => Typ0.st hF (by omega) h188 (h213 e))
    have ht224 : (upd ty205 c186 (nI r199)) c186 = nI r199 := upd_eq
    refine lv_aload_n hx hb dX12_joined_120 rfl (lv_at hl 5 rfl) ?_
    refine lv_iload hx hb dX12_joined_121 (lv_at hl 0 rfl) ?_
    refine lv_iconst (v := 2) hx hb dX12_joined_123 (by decide) ?_
    refine lv_icmp_ne (tgt := 131) hx hb dX12_joined_124 (by decide) (fun c225 => ?_) (fun c225 => ?_)
    · have n226 : ¬ (r199 = 2) := fun h9 => c225 ((nI_eq (a := r199) (b := 2) (by omega) (by omega)).mpr h9)
      refine lv_iconst (v := 0) hx hb dX12_joined_131 (by decide) ?_
      refine lv_bipush (v := 11) hx hb dX12_joined_132 (by decide) ?_
      refine lv_aload_n hx hb dX12_joined_134 rfl (lv_at hl 5 rfl) ?_
      refine r_get (v := .ref (a 10)) hx hb hown hq hE hP 18 41 tFX12_18 (by decide) pw_1440 rfl dX12_joined_135 ?_
      refine lv_aload_n hx hb dX12_joined_138 rfl (lv_at hl 5 rfl) ?_
      refine r_get (v := .ref (a 13)) hx hb hown hq hE hP 21 50 tFX12_21 (by decide) pw_1443 rfl dX12_joined_139 ?_
      refine lv_iload_n hx hb dX12_joined_142 rfl (lv_at hl 6 rfl) ?_
      refine r_ldi (f := (B 13)) (j := n9) hx hb hE hP 13 (ma_13 G a _) rfl (by omega) (by decide) dX12_joined_143 ?_
      refine lv_topi (fun x227 e228 => ?_)
      obtain rfl : x227 = nI c186 := e228.trans e187
      refine r_ldi (f := (B 10)) (j := c186) hx hb hE hP 10 (ma_10 G a _) rfl (by omega) (by decide) dX12_joined_144 ?_
      obtain ⟨⟨t229, e230, h231⟩, -⟩ := hF c186 h188
      refine lv_topi (fun x232 e233 => ?_)
      obtain rfl : x232 = nI t229 := e233.trans e230
      have hP : va_P G.1 pCl (mW G h0 a (upd (upd (upd (upd (upd (upd (upd (upd (upd (upd F 15 (nI fa200)) 16 pl201) 44 (nI fd)) 49 (nI md)) 73 (nI sc)) 74 (nI k9)) 77 dn202) 78 wt203) 79 wf204) 15 (nI fa200)) (updA (updA (updA (updA (updA B 14 nc) 17 (upd ty205 c186 (nI r199))) 18 mn206) 48 vn) 49 vt)) _ := mW_to (F := F) (l1 := [(15, (nI fa200)), (16, pl201), (44, (nI fd)), (49, (nI md)), (73, (nI sc)), (74, (nI k9)), (77, dn202), (78, wt203), (79, wf204)]) (l2 := [(15, (nI fa200)), (16, pl201), (44, (nI fd)), (49, (nI md)), (73, (nI sc)), (74, (nI k9)), (77, dn202), (78, wt203), (79, wf204), (15, (nI fa200))]) (V := [(nI fa200), pl201, (nI fd), (nI md), (nI sc), (nI k9), dn202, wt203, wf204, (nI fa200), pl201, (nI fd), (nI md), (nI sc), (nI k9), dn202, wt203, wf204, (nI fa200)]) rfl rfl (show (updA (updA (updA (updA (updA (updA B 14 nc) 17 ty205) 18 mn206) 48 vn) 49 vt) 17 (upd ty205 c186 (nI r199))) = (updA (updA (updA (updA (updA B 14 nc) 17 (upd ty205 c186 (nI r199))) 18 mn206) 48 vn) 49 vt) from updsA_eq2 (F := B) (l1 := [(14, nc), (17, ty205), (18, mn206), (48, vn), (49, vt), (17, (upd ty205 c186 (nI r199)))]) (l2 := [(14, nc), (17, (upd ty205 c186 (nI r199))), (18, mn206), (48, vn), (49, vt)]) (V := [nc, (upd ty205 c186 (nI r199)), mn206, vn, vt, (upd ty205 c186 (nI r199)), nc, (upd ty205 c186 (nI r199)), mn206, vn, vt]) rfl rfl) hP
      have hD : va_D A (mW G h0 a (upd (upd (upd (upd (upd (upd (upd (upd (upd (upd F 15 (nI fa200)) 16 pl201) 44 (nI fd)) 49 (nI md)) 73 (nI sc)) 74 (nI k9)) 77 dn202) 78 wt203) 79 wf204) 15 (nI fa200)) (updA (updA (updA (updA (updA B 14 nc) 17 (upd ty205 c186 (nI r199))) 18 mn206) 48 vn) 49 vt)) := mW_D hD
      refine pc_V0 (G := G) (As := [.int (nI 0), .int (nI 11), .int (nI t229)]) (rest := []) hx hb hml hown hq hE hX pX0_al hP hD hS hA hl.1 (R_judgeL l G h0 a (upd (upd (upd (upd (upd (upd (upd (upd (upd F 15 (nI fa200)) 16 pl201) 44 (nI fd)) 49 (nI md)) 73 (nI sc)) 74 (nI k9)) 77 dn202) 78 wt203) 79 wf204) (updA (updA (updA (updA (updA B 14 nc) 17 (upd ty205 c186 (nI r199))) 18 mn206) 48 vn) 49 vt) 0 11 t229 fa200 (by omega) (by omega) (by omega) (by omega)) (gV pw_1798 pw_1799 pw_1800 pw_1523 pw_1793) hV_X12_judge 0 9 rfl rfl rfl rfl (Nat.le_of_ble_eq_true rfl) dX12_joined_145 ⟨Nat.le_of_ble_eq_true rfl, Nat.le_of_ble_eq_true rfl⟩ ⟨(by show 3 + 1 ≤ (4 * z9 + 9); omega), (by show 8 + (4 + 11) + 82 ≤ (160 * z9 + 1360); omega)⟩ (fun v236 u234 H locs hw235 hP hD hS => ?_)
      obtain ⟨r237, fa238, pl239⟩ := u234
      obtain ⟨hw235, h240, h241, h242, h243, h244, h245, h246⟩ := hw235
      replace h240 : r237 ≤ 1 := h240
      replace h241 : fa200 ≤ fa238 := h241
      replace h242 : fa238 ≤ 15 := h242
      replace h243 : fa238 + 15 * r237 ≤ 15 := h243
      replace h244 : 1 ≤ r237 + fa238 := h244
      replace h245 : 1 ≤ 0 + fa238 := h245
      replace h246 : fa238 ≤ fa200 + 15 * (1 - 0) := h246
      obtain rfl : v236 = some (.int (nI r237)) := hw235
      have hP : va_P G.1 pCl (mW G h0 a (upd (upd (upd (upd (upd (upd (upd (upd (upd F 15 (nI fa238)) 16 pl239) 44 (nI fd)) 49 (nI md)) 73 (nI sc)) 74 (nI k9)) 77 dn202) 78 wt203) 79 wf204) (updA (updA (updA (updA (updA B 14 nc) 17 (upd ty205 c186 (nI r199))) 18 mn206) 48 vn) 49 vt)) _ := mW_to (F := F) (l1 := [(15, (nI fa200)), (16, pl201), (44, (nI fd)), (49, (nI md)), (73, (nI sc)), (74, (nI k9)), (77, dn202), (78, wt203), (79, wf204), (15, (nI fa238)), (16, pl239)]) (l2 := [(15, (nI fa238)), (16, pl239), (44, (nI fd)), (49, (nI md)), (73, (nI sc)), (74, (nI k9)), (77, dn202), (78, wt203), (79, wf204)]) (V := [(nI fa238), pl239, (nI fd), (nI md), (nI sc), (nI k9), dn202, wt203, wf204, (nI fa238), pl239, (nI fa238), pl239, (nI fd), (nI md), (nI sc), (nI k9), dn202, wt203, wf204]) rfl rfl rfl hP
      have hD : va_D A (mW G h0 a (upd (upd (upd (upd (upd (upd (upd (upd (upd F 15 (nI fa238)) 16 pl239) 44 (nI fd)) 49 (nI md)) 73 (nI sc)) 74 (nI k9)) 77 dn202) 78 wt203) 79 wf204) (updA (updA (updA (updA (updA B 14 nc) 17 (upd ty205 c186 (nI r199))) 18 mn206) 48 vn) 49 vt)) := mW_D hD
      refine W.widen (k := 0) (n := 0) (Nat.le_of_ble_eq_true rfl) (Nat.le_of_ble_eq_true rfl) ?_
      refine W.eq (g2 := F0 m 148 ls [.int (nI r237)]) rfl ?_
      refine lv_pop hx hb dX12_joined_148 rfl ?_
      refine lv_iload_n hx hb dX12_joined_149 rfl (lv_at hl 4 rfl) ?_
      refine lv_if_eq (tgt := 167) hx hb dX12_joined_150 (by decide) (fun c247 => ?_) (fun c247 => absurd c247 (by decide))
      refine lv_aload_n hx hb dX12_joined_167 rfl (lv_at hl 5 rfl) ?_
      refine lv_iload hx hb dX12_joined_168 (lv_at hl 2 rfl) ?_
      refine lv_aload_n hx hb dX12_joined_170 rfl (lv_at hl 5 rfl) ?_
      refine r_get (v := .int wt203) hx hb hown hq hE hP 78 551 tFX12_78 (by decide) pw_1805 rfl dX12_joined_171 ?_
      refine lv_iand hx hb dX12_joined_174 ?_
      refine lv_topi (fun x248 e249 => ?_)
      refine r_put (v := x248) (ty := .int) hx hb hown hq hE hP hD hS 78 551 tFX12_78 (by decide) pw_1805 (by decide) rfl rfl (ms_78 a _ _) dX12_joined_175 (fun H locs hP hD hS => ?_)
      refine lv_iconst (v := 2) hx hb dX12_joined_178 (by decide) ?_
      have hz250 : fa ≤ fa238 := (by omega)
      have hz251 : fa238 ≤ 15 := (by omega)
      have hz252 : TyC dc 2 := (by unfold TyC; omega)
      have hz253 : 2 ≤ 2050 := (by omega)
      have hz254 : ChE B nd n9 ty (upd ty205 c186 (nI r199)) mn mn206 := hch220
      have hz255 : mnN B nd mn206 := h212
      have hz256 : If (fa238 = 0) (Typ0 B dc fd md nd (upd ty205 c186 (nI r199)) mn206 vt sc k9 n9 (nI 2)) := (fun e => absurd e (by omega))
      have hP : va_P G.1 pCl (mW G h0 a (upd (upd (upd (upd (upd (upd (upd (upd (upd F 15 (nI fa238)) 16 pl239) 44 (nI fd)) 49 (nI md)) 73 (nI sc)) 74 (nI k9)) 77 dn202) 78 x248) 79 wf204) (updA (updA (updA (updA (updA B 14 nc) 17 (upd ty205 c186 (nI r199))) 18 mn206) 48 vn) 49 vt)) _ := mW_to (F := F) (l1 := [(15, (nI fa238)), (16, pl239), (44, (nI fd)), (49, (nI md)), (73, (nI sc)), (74, (nI k9)), (77, dn202), (78, wt203), (79, wf204), (78, x248)]) (l2 := [(15, (nI fa238)), (16, pl239), (44, (nI fd)), (49, (nI md)), (73, (nI sc)), (74, (nI k9)), (77, dn202), (78, x248), (79, wf204)]) (V := [(nI fa238), pl239, (nI fd), (nI md), (nI sc), (nI k9), dn202, x248, wf204, x248, (nI fa238), pl239, (nI fd), (nI md), (nI sc), (nI k9), dn202, x248, wf204]) rfl rfl rfl hP
      have hD : va_D A (mW G h0 a (upd (upd (upd (upd (upd (upd (upd (upd (upd F 15 (nI fa238)) 16 pl239) 44 (nI fd)) 49 (nI md)) 73 (nI sc)) 74 (nI k9)) 77 dn202) 78 x248) 79 wf204) (updA (updA (updA (updA (updA B 14 nc) 17 (upd ty205 c186 (nI r199))) 18 mn206) 48 vn) 49 vt)) := mW_D hD
      exact W.iret (v := 2) hx hb hr (fun t9 ht9 hW9 => ⟨⟨_, (2, fa238, pl239, dn202, x248, wf204, (upd ty205 c186 (nI r199)), mn206), rfl, ⟨rfl, hz250, hz251, hz252, hz253, hz254, hz255, hz256⟩, by rw [ht9]; exact hP, hD⟩, hS.F ht9⟩) hS.2.2 dX12_joined_179
    · have n257 : r199 = 2 := (nI_eq (a := r199) (b := 2) (by omega) (by omega)).mp c225
      refine lv_iconst (v := 1) hx hb dX12_joined_127 (by decide) ?_
      refine lv_goto (tgt := 132) hx hb dX12_joined_128 (by decide) ?_
      refine lv_bipush (v := 11) hx hb dX12_joined_132 (by decide) ?_
      refine lv_aload_n hx hb dX12_joined_134 rfl (lv_at hl 5 rfl) ?_
      refine r_get (v := .ref (a 10)) hx hb hown hq hE hP 18 41 tFX12_18 (by decide) pw_1440 rfl dX12_joined_135 ?_
      refine lv_aload_n hx hb dX12_joined_138 rfl (lv_at hl 5 rfl) ?_
      refine r_get (v := .ref (a 13)) hx hb hown hq hE hP 21 50 tFX12_21 (by decide) pw_1443 rfl dX12_joined_139 ?_
      refine lv_iload_n hx hb dX12_joined_142 rfl (lv_at hl 6 rfl) ?_
      refine r_ldi (f := (B 13)) (j := n9) hx hb hE hP 13 (ma_13 G a _) rfl (by omega) (by decide) dX12_joined_143 ?_
      refine lv_topi (fun x258 e259 => ?_)
      obtain rfl : x258 = nI c186 := e259.trans e187
      refine r_ldi (f := (B 10)) (j := c186) hx hb hE hP 10 (ma_10 G a _) rfl (by omega) (by decide) dX12_joined_144 ?_
      obtain ⟨⟨t260, e261, h262⟩, -⟩ := hF c186 h188
      refine lv_topi (fun x263 e264 => ?_)
      obtain rfl : x263 = nI t260 := e264.trans e261
      have hP : va_P G.1 pCl (mW G h0 a (upd (upd (upd (upd (upd (upd (upd (upd (upd (upd F 15 (nI fa200)) 16 pl201) 44 (nI fd)) 49 (nI md)) 73 (nI sc)) 74 (nI k9)) 77 dn202) 78 wt203) 79 wf204) 15 (nI fa200)) (updA (updA (updA (updA (updA B 14 nc) 17 (upd ty205 c186 (nI r199))) 18 mn206) 48 vn) 49 vt)) _ := mW_to (F := F) (l1 := [(15, (nI fa200)), (16, pl201), (44, (nI fd)), (49, (nI md)), (73, (nI sc)), (74, (nI k9)), (77, dn202), (78, wt203), (79, wf204)]) (l2 := [(15, (nI fa200)), (16, pl201), (44, (nI fd)), (49, (nI md)), (73, (nI sc)), (74, (nI k9)), (77, dn202), (78, wt203), (79, wf204), (15, (nI fa200))]) (V := [(nI fa200), pl201, (nI fd), (nI md), (nI sc), (nI k9), dn202, wt203, wf204, (nI fa200), pl201, (nI fd), (nI md), (nI sc), (nI k9), dn202, wt203, wf204, (nI fa200)]) rfl rfl (show (updA (updA (updA (updA (updA (updA B 14 nc) 17 ty205) 18 mn206) 48 vn) 49 vt) 17 (upd ty205 c186 (nI r199))) = (updA (updA (updA (updA (updA B 14 nc) 17 (upd ty205 c186 (nI r199))) 18 mn206) 48 vn) 49 vt) from updsA_eq2 (F := B) (l1 := [(14, nc), (17, ty205), (18, mn206), (48, vn), (49, vt), (17, (upd ty205 c186 (nI r199)))]) (l2 := [(14, nc), (17, (upd ty205 c186 (nI r199))), (18, mn206), (48, vn), (49, vt)]) (V := [nc, (upd ty205 c186 (nI r199)), mn206, vn, vt, (upd ty205 c186 (nI r199)), nc, (upd ty205 c186 (nI r199)), mn206, vn, vt]) rfl rfl) hP
      have hD : va_D A (mW G h0 a (upd (upd (upd (upd (upd (upd (upd (upd (upd (upd F 15 (nI fa200)) 16 pl201) 44 (nI fd)) 49 (nI md)) 73 (nI sc)) 74 (nI k9)) 77 dn202) 78 wt203) 79 wf204) 15 (nI fa200)) (updA (updA (updA (updA (updA B 14 nc) 17 (upd ty205 c186 (nI r199))) 18 mn206) 48 vn) 49 vt)) := mW_D hD
      refine pc_V0 (G := G) (As := [.int (nI 1), .int (nI 11), .int (nI t260)]) (rest := []) hx hb hml hown hq hE hX pX0_al hP hD hS hA hl.1 (R_judgeL l G h0 a (upd (upd (upd (upd (upd (upd (upd (upd (upd F 15 (nI fa200)) 16 pl201) 44 (nI fd)) 49 (nI md)) 73 (nI sc)) 74 (nI k9)) 77 dn202) 78 wt203) 79 wf204) (updA (updA (updA (updA (updA B 14 nc) 17 (upd ty205 c186 (nI r199))) 18 mn206) 48 vn) 49 vt) 1 11 t260 fa200 (by omega) (by omega) (by omega) (by omega)) (gV pw_1798 pw_1799 pw_1800 pw_1523 pw_1793) hV_X12_judge 0 9 rfl rfl rfl rfl (Nat.le_of_ble_eq_true rfl) dX12_joined_145 ⟨Nat.le_of_ble_eq_true rfl, Nat.le_of_ble_eq_true rfl⟩ ⟨(by show 3 + 1 ≤ (4 * z9 + 9); omega), (by show 8 + (4 + 11) + 82 ≤ (160 * z9 + 1360); omega)⟩ (fun v267 u265 H locs hw266 hP hD hS => ?_)
      obtain ⟨r268, fa269, pl270⟩ := u265
      obtain ⟨hw266, h271, h272, h273, h274, h275, h276, h277⟩ := hw266
      replace h271 : r268 ≤ 1 := h271
      replace h272 : fa200 ≤ fa269 := h272
      replace h273 : fa269 ≤ 15 := h273
      replace h274 : fa269 + 15 * r268 ≤ 15 := h274
      replace h275 : 1 ≤ r268 + fa269 := h275
      replace h276 : 1 ≤ 1 + fa269 := h276
      replace h277 : fa269 ≤ fa200 + 15 * (1 - 1) := h277
      obtain rfl : v267 = some (.int (nI r268)) := hw266
      have hP : va_P G.1 pCl (mW G h0 a (upd (upd (upd (upd (upd (upd (upd (upd (upd F 15 (nI fa269)) 16 pl270) 44 (nI fd)) 49 (nI md)) 73 (nI sc)) 74 (nI k9)) 77 dn202) 78 wt203) 79 wf204) (updA (updA (updA (updA (updA B 14 nc) 17 (upd ty205 c186 (nI r199))) 18 mn206) 48 vn) 49 vt)) _ := mW_to (F := F) (l1 := [(15, (nI fa200)), (16, pl201), (44, (nI fd)), (49, (nI md)), (73, (nI sc)), (74, (nI k9)), (77, dn202), (78, wt203), (79, wf204), (15, (nI fa269)), (16, pl270)]) (l2 := [(15, (nI fa269)), (16, pl270), (44, (nI fd)), (49, (nI md)), (73, (nI sc)), (74, (nI k9)), (77, dn202), (78, wt203), (79, wf204)]) (V := [(nI fa269), pl270, (nI fd), (nI md), (nI sc), (nI k9), dn202, wt203, wf204, (nI fa269), pl270, (nI fa269), pl270, (nI fd), (nI md), (nI sc), (nI k9), dn202, wt203, wf204]) rfl rfl rfl hP
      have hD : va_D A (mW G h0 a (upd (upd (upd (upd (upd (upd (upd (upd (upd F 15 (nI fa269)) 16 pl270) 44 (nI fd)) 49 (nI md)) 73 (nI sc)) 74 (nI k9)) 77 dn202) 78 wt203) 79 wf204) (updA (updA (updA (updA (updA B 14 nc) 17 (upd ty205 c186 (nI r199))) 18 mn206) 48 vn) 49 vt)) := mW_D hD
      refine W.widen (k := 0) (n := 0) (Nat.le_of_ble_eq_true rfl) (Nat.le_of_ble_eq_true rfl) ?_
      refine W.eq (g2 := F0 m 148 ls [.int (nI r268)]) rfl ?_
      refine lv_pop hx hb dX12_joined_148 rfl ?_
      refine lv_iload_n hx hb dX12_joined_149 rfl (lv_at hl 4 rfl) ?_
      refine lv_if_eq (tgt := 167) hx hb dX12_joined_150 (by decide) (fun c278 => ?_) (fun c278 => absurd c278 (by decide))
      refine lv_aload_n hx hb dX12_joined_167 rfl (lv_at hl 5 rfl) ?_
      refine lv_iload hx hb dX12_joined_168 (lv_at hl 2 rfl) ?_
      refine lv_aload_n hx hb dX12_joined_170 rfl (lv_at hl 5 rfl) ?_
      refine r_get (v := .int wt203) hx hb hown hq hE hP 78 551 tFX12_78 (by decide) pw_1805 rfl dX12_joined_171 ?_
      refine lv_iand hx hb dX12_joined_174 ?_
      refine lv_topi (fun x279 e280 => ?_)
      refine r_put (v := x279) (ty := .int) hx hb hown hq hE hP hD hS 78 551 tFX12_78 (by decide) pw_1805 (by decide) rfl rfl (ms_78 a _ _) dX12_joined_175 (fun H locs hP hD hS => ?_)
      refine lv_iconst (v := 2) hx hb dX12_joined_178 (by decide) ?_
      have hz281 : fa ≤ fa269 := (by omega)
      have hz282 : fa269 ≤ 15 := (by omega)
      have hz283 : TyC dc 2 := (by unfold TyC; omega)
      have hz284 : 2 ≤ 2050 := (by omega)
      have hz285 : ChE B nd n9 ty (upd ty205 c186 (nI r199)) mn mn206 := hch220
      have hz286 : mnN B nd mn206 := h212
      have hz287 : If (fa269 = 0) (Typ0 B dc fd md nd (upd ty205 c186 (nI r199)) mn206 vt sc k9 n9 (nI 2)) := (fun e => Typ0.of (kids (kk := 20) (c1 := c4) (c2 := c186) (c3 := c4) hkd (by decide) ⟨by omega, by omega, by omega⟩ (Or.inr ⟨by decide, e5⟩) (Or.inr ⟨by decide, e187⟩) (Or.inl (by decide)) (by decide) (hy221 (by omega)) (hy223 (by omega)) (hy221 (by omega))) (LT20 hkd hh10 hh192 (ht222.trans (by rw [show r17 = 2 by omega]; rfl)) (ht224.trans (by rw [show r199 = 2 by omega]; rfl))))
      have hP : va_P G.1 pCl (mW G h0 a (upd (upd (upd (upd (upd (upd (upd (upd (upd F 15 (nI fa269)) 16 pl270) 44 (nI fd)) 49 (nI md)) 73 (nI sc)) 74 (nI k9)) 77 dn202) 78 x279) 79 wf204) (updA (updA (updA (updA (updA B 14 nc) 17 (upd ty205 c186 (nI r199))) 18 mn206) 48 vn) 49 vt)) _ := mW_to (F := F) (l1 := [(15, (nI fa269)), (16, pl270), (44, (nI fd)), (49, (nI md)), (73, (nI sc)), (74, (nI k9)), (77, dn202), (78, wt203), (79, wf204), (78, x279)]) (l2 := [(15, (nI fa269)), (16, pl270), (44, (nI fd)), (49, (nI md)), (73, (nI sc)), (74, (nI k9)), (77, dn202), (78, x279), (79, wf204)]) (V := [(nI fa269), pl270, (nI fd), (nI md), (nI sc), (nI k9), dn202, x279, wf204, x279, (nI fa269), pl270, (nI fd), (nI md), (nI sc), (nI k9), dn202, x279, wf204]) rfl rfl rfl hP
      have hD : va_D A (mW G h0 a (upd (upd (upd (upd (upd (upd (upd (upd (upd F 15 (nI fa269)) 16 pl270) 44 (nI fd)) 49 (nI md)) 73 (nI sc)) 74 (nI k9)) 77 dn202) 78 x279) 79 wf204) (updA (updA (updA (updA (updA B 14 nc) 17 (upd ty205 c186 (nI r199))) 18 mn206) 48 vn) 49 vt)) := mW_D hD
      exact W.iret (v := 2) hx hb hr (fun t9 ht9 hW9 => ⟨⟨_, (2, fa269, pl270, dn202, x279, wf204, (upd ty205 c186 (nI r199)), mn206), rfl, ⟨rfl, hz281, hz282, hz283, hz284, hz285, hz286, hz287⟩, by rw [ht9]; exact hP, hD⟩, hS.F ht9⟩) hS.2.2 dX12_joined_179

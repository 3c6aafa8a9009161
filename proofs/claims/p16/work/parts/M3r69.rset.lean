theorem dX12_lookSet_0 : decode cX12_lookSet 0 = .ok (.aload_n 0, 1) := by decide +kernel
theorem dX12_lookSet_1 : decode cX12_lookSet 1 = .ok (.getfield 47, 3) := by decide +kernel
theorem dX12_lookSet_4 : decode cX12_lookSet 4 = .ok (.iload_n 1, 1) := by decide +kernel
theorem dX12_lookSet_5 : decode cX12_lookSet 5 = .ok (.iaload, 1) := by decide +kernel
theorem dX12_lookSet_6 : decode cX12_lookSet 6 = .ok (.istore_n 2, 1) := by decide +kernel
theorem dX12_lookSet_7 : decode cX12_lookSet 7 = .ok (.aload_n 0, 1) := by decide +kernel
theorem dX12_lookSet_8 : decode cX12_lookSet 8 = .ok (.getfield 38, 3) := by decide +kernel
theorem dX12_lookSet_11 : decode cX12_lookSet 11 = .ok (.iload_n 2, 1) := by decide +kernel
theorem dX12_lookSet_12 : decode cX12_lookSet 12 = .ok (.iaload, 1) := by decide +kernel
theorem dX12_lookSet_13 : decode cX12_lookSet 13 = .ok (.bipush 6, 2) := by decide +kernel
theorem dX12_lookSet_15 : decode cX12_lookSet 15 = .ok (.if_icmp .ne 12, 3) := by decide +kernel
theorem dX12_lookSet_18 : decode cX12_lookSet 18 = .ok (.aload_n 0, 1) := by decide +kernel
theorem dX12_lookSet_19 : decode cX12_lookSet 19 = .ok (.iload_n 2, 1) := by decide +kernel
theorem dX12_lookSet_20 : decode cX12_lookSet 20 = .ok (.iconst 0, 1) := by decide +kernel
theorem dX12_lookSet_21 : decode cX12_lookSet 21 = .ok (.invokevirtual 566, 3) := by decide +kernel
theorem dX12_lookSet_24 : decode cX12_lookSet 24 = .ok (.goto 27, 3) := by decide +kernel
theorem dX12_lookSet_51 : decode cX12_lookSet 51 = .ok (.istore_n 3, 1) := by decide +kernel
theorem dX12_lookSet_52 : decode cX12_lookSet 52 = .ok (.aload_n 0, 1) := by decide +kernel
theorem dX12_lookSet_53 : decode cX12_lookSet 53 = .ok (.getfield 62, 3) := by decide +kernel
theorem dX12_lookSet_56 : decode cX12_lookSet 56 = .ok (.iload_n 2, 1) := by decide +kernel
theorem dX12_lookSet_57 : decode cX12_lookSet 57 = .ok (.iload_n 3, 1) := by decide +kernel
theorem dX12_lookSet_58 : decode cX12_lookSet 58 = .ok (.iastore, 1) := by decide +kernel
theorem dX12_lookSet_59 : decode cX12_lookSet 59 = .ok (.aload_n 0, 1) := by decide +kernel
theorem dX12_lookSet_60 : decode cX12_lookSet 60 = .ok (.getfield 350, 3) := by decide +kernel
theorem dX12_lookSet_63 : decode cX12_lookSet 63 = .ok (.ifCond .le 4, 3) := by decide +kernel
theorem dX12_lookSet_67 : decode cX12_lookSet 67 = .ok (.aload_n 0, 1) := by decide +kernel
theorem dX12_lookSet_68 : decode cX12_lookSet 68 = .ok (.aload_n 0, 1) := by decide +kernel
theorem dX12_lookSet_69 : decode cX12_lookSet 69 = .ok (.getfield 50, 3) := by decide +kernel
theorem dX12_lookSet_72 : decode cX12_lookSet 72 = .ok (.iload_n 1, 1) := by decide +kernel
theorem dX12_lookSet_73 : decode cX12_lookSet 73 = .ok (.iaload, 1) := by decide +kernel
theorem dX12_lookSet_74 : decode cX12_lookSet 74 = .ok (.invokevirtual 557, 3) := by decide +kernel
theorem dX12_lookSet_77 : decode cX12_lookSet 77 = .ok (.istore 4, 2) := by decide +kernel
theorem dX12_lookSet_79 : decode cX12_lookSet 79 = .ok (.aload_n 0, 1) := by decide +kernel
theorem dX12_lookSet_80 : decode cX12_lookSet 80 = .ok (.aload_n 0, 1) := by decide +kernel
theorem dX12_lookSet_81 : decode cX12_lookSet 81 = .ok (.iload 4, 2) := by decide +kernel
theorem dX12_lookSet_83 : decode cX12_lookSet 83 = .ok (.iload_n 3, 1) := by decide +kernel
theorem dX12_lookSet_84 : decode cX12_lookSet 84 = .ok (.invokevirtual 534, 3) := by decide +kernel
theorem dX12_lookSet_87 : decode cX12_lookSet 87 = .ok (.bipush 11, 2) := by decide +kernel
theorem dX12_lookSet_89 : decode cX12_lookSet 89 = .ok (.aload_n 0, 1) := by decide +kernel
theorem dX12_lookSet_90 : decode cX12_lookSet 90 = .ok (.getfield 41, 3) := by decide +kernel
theorem dX12_lookSet_93 : decode cX12_lookSet 93 = .ok (.aload_n 0, 1) := by decide +kernel
theorem dX12_lookSet_94 : decode cX12_lookSet 94 = .ok (.getfield 50, 3) := by decide +kernel
theorem dX12_lookSet_97 : decode cX12_lookSet 97 = .ok (.iload_n 1, 1) := by decide +kernel
theorem dX12_lookSet_98 : decode cX12_lookSet 98 = .ok (.iaload, 1) := by decide +kernel
theorem dX12_lookSet_99 : decode cX12_lookSet 99 = .ok (.iaload, 1) := by decide +kernel
theorem dX12_lookSet_100 : decode cX12_lookSet 100 = .ok (.invokevirtual 540, 3) := by decide +kernel
theorem dX12_lookSet_103 : decode cX12_lookSet 103 = .ok (.pop, 1) := by decide +kernel
theorem dX12_lookSet_104 : decode cX12_lookSet 104 = .ok (.aload_n 0, 1) := by decide +kernel
theorem dX12_lookSet_105 : decode cX12_lookSet 105 = .ok (.getfield 38, 3) := by decide +kernel
theorem dX12_lookSet_108 : decode cX12_lookSet 108 = .ok (.iload_n 2, 1) := by decide +kernel
theorem dX12_lookSet_109 : decode cX12_lookSet 109 = .ok (.iaload, 1) := by decide +kernel
theorem dX12_lookSet_110 : decode cX12_lookSet 110 = .ok (.bipush 6, 2) := by decide +kernel
theorem dX12_lookSet_112 : decode cX12_lookSet 112 = .ok (.if_icmp .ne 29, 3) := by decide +kernel
theorem dX12_lookSet_115 : decode cX12_lookSet 115 = .ok (.aload_n 0, 1) := by decide +kernel
theorem dX12_lookSet_116 : decode cX12_lookSet 116 = .ok (.getfield 65, 3) := by decide +kernel
theorem dX12_lookSet_119 : decode cX12_lookSet 119 = .ok (.iload_n 2, 1) := by decide +kernel
theorem dX12_lookSet_120 : decode cX12_lookSet 120 = .ok (.iaload, 1) := by decide +kernel
theorem dX12_lookSet_121 : decode cX12_lookSet 121 = .ok (.ifCond .lt 20, 3) := by decide +kernel
theorem dX12_lookSet_141 : decode cX12_lookSet 141 = .ok (.return_, 1) := by decide +kernel
theorem dX12_lookSet_124 : decode cX12_lookSet 124 = .ok (.aload_n 0, 1) := by decide +kernel
theorem dX12_lookSet_125 : decode cX12_lookSet 125 = .ok (.dup, 1) := by decide +kernel
theorem dX12_lookSet_126 : decode cX12_lookSet 126 = .ok (.getfield 544, 3) := by decide +kernel
theorem dX12_lookSet_129 : decode cX12_lookSet 129 = .ok (.iconst 1, 1) := by decide +kernel
theorem dX12_lookSet_130 : decode cX12_lookSet 130 = .ok (.aload_n 0, 1) := by decide +kernel
theorem dX12_lookSet_131 : decode cX12_lookSet 131 = .ok (.getfield 65, 3) := by decide +kernel
theorem dX12_lookSet_134 : decode cX12_lookSet 134 = .ok (.iload_n 2, 1) := by decide +kernel
theorem dX12_lookSet_135 : decode cX12_lookSet 135 = .ok (.iaload, 1) := by decide +kernel
theorem dX12_lookSet_136 : decode cX12_lookSet 136 = .ok (.ishl, 1) := by decide +kernel
theorem dX12_lookSet_137 : decode cX12_lookSet 137 = .ok (.ior, 1) := by decide +kernel
theorem dX12_lookSet_138 : decode cX12_lookSet 138 = .ok (.putfield 544, 3) := by decide +kernel
theorem dX12_lookSet_66 : decode cX12_lookSet 66 = .ok (.return_, 1) := by decide +kernel
theorem dX12_lookSet_27 : decode cX12_lookSet 27 = .ok (.aload_n 0, 1) := by decide +kernel
theorem dX12_lookSet_28 : decode cX12_lookSet 28 = .ok (.getfield 38, 3) := by decide +kernel
theorem dX12_lookSet_31 : decode cX12_lookSet 31 = .ok (.iload_n 2, 1) := by decide +kernel
theorem dX12_lookSet_32 : decode cX12_lookSet 32 = .ok (.iaload, 1) := by decide +kernel
theorem dX12_lookSet_33 : decode cX12_lookSet 33 = .ok (.bipush 12, 2) := by decide +kernel
theorem dX12_lookSet_35 : decode cX12_lookSet 35 = .ok (.if_icmp .ne 11, 3) := by decide +kernel
theorem dX12_lookSet_38 : decode cX12_lookSet 38 = .ok (.aload_n 0, 1) := by decide +kernel
theorem dX12_lookSet_39 : decode cX12_lookSet 39 = .ok (.iload_n 2, 1) := by decide +kernel
theorem dX12_lookSet_40 : decode cX12_lookSet 40 = .ok (.invokevirtual 576, 3) := by decide +kernel
theorem dX12_lookSet_43 : decode cX12_lookSet 43 = .ok (.goto 8, 3) := by decide +kernel
theorem dX12_lookSet_46 : decode cX12_lookSet 46 = .ok (.aload_n 0, 1) := by decide +kernel
theorem dX12_lookSet_47 : decode cX12_lookSet 47 = .ok (.iload_n 2, 1) := by decide +kernel
theorem dX12_lookSet_48 : decode cX12_lookSet 48 = .ok (.invokevirtual 579, 3) := by decide +kernel
set_option maxHeartbeats 8000000 in
set_option maxRecDepth 100000 in
/-- lookSet(n) -/
theorem L_lookSet (l : Launch) (G : pT) (h0 : Nat) (a : Nat → Nat) (F : Nat → Int32) (B : Nat → Nat → Int32) (n9 : Nat) (z9 : Nat) (fa : Nat) (sc : Nat) (il : Nat) (k9 : Nat) (rs : Nat) (nd : Nat) (T : Nat) (nm : Nat) (wr : Nat) (lz : Nat) (dc : Nat) (fd : Nat) (md : Nat) (pr : Nat) (bk : Nat) (gh : Nat → Nat → Nat) (dn : Int32) (wt : Int32) (wf : Int32) (ab : Int32) (ac : Int32) (nc : Nat → Int32) (ty : Nat → Int32) (mn : Nat → Int32) (vn : Nat → Int32) (vt : Nat → Int32) (ev : Nat → Int32) (hst : St B gh nd T nm wr lz dc fd md pr bk) (hnm : nd ≤ 12000 ∧ T ≤ 5000 ∧ wr ≤ 5000 ∧ 7 ≤ dc ∧ dc ≤ 37 ∧ fd ≤ 620 ∧ md ≤ 920 ∧ pr ≤ 5000) (hn9 : n9 < nd) (hz : gh 1 n9 < z9) (hfa : fa ≤ 15) (hsc : sc ≤ 30) (hk9 : 7 ≤ k9 ∧ k9 < dc) (hnc : ∀ i : Nat, i < nd → ¬ B 9 i = 44 → nc i = B 14 i) (hmn : mnN B nd mn) (hil : il + z9 ≤ 1000) (hrs : TyC dc rs) (hrs5 : rs ≤ 2050) (hmc : mnC B nd n9 mn) (hvt : ∀ i : Nat, i < sc → tyOK dc (vt i)) (hve : ∀ i : Nat, i < sc → vt i = ev i) (hkd : B 9 n9 = nI 32) (ihS : PlookStatement l G (z9 - 1)) : PM l G pX0 yX12_lookSet cX12_lookSet 5 none ({ frames := (4 * z9 + 13), cells := 0, slots := 0, locals := (160 * z9 + 1660) }) [.ref h0, .int (nI n9)] (mW G h0 a (upd (upd (upd (upd (upd (upd (upd (upd (upd (upd (upd (upd F 15 (nI fa)) 44 (nI fd)) 49 (nI md)) 73 (nI sc)) 74 (nI k9)) 75 (nI rs)) 76 (nI il)) 77 dn) 78 wt) 79 wf) 80 ab) 81 ac) (updA (updA (updA (updA (updA B 14 nc) 17 ty) 18 mn) 48 vn) 49 vt)) (fun (v : Option Value) (u : Nat × Nat × Int32 × Int32 × Int32 × Int32 × Int32 × Int32 × (Nat → Int32) × (Nat → Int32) × (Nat → Int32) × (Nat → Int32) × (Nat → Int32)) => v = none ∧ (fa ≤ u.1) ∧ (u.1 ≤ 15) ∧ (sc ≤ u.2.1) ∧ (u.2.1 ≤ 30) ∧ (ChS B nd n9 ty u.2.2.2.2.2.2.2.2.2.1 mn u.2.2.2.2.2.2.2.2.2.2.1 nc u.2.2.2.2.2.2.2.2.1) ∧ (mnN B nd u.2.2.2.2.2.2.2.2.2.2.1) ∧ (∀ i : Nat, i < nd → ¬ (B) 9 i = 44 → u.2.2.2.2.2.2.2.2.1 i = (B) 14 i) ∧ (∀ i : Nat, i < sc → u.2.2.2.2.2.2.2.2.2.2.2.2 i = vt i) ∧ (If (u.1 = 0) (TyS B dc fd md nd u.2.2.2.2.2.2.2.2.2.1 u.2.2.2.2.2.2.2.2.2.2.1 u.2.2.2.2.2.2.2.2.1 k9 rs n9 (sc, il, ev) ∧ u.2.1 = (aft B n9 (sc, il, ev)).1 ∧ ∀ i : Nat, i < u.2.1 → u.2.2.2.2.2.2.2.2.2.2.2.2 i = (aft B n9 (sc, il, ev)).2.2 i ∧ tyOK dc (u.2.2.2.2.2.2.2.2.2.2.2.2 i)))) (fun u => (mW G h0 a (upd (upd (upd (upd (upd (upd (upd (upd (upd (upd (upd (upd (upd F 15 (nI u.1)) 16 u.2.2.1) 44 (nI fd)) 49 (nI md)) 73 (nI u.2.1)) 74 (nI k9)) 75 (nI rs)) 76 (nI il)) 77 u.2.2.2.1) 78 u.2.2.2.2.1) 79 u.2.2.2.2.2.1) 80 u.2.2.2.2.2.2.1) 81 u.2.2.2.2.2.2.2.1) (updA (updA (updA (updA (updA B 14 u.2.2.2.2.2.2.2.2.1) 17 u.2.2.2.2.2.2.2.2.2.1) 18 u.2.2.2.2.2.2.2.2.2.2.1) 48 u.2.2.2.2.2.2.2.2.2.2.2.1) 49 u.2.2.2.2.2.2.2.2.2.2.2.2))) := by
  intro sz
  refine Met.ofW (cc := cX12_lookSet) (maxL := 5) (ret := none) (by decide) rfl ?_
  intro p e s m args below meth c s₁ B9 hml hv
  obtain ⟨rfl, hsz, hP, hD0, hE, hX⟩ := hv
  have hx := B9.exec
  have hb := B9.bytes
  have hr := B9.returns
  have hts := atoms_spec (ws := Cond.code yX12_lookSet cX12_lookSet 5 none :: pw) B9.pre
  have hq : ∀ w ∈ pw, w.before _ s = true := fun w h => hts w (List.mem_cons_of_mem _ h)
  have hown : s.vm.findClass RX12 = some m.cls := findClass_of_methodNamed B9.named
  have hlocks := B9.notSynchronized
  subst hsz
  have hD := hD0.self (sz := s.heap.size)
  have hA : ∀ q : Nat, s.heap.size ≤ q → va_A (mW G h0 a (upd (upd (upd (upd (upd (upd (upd (upd (upd (upd (upd (upd F 15 (nI fa)) 44 (nI fd)) 49 (nI md)) 73 (nI sc)) 74 (nI k9)) 75 (nI rs)) 76 (nI il)) 77 dn) 78 wt) 79 wf) 80 ab) 81 ac) (updA (updA (updA (updA (updA B 14 nc) 17 ty) 18 mn) 48 vn) 49 vt)) s.heap.size q := fun q h => Or.inr h
  have hP : va_P G.1 pCl (mW G h0 a (upd (upd (upd (upd (upd (upd (upd (upd (upd (upd (upd (upd F 15 (nI fa)) 44 (nI fd)) 49 (nI md)) 73 (nI sc)) 74 (nI k9)) 75 (nI rs)) 76 (nI il)) 77 dn) 78 wt) 79 wf) 80 ab) 81 ac) (updA (updA (updA (updA (updA B 14 nc) 17 ty) 18 mn) 48 vn) 49 vt)) s.heap := hP
  generalize va_A (mW G h0 a (upd (upd (upd (upd (upd (upd (upd (upd (upd (upd (upd (upd F 15 (nI fa)) 44 (nI fd)) 49 (nI md)) 73 (nI sc)) 74 (nI k9)) 75 (nI rs)) 76 (nI il)) 77 dn) 78 wt) 79 wf) 80 ab) 81 ac) (updA (updA (updA (updA (updA B 14 nc) 17 ty) 18 mn) 48 vn) 49 vt)) s.heap.size = A at hD hE hA ⊢
  have hS : va_S A s.heap s.heap [] := va_S.rf
  have hl := lv_entry ([.ref h0, .int (nI n9)]) (n := 5) (Nat.le_of_ble_eq_true rfl)
  rw [lg_entry_eq]
  generalize (lg_sl ([.ref h0, .int (nI n9)]) ++ List.replicate (5 - (lg_sl ([.ref h0, .int (nI n9)])).length) Slot.unset).toArray = ls at hl ⊢
  have hl : lv_has ls 5 [(0, .ref h0), (1, .int (nI n9))] := hl
  have hF := hst.1
  have hPS := hst.2.1
  have hBI := hst.2.2.1
  have hRK := hst.2.2.2.1
  have hTY := hst.2.2.2.2.1
  have hNW := hst.2.2.2.2.2.1
  have hTK := hst.2.2.2.2.2.2
  refine lv_aload_n hx hb dX12_lookSet_0 rfl (lv_at hl 0 rfl) ?_
  refine r_get (v := .ref (a 12)) hx hb hown hq hE hP 20 47 tFX12_20 (by decide) pw_1442 rfl dX12_lookSet_1 ?_
  refine lv_iload_n hx hb dX12_lookSet_4 rfl (lv_at hl 1 rfl) ?_
  refine r_ldi (f := (B 12)) (j := n9) hx hb hE hP 12 (ma_12 G a _) rfl (by omega) (by decide) dX12_lookSet_5 ?_
  obtain ⟨c1, e2, h3, hp4, h5, hc6, hh7, hg8⟩ := Fs2.kid (kk := 32) (s := 1) hF hn9 hkd (by decide) (by decide) (by decide) (by decide) (by omega)
  refine lv_topi (fun x9 e10 => ?_)
  obtain rfl : x9 = nI c1 := e10.trans e2
  refine lv_istore_n (lv' := [(2, .int (nI c1)), (0, .ref h0), (1, .int (nI n9))]) hx hb dX12_lookSet_6 rfl hl (by decide) rfl (fun ls hl => ?_)
  refine lv_aload_n hx hb dX12_lookSet_7 rfl (lv_at hl 1 rfl) ?_
  refine r_get (v := .ref (a 9)) hx hb hown hq hE hP 17 38 tFX12_17 (by decide) pw_1439 rfl dX12_lookSet_8 ?_
  refine lv_iload_n hx hb dX12_lookSet_11 rfl (lv_at hl 0 rfl) ?_
  refine r_ldi (f := (B 9)) (j := c1) hx hb hE hP 9 (ma_9 G a _) rfl (by omega) (by decide) dX12_lookSet_12 ?_
  obtain ⟨kp, ekp, -, kp4, -⟩ := hF.knd h3
  rcases kcl_12 hc6 ekp kp4 with rfl | rfl | rfl
  · refine lv_topi (fun x11 e12 => ?_)
    obtain rfl : x11 = 6 := e12.trans ekp
    refine lv_bipush (v := 6) hx hb dX12_lookSet_13 (by decide) ?_
    refine lv_icmp_ne (tgt := 27) hx hb dX12_lookSet_15 (by decide) (fun c13 => absurd c13 (by decide)) (fun c13 => ?_)
    refine lv_aload_n hx hb dX12_lookSet_18 rfl (lv_at hl 1 rfl) ?_
    refine lv_iload_n hx hb dX12_lookSet_19 rfl (lv_at hl 0 rfl) ?_
    refine lv_iconst (v := 0) hx hb dX12_lookSet_20 (by decide) ?_
    have hP : va_P G.1 pCl (mW G h0 a (upd (upd (upd (upd (upd (upd (upd (upd (upd (upd (upd (upd (upd (upd (upd (upd (upd (upd (upd (upd F 15 (nI fa)) 44 (nI fd)) 49 (nI md)) 73 (nI sc)) 74 (nI k9)) 75 (nI rs)) 76 (nI il)) 77 dn) 78 wt) 79 wf) 80 ab) 81 ac) 15 (nI fa)) 44 (nI fd)) 49 (nI md)) 73 (nI sc)) 74 (nI k9)) 77 dn) 78 wt) 79 wf) (updA (updA (updA (updA (updA B 14 nc) 17 ty) 18 mn) 48 vn) 49 vt)) _ := hP
    have hD : va_D A (mW G h0 a (upd (upd (upd (upd (upd (upd (upd (upd (upd (upd (upd (upd (upd (upd (upd (upd (upd (upd (upd (upd F 15 (nI fa)) 44 (nI fd)) 49 (nI md)) 73 (nI sc)) 74 (nI k9)) 75 (nI rs)) 76 (nI il)) 77 dn) 78 wt) 79 wf) 80 ab) 81 ac) 15 (nI fa)) 44 (nI fd)) 49 (nI md)) 73 (nI sc)) 74 (nI k9)) 77 dn) 78 wt) 79 wf) (updA (updA (updA (updA (updA B 14 nc) 17 ty) 18 mn) 48 vn) 49 vt)) := mW_D hD
    refine pc_V0 (G := G) (As := [.int (nI c1), .int (nI 0)]) (rest := []) hx hb hml hown hq hE hX pX0_al hP hD hS hA hl.1 (L_named l G h0 a (upd (upd (upd (upd (upd (upd (upd (upd (upd (upd (upd (upd F 15 (nI fa)) 44 (nI fd)) 49 (nI md)) 73 (nI sc)) 74 (nI k9)) 75 (nI rs)) 76 (nI il)) 77 dn) 78 wt) 79 wf) 80 ab) 81 ac) B c1 (z9 - 1) fa sc k9 nd T nm wr lz dc fd md pr bk gh dn wt wf nc ty mn vn vt 0 hst hnm h3 (by omega) (by omega) (by omega) hk9 hnc hmn hvt ekp (by omega)) (gV pw_1835 pw_1836 pw_1837 pw_1523 pw_1814) hV_X12_named 0 9 rfl rfl rfl rfl (Nat.le_of_ble_eq_true rfl) dX12_lookSet_21 ⟨Nat.le_of_ble_eq_true rfl, Nat.le_of_ble_eq_true rfl⟩ ⟨(by show (4 * (z9 - 1) + 9) + 1 ≤ (4 * z9 + 13); omega), (by show 8 + (5 + 11) + (160 * (z9 - 1) + 1360) ≤ (160 * z9 + 1660); omega)⟩ (fun v16 u14 H locs hw15 hP hD hS => ?_)
    obtain ⟨r17, fa18, pl19, dn20, wt21, wf22, ty23, mn24⟩ := u14
    obtain ⟨hw15, h25, h26, h27, h28, h29, h30, h31⟩ := hw15
    replace h25 : fa ≤ fa18 := h25
    replace h26 : fa18 ≤ 15 := h26
    replace h27 : TyC dc r17 := h27
    replace h28 : r17 ≤ 2050 := h28
    replace h29 : ChE B nd c1 ty ty23 mn mn24 := h29
    replace h30 : mnN B nd mn24 := h30
    replace h31 : If (fa18 = 0) (LTE B dc fd md nd ty23 mn24 vt sc k9 c1 (nI r17) ∧ ty23 = ty) := h31
    obtain rfl : v16 = some (.int (nI r17)) := hw15
    have hP : va_P G.1 pCl (mW G h0 a (upd (upd (upd (upd (upd (upd (upd (upd (upd (upd (upd (upd (upd F 15 (nI fa18)) 16 pl19) 44 (nI fd)) 49 (nI md)) 73 (nI sc)) 74 (nI k9)) 75 (nI rs)) 76 (nI il)) 77 dn20) 78 wt21) 79 wf22) 80 ab) 81 ac) (updA (updA (updA (updA (updA B 14 nc) 17 ty23) 18 mn24) 48 vn) 49 vt)) _ := mW_to (F := F) (l1 := [(15, (nI fa)), (44, (nI fd)), (49, (nI md)), (73, (nI sc)), (74, (nI k9)), (75, (nI rs)), (76, (nI il)), (77, dn), (78, wt), (79, wf), (80, ab), (81, ac), (15, (nI fa18)), (16, pl19), (44, (nI fd)), (49, (nI md)), (73, (nI sc)), (74, (nI k9)), (77, dn20), (78, wt21), (79, wf22)]) (l2 := [(15, (nI fa18)), (16, pl19), (44, (nI fd)), (49, (nI md)), (73, (nI sc)), (74, (nI k9)), (75, (nI rs)), (76, (nI il)), (77, dn20), (78, wt21), (79, wf22), (80, ab), (81, ac)]) (V := [(nI fa18), (nI fd), (nI md), (nI sc), (nI k9), (nI rs), (nI il), dn20, wt21, wf22, ab, ac, (nI fa18), pl19, (nI fd), (nI md), (nI sc), (nI k9), dn20, wt21, wf22, (nI fa18), pl19, (nI fd), (nI md), (nI sc), (nI k9), (nI rs), (nI il), dn20, wt21, wf22, ab, ac]) rfl rfl rfl hP
    have hD : va_D A (mW G h0 a (upd (upd (upd (upd (upd (upd (upd (upd (upd (upd (upd (upd (upd F 15 (nI fa18)) 16 pl19) 44 (nI fd)) 49 (nI md)) 73 (nI sc)) 74 (nI k9)) 75 (nI rs)) 76 (nI il)) 77 dn20) 78 wt21) 79 wf22) 80 ab) 81 ac) (updA (updA (updA (updA (updA B 14 nc) 17 ty23) 18 mn24) 48 vn) 49 vt)) := mW_D hD
    refine W.widen (k := 0) (n := 0) (Nat.le_of_ble_eq_true rfl) (Nat.le_of_ble_eq_true rfl) ?_
    refine W.eq (g2 := F0 m 24 ls [.int (nI r17)]) rfl ?_
    have hch32 : ChS B nd n9 ty ty23 mn mn24 nc nc := (ChS.trans ChS.rfl (ChS.kid (ChS.ofE (nc := nc) h29) (by omega) hp4))
    refine lv_goto (tgt := 51) hx hb dX12_lookSet_24 (by decide) ?_
    refine lv_istore_n (lv' := [(3, .int (nI r17)), (2, .int (nI c1)), (0, .ref h0), (1, .int (nI n9))]) hx hb dX12_lookSet_51 rfl hl (by decide) rfl (fun ls hl => ?_)
    refine lv_aload_n hx hb dX12_lookSet_52 rfl (lv_at hl 2 rfl) ?_
    refine r_get (v := .ref (a 17)) hx hb hown hq hE hP 25 62 tFX12_25 (by decide) pw_1447 rfl dX12_lookSet_53 ?_
    refine lv_iload_n hx hb dX12_lookSet_56 rfl (lv_at hl 1 rfl) ?_
    refine lv_iload_n hx hb dX12_lookSet_57 rfl (lv_at hl 0 rfl) ?_
    refine r_sti (f := ty23) (j := c1) hx hb hE hP hD hS 17 (ma_17 G a _) rfl (mas_17 G a _) (by omega) (by decide) dX12_lookSet_58 (fun H locs hP hD hS => ?_)
    have hch33 : ChS B nd c1 ty23 (upd ty23 c1 (nI r17)) mn24 mn24 nc nc := (ChS.setT sub.rfl)
    have hch34 : ChS B nd n9 ty (upd ty23 c1 (nI r17)) mn mn24 nc nc := (ChS.trans hch32 (ChS.kid hch33 (by omega) hp4))
    have hsl35 : If (fa18 = 0) (slP B n9 (sc, il, ev) (fun c e9 => TyS B dc fd md nd (upd ty23 c1 (nI r17)) mn24 nc k9 rs c e9) 32 1) := (fun e => slP.one (by decide) (by omega) e2 (TyS.ofTyp (e := (sc, il, ev)) hF (by omega) h3 (kcl12_1 hc6) (Typ0.st hF (by omega) h3 ((fun e => Typ0.of (kids0 (kk := 6) ekp (by decide) (by decide)) (h31 e).1) e)) hve))
    have ht36 : (upd ty23 c1 (nI r17)) c1 = nI r17 := upd_eq
    refine lv_aload_n hx hb dX12_lookSet_59 rfl (lv_at hl 2 rfl) ?_
    refine r_get (v := .int (nI fa18)) hx hb hown hq hE hP 15 350 tFX12_15 (by decide) pw_1594 rfl dX12_lookSet_60 ?_
    refine lv_if_le (tgt := 67) hx hb dX12_lookSet_63 (by decide) (fun c37 => ?_) (fun c37 => ?_)
    · have n38 : fa18 ≤ 0 := (nI_leI (a := fa18) (b := 0) (by omega) (by omega)).mp c37
      refine lv_aload_n hx hb dX12_lookSet_67 rfl (lv_at hl 2 rfl) ?_
      refine lv_aload_n hx hb dX12_lookSet_68 rfl (lv_at hl 2 rfl) ?_
      refine r_get (v := .ref (a 13)) hx hb hown hq hE hP 21 50 tFX12_21 (by decide) pw_1443 rfl dX12_lookSet_69 ?_
      refine lv_iload_n hx hb dX12_lookSet_72 rfl (lv_at hl 3 rfl) ?_
      refine r_ldi (f := (B 13)) (j := n9) hx hb hE hP 13 (ma_13 G a _) rfl (by omega) (by decide) dX12_lookSet_73 ?_
      obtain ⟨c39, e40, h41, hp42, h43, hc44, hh45, hg46⟩ := Fs2.kid (kk := 32) (s := 2) hF hn9 hkd (by decide) (by decide) (by decide) (by decide) (by omega)
      refine lv_topi (fun x47 e48 => ?_)
      obtain rfl : x47 = nI c39 := e48.trans e40
      have hP : va_P G.1 pCl (mW G h0 a (upd (upd (upd (upd (upd (upd (upd (upd (upd (upd (upd (upd (upd (upd (upd (upd (upd (upd (upd (upd (upd F 15 (nI fa18)) 16 pl19) 44 (nI fd)) 49 (nI md)) 73 (nI sc)) 74 (nI k9)) 75 (nI rs)) 76 (nI il)) 77 dn20) 78 wt21) 79 wf22) 80 ab) 81 ac) 15 (nI fa18)) 44 (nI fd)) 49 (nI md)) 73 (nI sc)) 74 (nI k9)) 77 dn20) 78 wt21) 79 wf22) (updA (updA (updA (updA (updA B 14 nc) 17 (upd ty23 c1 (nI r17))) 18 mn24) 48 vn) 49 vt)) _ := hP
      have hD : va_D A (mW G h0 a (upd (upd (upd (upd (upd (upd (upd (upd (upd (upd (upd (upd (upd (upd (upd (upd (upd (upd (upd (upd (upd F 15 (nI fa18)) 16 pl19) 44 (nI fd)) 49 (nI md)) 73 (nI sc)) 74 (nI k9)) 75 (nI rs)) 76 (nI il)) 77 dn20) 78 wt21) 79 wf22) 80 ab) 81 ac) 15 (nI fa18)) 44 (nI fd)) 49 (nI md)) 73 (nI sc)) 74 (nI k9)) 77 dn20) 78 wt21) 79 wf22) (updA (updA (updA (updA (updA B 14 nc) 17 (upd ty23 c1 (nI r17))) 18 mn24) 48 vn) 49 vt)) := mW_D hD
      refine pc_V0 (G := G) (As := [.int (nI c39)]) (rest := []) hx hb hml hown hq hE hX pX0_al hP hD hS hA hl.1 ((LK_all l G (z9 - 1)).2.1 h0 a (upd (upd (upd (upd (upd (upd (upd (upd (upd (upd (upd (upd (upd F 15 (nI fa18)) 16 pl19) 44 (nI fd)) 49 (nI md)) 73 (nI sc)) 74 (nI k9)) 75 (nI rs)) 76 (nI il)) 77 dn20) 78 wt21) 79 wf22) 80 ab) 81 ac) B c39 fa18 sc k9 nd T nm wr lz dc fd md pr bk gh dn20 wt21 wf22 nc (upd ty23 c1 (nI r17)) mn24 vn vt hst hnm h41 (by omega) (by omega) (by omega) hk9 hnc h30 hvt (show kcl 1 _ = true from hc44)) (gV pw_1822 pw_1823 pw_1824 pw_1523 pw_1830) hV_X12_look 0 9 rfl rfl rfl rfl (Nat.le_of_ble_eq_true rfl) dX12_lookSet_74 ⟨Nat.le_of_ble_eq_true rfl, Nat.le_of_ble_eq_true rfl⟩ ⟨(by show (4 * (z9 - 1) + 11) + 1 ≤ (4 * z9 + 13); omega), (by show 8 + (3 + 11) + (160 * (z9 - 1) + 1440) ≤ (160 * z9 + 1660); omega)⟩ (fun v51 u49 H locs hw50 hP hD hS => ?_)
      obtain ⟨r52, fa53, pl54, dn55, wt56, wf57, ty58, mn59⟩ := u49
      obtain ⟨hw50, h60, h61, h62, h63, h64, h65, h66, h67⟩ := hw50
      replace h60 : fa18 ≤ fa53 := h60
      replace h61 : fa53 ≤ 15 := h61
      replace h62 : TyC dc r52 := h62
      replace h63 : r52 ≤ 2050 := h63
      replace h64 : ChE B nd c39 (upd ty23 c1 (nI r17)) ty58 mn24 mn59 := h64
      replace h65 : mnN B nd mn59 := h65
      replace h66 : If (fa53 = 0) (Typ B dc fd md nd ty58 mn59 vt sc k9 c39) := h66
      replace h67 : ty58 c39 = nI r52 := h67
      obtain rfl : v51 = some (.int (nI r52)) := hw50
      have hP : va_P G.1 pCl (mW G h0 a (upd (upd (upd (upd (upd (upd (upd (upd (upd (upd (upd (upd (upd F 15 (nI fa53)) 16 pl54) 44 (nI fd)) 49 (nI md)) 73 (nI sc)) 74 (nI k9)) 75 (nI rs)) 76 (nI il)) 77 dn55) 78 wt56) 79 wf57) 80 ab) 81 ac) (updA (updA (updA (updA (updA B 14 nc) 17 ty58) 18 mn59) 48 vn) 49 vt)) _ := mW_to (F := F) (l1 := [(15, (nI fa18)), (16, pl19), (44, (nI fd)), (49, (nI md)), (73, (nI sc)), (74, (nI k9)), (75, (nI rs)), (76, (nI il)), (77, dn20), (78, wt21), (79, wf22), (80, ab), (81, ac), (15, (nI fa53)), (16, pl54), (44, (nI fd)), (49, (nI md)), (73, (nI sc)), (74, (nI k9)), (77, dn55), (78, wt56), (79, wf57)]) (l2 := [(15, (nI fa53)), (16, pl54), (44, (nI fd)), (49, (nI md)), (73, (nI sc)), (74, (nI k9)), (75, (nI rs)), (76, (nI il)), (77, dn55), (78, wt56), (79, wf57), (80, ab), (81, ac)]) (V := [(nI fa53), pl54, (nI fd), (nI md), (nI sc), (nI k9), (nI rs), (nI il), dn55, wt56, wf57, ab, ac, (nI fa53), pl54, (nI fd), (nI md), (nI sc), (nI k9), dn55, wt56, wf57, (nI fa53), pl54, (nI fd), (nI md), (nI sc), (nI k9), (nI rs), (nI il), dn55, wt56, wf57, ab, ac]) rfl rfl rfl hP
      have hD : va_D A (mW G h0 a (upd (upd (upd (upd (upd (upd (upd (upd (upd (upd (upd (upd (upd F 15 (nI fa53)) 16 pl54) 44 (nI fd)) 49 (nI md)) 73 (nI sc)) 74 (nI k9)) 75 (nI rs)) 76 (nI il)) 77 dn55) 78 wt56) 79 wf57) 80 ab) 81 ac) (updA (updA (updA (updA (updA B 14 nc) 17 ty58) 18 mn59) 48 vn) 49 vt)) := mW_D hD
      refine W.widen (k := 0) (n := 0) (Nat.le_of_ble_eq_true rfl) (Nat.le_of_ble_eq_true rfl) ?_
      refine W.eq (g2 := F0 m 77 ls [.int (nI r52)]) rfl ?_
      have hch68 : ChS B nd n9 ty ty58 mn mn59 nc nc := (ChS.trans hch34 (ChS.kid (ChS.ofE (nc := nc) h64) (by omega) hp42))
      have hsl69 : If (fa18 = 0) (slP B n9 (sc, il, ev) (fun c e9 => TyS B dc fd md nd ty58 mn59 nc k9 rs c e9) 32 1) := (fun e => slP.beside (kk := 32) (s := 1) hF (by omega) hn9 hkd (by decide) (by decide) (by decide) h41 hp42 hg46 (by decide) (ChS.ofE (nc := nc) h64) (hsl35 e))
      have ht70 : ty58 c1 = nI r17 := ((ChS.at hF (by omega) hn9 h3 h41 hp4 hp42 (fun e => by have z := hg8; rw [e] at z; have := hg46; omega) (ChS.ofE (nc := nc) h64)).trans ht36)
      have hsl71 : If (fa53 = 0) (slP B n9 (sc, il, ev) (fun c e9 => TyS B dc fd md nd ty58 mn59 nc k9 rs c e9) 32 2) := (fun e => slP.one (by decide) (by omega) e40 (TyS.ofTyp (nc := nc) (rs := rs) (e := (sc, il, ev)) hF (by omega) h41 (show kcl 1 _ = true from hc44) (h66 e) hve))
      refine lv_istore (lv' := [(4, .int (nI r52)), (3, .int (nI r17)), (2, .int (nI c1)), (0, .ref h0), (1, .int (nI n9))]) hx hb dX12_lookSet_77 hl (by decide) rfl (fun ls hl => ?_)
      refine lv_aload_n hx hb dX12_lookSet_79 rfl (lv_at hl 3 rfl) ?_
      refine lv_aload_n hx hb dX12_lookSet_80 rfl (lv_at hl 3 rfl) ?_
      refine lv_iload hx hb dX12_lookSet_81 (lv_at hl 0 rfl) ?_
      refine lv_iload_n hx hb dX12_lookSet_83 rfl (lv_at hl 1 rfl) ?_
      have hP : va_P G.1 pCl (mW G h0 a (upd (upd (upd (upd (upd (upd (upd (upd (upd (upd (upd (upd (upd F 15 (nI fa53)) 16 pl54) 44 (nI fd)) 49 (nI md)) 73 (nI sc)) 74 (nI k9)) 75 (nI rs)) 76 (nI il)) 77 dn55) 78 wt56) 79 wf57) 80 ab) 81 ac) (updA (updA (updA (updA (updA (updA B 14 nc) 17 ty58) 18 mn59) 48 vn) 49 vt) 31 (B 31))) _ := mW_to (F := F) (l1 := [(15, (nI fa53)), (16, pl54), (44, (nI fd)), (49, (nI md)), (73, (nI sc)), (74, (nI k9)), (75, (nI rs)), (76, (nI il)), (77, dn55), (78, wt56), (79, wf57), (80, ab), (81, ac)]) (l2 := [(15, (nI fa53)), (16, pl54), (44, (nI fd)), (49, (nI md)), (73, (nI sc)), (74, (nI k9)), (75, (nI rs)), (76, (nI il)), (77, dn55), (78, wt56), (79, wf57), (80, ab), (81, ac)]) (V := [(nI fa53), pl54, (nI fd), (nI md), (nI sc), (nI k9), (nI rs), (nI il), dn55, wt56, wf57, ab, ac, (nI fa53), pl54, (nI fd), (nI md), (nI sc), (nI k9), (nI rs), (nI il), dn55, wt56, wf57, ab, ac]) rfl rfl (show (updA (updA (updA (updA (updA B 14 nc) 17 ty58) 18 mn59) 48 vn) 49 vt) = (updA (updA (updA (updA (updA (updA B 14 nc) 17 ty58) 18 mn59) 48 vn) 49 vt) 31 (B 31)) from updsA_eq2 (F := B) (l1 := [(14, nc), (17, ty58), (18, mn59), (48, vn), (49, vt)]) (l2 := [(14, nc), (17, ty58), (18, mn59), (48, vn), (49, vt), (31, (B 31))]) (V := [nc, ty58, mn59, vn, vt, nc, ty58, mn59, vn, vt, (B 31)]) rfl rfl) hP
      have hD : va_D A (mW G h0 a (upd (upd (upd (upd (upd (upd (upd (upd (upd (upd (upd (upd (upd F 15 (nI fa53)) 16 pl54) 44 (nI fd)) 49 (nI md)) 73 (nI sc)) 74 (nI k9)) 75 (nI rs)) 76 (nI il)) 77 dn55) 78 wt56) 79 wf57) 80 ab) 81 ac) (updA (updA (updA (updA (updA (updA B 14 nc) 17 ty58) 18 mn59) 48 vn) 49 vt) 31 (B 31))) := mW_D hD
      refine pc_V0 (G := G) (As := [.int (nI r52), .int (nI r17)]) (rest := [.ref h0]) hx hb hml hown hq hE hX pX0_al hP hD hS hA hl.1 (R_fits l G h0 a (upd (upd (upd (upd (upd (upd (upd (upd (upd (upd (upd (upd (upd F 15 (nI fa53)) 16 pl54) 44 (nI fd)) 49 (nI md)) 73 (nI sc)) 74 (nI k9)) 75 (nI rs)) 76 (nI il)) 77 dn55) 78 wt56) 79 wf57) 80 ab) 81 ac) (updA (updA (updA (updA (updA B 14 nc) 17 ty58) 18 mn59) 48 vn) 49 vt) r52 r17 dc (B 31) h62 h27 (by omega) hBI) (gV pw_1790 pw_1791 pw_1792 pw_1523 pw_1782) hV_X12_fits 0 9 rfl rfl rfl rfl (Nat.le_of_ble_eq_true rfl) dX12_lookSet_84 ⟨Nat.le_of_ble_eq_true rfl, Nat.le_of_ble_eq_true rfl⟩ ⟨(by show 4 + 1 ≤ (4 * z9 + 13); omega), (by show 8 + (3 + 11) + 104 ≤ (160 * z9 + 1660); omega)⟩ (fun v74 u72 H locs hw73 hP hD hS => ?_)
      obtain rfl : v74 = some (.int (fitF (B 31) r52 r17)) := hw73
      have hP : va_P G.1 pCl (mW G h0 a (upd (upd (upd (upd (upd (upd (upd (upd (upd (upd (upd (upd (upd F 15 (nI fa53)) 16 pl54) 44 (nI fd)) 49 (nI md)) 73 (nI sc)) 74 (nI k9)) 75 (nI rs)) 76 (nI il)) 77 dn55) 78 wt56) 79 wf57) 80 ab) 81 ac) (updA (updA (updA (updA (updA B 14 nc) 17 ty58) 18 mn59) 48 vn) 49 vt)) _ := mW_to (F := F) (l1 := [(15, (nI fa53)), (16, pl54), (44, (nI fd)), (49, (nI md)), (73, (nI sc)), (74, (nI k9)), (75, (nI rs)), (76, (nI il)), (77, dn55), (78, wt56), (79, wf57), (80, ab), (81, ac)]) (l2 := [(15, (nI fa53)), (16, pl54), (44, (nI fd)), (49, (nI md)), (73, (nI sc)), (74, (nI k9)), (75, (nI rs)), (76, (nI il)), (77, dn55), (78, wt56), (79, wf57), (80, ab), (81, ac)]) (V := [(nI fa53), pl54, (nI fd), (nI md), (nI sc), (nI k9), (nI rs), (nI il), dn55, wt56, wf57, ab, ac, (nI fa53), pl54, (nI fd), (nI md), (nI sc), (nI k9), (nI rs), (nI il), dn55, wt56, wf57, ab, ac]) rfl rfl (show (updA (updA (updA (updA (updA (updA B 14 nc) 17 ty58) 18 mn59) 48 vn) 49 vt) 31 (B 31)) = (updA (updA (updA (updA (updA B 14 nc) 17 ty58) 18 mn59) 48 vn) 49 vt) from updsA_eq2 (F := B) (l1 := [(14, nc), (17, ty58), (18, mn59), (48, vn), (49, vt), (31, (B 31))]) (l2 := [(14, nc), (17, ty58), (18, mn59), (48, vn), (49, vt)]) (V := [nc, ty58, mn59, vn, vt, (B 31), nc, ty58, mn59, vn, vt]) rfl rfl) hP
      have hD : va_D A (mW G h0 a (upd (upd (upd (upd (upd (upd (upd (upd (upd (upd (upd (upd (upd F 15 (nI fa53)) 16 pl54) 44 (nI fd)) 49 (nI md)) 73 (nI sc)) 74 (nI k9)) 75 (nI rs)) 76 (nI il)) 77 dn55) 78 wt56) 79 wf57) 80 ab) 81 ac) (updA (updA (updA (updA (updA B 14 nc) 17 ty58) 18 mn59) 48 vn) 49 vt)) := mW_D hD
      refine W.widen (k := 0) (n := 0) (Nat.le_of_ble_eq_true rfl) (Nat.le_of_ble_eq_true rfl) ?_
      refine W.eq (g2 := F0 m 87 ls [.int (fitF (B 31) r52 r17), .ref h0]) rfl ?_
      obtain ⟨b75, e76, h77⟩ : ∃ b : Nat, fitF (B 31) r52 r17 = nI b ∧ b ≤ 1 := by rcases fit_bit (da := B 31) hBI (show r52 ≤ 2050 by omega) (show r17 ≤ 2050 by omega) (TyC.rg h62 (by omega)) (TyC.rg h27 (by omega)) with z | z; exact ⟨0, z, by omega⟩; exact ⟨1, z, by omega⟩
      refine lv_topi (fun x78 e79 => ?_)
      obtain rfl : x78 = nI b75 := e79.trans e76
      refine lv_bipush (v := 11) hx hb dX12_lookSet_87 (by decide) ?_
      refine lv_aload_n hx hb dX12_lookSet_89 rfl (lv_at hl 3 rfl) ?_
      refine r_get (v := .ref (a 10)) hx hb hown hq hE hP 18 41 tFX12_18 (by decide) pw_1440 rfl dX12_lookSet_90 ?_
      refine lv_aload_n hx hb dX12_lookSet_93 rfl (lv_at hl 3 rfl) ?_
      refine r_get (v := .ref (a 13)) hx hb hown hq hE hP 21 50 tFX12_21 (by decide) pw_1443 rfl dX12_lookSet_94 ?_
      refine lv_iload_n hx hb dX12_lookSet_97 rfl (lv_at hl 4 rfl) ?_
      refine r_ldi (f := (B 13)) (j := n9) hx hb hE hP 13 (ma_13 G a _) rfl (by omega) (by decide) dX12_lookSet_98 ?_
      refine lv_topi (fun x80 e81 => ?_)
      obtain rfl : x80 = nI c39 := e81.trans e40
      refine r_ldi (f := (B 10)) (j := c39) hx hb hE hP 10 (ma_10 G a _) rfl (by omega) (by decide) dX12_lookSet_99 ?_
      obtain ⟨⟨t82, e83, h84⟩, -⟩ := hF c39 h41
      refine lv_topi (fun x85 e86 => ?_)
      obtain rfl : x85 = nI t82 := e86.trans e83
      have hP : va_P G.1 pCl (mW G h0 a (upd (upd (upd (upd (upd (upd (upd (upd (upd (upd (upd (upd (upd (upd F 15 (nI fa53)) 16 pl54) 44 (nI fd)) 49 (nI md)) 73 (nI sc)) 74 (nI k9)) 75 (nI rs)) 76 (nI il)) 77 dn55) 78 wt56) 79 wf57) 80 ab) 81 ac) 15 (nI fa53)) (updA (updA (updA (updA (updA B 14 nc) 17 ty58) 18 mn59) 48 vn) 49 vt)) _ := mW_to (F := F) (l1 := [(15, (nI fa53)), (16, pl54), (44, (nI fd)), (49, (nI md)), (73, (nI sc)), (74, (nI k9)), (75, (nI rs)), (76, (nI il)), (77, dn55), (78, wt56), (79, wf57), (80, ab), (81, ac)]) (l2 := [(15, (nI fa53)), (16, pl54), (44, (nI fd)), (49, (nI md)), (73, (nI sc)), (74, (nI k9)), (75, (nI rs)), (76, (nI il)), (77, dn55), (78, wt56), (79, wf57), (80, ab), (81, ac), (15, (nI fa53))]) (V := [(nI fa53), pl54, (nI fd), (nI md), (nI sc), (nI k9), (nI rs), (nI il), dn55, wt56, wf57, ab, ac, (nI fa53), pl54, (nI fd), (nI md), (nI sc), (nI k9), (nI rs), (nI il), dn55, wt56, wf57, ab, ac, (nI fa53)]) rfl rfl rfl hP
      have hD : va_D A (mW G h0 a (upd (upd (upd (upd (upd (upd (upd (upd (upd (upd (upd (upd (upd (upd F 15 (nI fa53)) 16 pl54) 44 (nI fd)) 49 (nI md)) 73 (nI sc)) 74 (nI k9)) 75 (nI rs)) 76 (nI il)) 77 dn55) 78 wt56) 79 wf57) 80 ab) 81 ac) 15 (nI fa53)) (updA (updA (updA (updA (updA B 14 nc) 17 ty58) 18 mn59) 48 vn) 49 vt)) := mW_D hD
      refine pc_V0 (G := G) (As := [.int (nI b75), .int (nI 11), .int (nI t82)]) (rest := []) hx hb hml hown hq hE hX pX0_al hP hD hS hA hl.1 (R_judgeL l G h0 a (upd (upd (upd (upd (upd (upd (upd (upd (upd (upd (upd (upd (upd F 15 (nI fa53)) 16 pl54) 44 (nI fd)) 49 (nI md)) 73 (nI sc)) 74 (nI k9)) 75 (nI rs)) 76 (nI il)) 77 dn55) 78 wt56) 79 wf57) 80 ab) 81 ac) (updA (updA (updA (updA (updA B 14 nc) 17 ty58) 18 mn59) 48 vn) 49 vt) b75 11 t82 fa53 (by omega) (by omega) (by omega) (by omega)) (gV pw_1798 pw_1799 pw_1800 pw_1523 pw_1793) hV_X12_judge 0 9 rfl rfl rfl rfl (Nat.le_of_ble_eq_true rfl) dX12_lookSet_100 ⟨Nat.le_of_ble_eq_true rfl, Nat.le_of_ble_eq_true rfl⟩ ⟨(by show 3 + 1 ≤ (4 * z9 + 13); omega), (by show 8 + (4 + 11) + 82 ≤ (160 * z9 + 1660); omega)⟩ (fun v89 u87 H locs hw88 hP hD hS => ?_)
      obtain ⟨r90, fa91, pl92⟩ := u87
      obtain ⟨hw88, h93, h94, h95, h96, h97, h98, h99⟩ := hw88
      replace h93 : r90 ≤ 1 := h93
      replace h94 : fa53 ≤ fa91 := h94
      replace h95 : fa91 ≤ 15 := h95
      replace h96 : fa91 + 15 * r90 ≤ 15 := h96
      replace h97 : 1 ≤ r90 + fa91 := h97
      replace h98 : 1 ≤ b75 + fa91 := h98
      replace h99 : fa91 ≤ fa53 + 15 * (1 - b75) := h99
      obtain rfl : v89 = some (.int (nI r90)) := hw88
      have hP : va_P G.1 pCl (mW G h0 a (upd (upd (upd (upd (upd (upd (upd (upd (upd (upd (upd (upd (upd F 15 (nI fa91)) 16 pl92) 44 (nI fd)) 49 (nI md)) 73 (nI sc)) 74 (nI k9)) 75 (nI rs)) 76 (nI il)) 77 dn55) 78 wt56) 79 wf57) 80 ab) 81 ac) (updA (updA (updA (updA (updA B 14 nc) 17 ty58) 18 mn59) 48 vn) 49 vt)) _ := mW_to (F := F) (l1 := [(15, (nI fa53)), (16, pl54), (44, (nI fd)), (49, (nI md)), (73, (nI sc)), (74, (nI k9)), (75, (nI rs)), (76, (nI il)), (77, dn55), (78, wt56), (79, wf57), (80, ab), (81, ac), (15, (nI fa91)), (16, pl92)]) (l2 := [(15, (nI fa91)), (16, pl92), (44, (nI fd)), (49, (nI md)), (73, (nI sc)), (74, (nI k9)), (75, (nI rs)), (76, (nI il)), (77, dn55), (78, wt56), (79, wf57), (80, ab), (81, ac)]) (V := [(nI fa91), pl92, (nI fd), (nI md), (nI sc), (nI k9), (nI rs), (nI il), dn55, wt56, wf57, ab, ac, (nI fa91), pl92, (nI fa91), pl92, (nI fd), (nI md), (nI sc), (nI k9), (nI rs), (nI il), dn55, wt56, wf57, ab, ac]) rfl rfl rfl hP
      have hD : va_D A (mW G h0 a (upd (upd (upd (upd (upd (upd (upd (upd (upd (upd (upd (upd (upd F 15 (nI fa91)) 16 pl92) 44 (nI fd)) 49 (nI md)) 73 (nI sc)) 74 (nI k9)) 75 (nI rs)) 76 (nI il)) 77 dn55) 78 wt56) 79 wf57) 80 ab) 81 ac) (updA (updA (updA (updA (updA B 14 nc) 17 ty58) 18 mn59) 48 vn) 49 vt)) := mW_D hD
      refine W.widen (k := 0) (n := 0) (Nat.le_of_ble_eq_true rfl) (Nat.le_of_ble_eq_true rfl) ?_
      refine W.eq (g2 := F0 m 103 ls [.int (nI r90)]) rfl ?_
      refine lv_pop hx hb dX12_lookSet_103 rfl ?_
      refine lv_aload_n hx hb dX12_lookSet_104 rfl (lv_at hl 3 rfl) ?_
      refine r_get (v := .ref (a 9)) hx hb hown hq hE hP 17 38 tFX12_17 (by decide) pw_1439 rfl dX12_lookSet_105 ?_
      refine lv_iload_n hx hb dX12_lookSet_108 rfl (lv_at hl 2 rfl) ?_
      refine r_ldi (f := (B 9)) (j := c1) hx hb hE hP 9 (ma_9 G a _) rfl (by omega) (by decide) dX12_lookSet_109 ?_
      refine lv_topi (fun x100 e101 => ?_)
      obtain rfl : x100 = 6 := e101.trans ekp
      refine lv_bipush (v := 6) hx hb dX12_lookSet_110 (by decide) ?_
      refine lv_icmp_ne (tgt := 141) hx hb dX12_lookSet_112 (by decide) (fun c102 => absurd c102 (by decide)) (fun c102 => ?_)
      refine lv_aload_n hx hb dX12_lookSet_115 rfl (lv_at hl 3 rfl) ?_
      refine r_get (v := .ref (a 18)) hx hb hown hq hE hP 26 65 tFX12_26 (by decide) pw_1448 rfl dX12_lookSet_116 ?_
      refine lv_iload_n hx hb dX12_lookSet_119 rfl (lv_at hl 2 rfl) ?_
      refine r_ldi (f := mn59) (j := c1) hx hb hE hP 18 (ma_18 G a _) rfl (by omega) (by decide) dX12_lookSet_120 ?_
      refine lv_if_lt (tgt := 141) hx hb dX12_lookSet_121 (by decide) (fun c103 => ?_) (fun c103 => ?_)
      · have hz104 : fa ≤ fa91 := (by omega)
        have hz105 : fa91 ≤ 15 := (by omega)
        have hz106 : sc ≤ sc := (by omega)
        have hz107 : sc ≤ 30 := (by omega)
        have hz108 : ChS B nd n9 ty ty58 mn mn59 nc nc := hch68
        have hz109 : mnN B nd mn59 := h65
        have hz110 : ∀ i : Nat, i < nd → ¬ (B) 9 i = 44 → nc i = (B) 14 i := hnc
        have hz111 : ∀ i : Nat, i < sc → vt i = vt i := (fun i h => rfl)
        have hz112 : If (fa91 = 0) (TyS B dc fd md nd ty58 mn59 nc k9 rs n9 (sc, il, ev) ∧ sc = (aft B n9 (sc, il, ev)).1 ∧ ∀ i : Nat, i < sc → vt i = (aft B n9 (sc, il, ev)).2.2 i ∧ tyOK dc (vt i)) := (fun e => ⟨TyS.of (steps (kk := 32) hkd (by decide) (hsl69 (by omega)) (hsl71 (by omega)) (slP.no (by decide)) (slP.no (by decide))) (LTX.st hkd (by decide) (by decide) (show LSk B dc ty58 mn59 nc rs n9 (sc, il, ev) 32 from (by show Fit (B 31) (ty58 (chN B 2 n9)) (ty58 (chN B 1 n9)); rw [hh45, hh7, h67, ht70]; exact (Fit.of (e76.trans (by rw [show b75 = 1 by omega]; rfl)) (by omega) (by omega))))), (by rw [(aft_no (by rw [hkd]; decide))]), (fun i h => by rw [(aft_no (by rw [hkd]; decide))]; exact ⟨hve i h, hvt i h⟩)⟩)
        have hP : va_P G.1 pCl (mW G h0 a (upd (upd (upd (upd (upd (upd (upd (upd (upd (upd (upd (upd (upd F 15 (nI fa91)) 16 pl92) 44 (nI fd)) 49 (nI md)) 73 (nI sc)) 74 (nI k9)) 75 (nI rs)) 76 (nI il)) 77 dn55) 78 wt56) 79 wf57) 80 ab) 81 ac) (updA (updA (updA (updA (updA B 14 nc) 17 ty58) 18 mn59) 48 vn) 49 vt)) _ := hP
        have hD : va_D A (mW G h0 a (upd (upd (upd (upd (upd (upd (upd (upd (upd (upd (upd (upd (upd F 15 (nI fa91)) 16 pl92) 44 (nI fd)) 49 (nI md)) 73 (nI sc)) 74 (nI k9)) 75 (nI rs)) 76 (nI il)) 77 dn55) 78 wt56) 79 wf57) 80 ab) 81 ac) (updA (updA (updA (updA (updA B 14 nc) 17 ty58) 18 mn59) 48 vn) 49 vt)) := mW_D hD
        exact W.vret hx hb hr (fun t9 ht9 hW9 => ⟨⟨_, (fa91, sc, pl92, dn55, wt56, wf57, ab, ac, nc, ty58, mn59, vn, vt), rfl, ⟨rfl, hz104, hz105, hz106, hz107, hz108, hz109, hz110, hz111, hz112⟩, by rw [ht9]; exact hP, hD⟩, hS.F ht9⟩) hS.2.2 dX12_lookSet_141
      · refine lv_aload_n hx hb dX12_lookSet_124 rfl (lv_at hl 3 rfl) ?_
        refine lv_dup hx hb dX12_lookSet_125 rfl ?_
        refine r_get (v := .int dn55) hx hb hown hq hE hP 77 544 tFX12_77 (by decide) pw_1796 rfl dX12_lookSet_126 ?_
        refine lv_iconst (v := 1) hx hb dX12_lookSet_129 (by decide) ?_
        refine lv_aload_n hx hb dX12_lookSet_130 rfl (lv_at hl 3 rfl) ?_
        refine r_get (v := .ref (a 18)) hx hb hown hq hE hP 26 65 tFX12_26 (by decide) pw_1448 rfl dX12_lookSet_131 ?_
        refine lv_iload_n hx hb dX12_lookSet_134 rfl (lv_at hl 2 rfl) ?_
        refine r_ldi (f := mn59) (j := c1) hx hb hE hP 18 (ma_18 G a _) rfl (by omega) (by decide) dX12_lookSet_135 ?_
        refine lv_ishl hx hb dX12_lookSet_136 ?_
        refine lv_topi (fun x113 e114 => ?_)
        refine lv_ior hx hb dX12_lookSet_137 ?_
        refine lv_topi (fun x115 e116 => ?_)
        refine r_put (v := x115) (ty := .int) hx hb hown hq hE hP hD hS 77 544 tFX12_77 (by decide) pw_1796 (by decide) rfl rfl (ms_77 a _ _) dX12_lookSet_138 (fun H locs hP hD hS => ?_)
        have hz117 : fa ≤ fa91 := (by omega)
        have hz118 : fa91 ≤ 15 := (by omega)
        have hz119 : sc ≤ sc := (by omega)
        have hz120 : sc ≤ 30 := (by omega)
        have hz121 : ChS B nd n9 ty ty58 mn mn59 nc nc := hch68
        have hz122 : mnN B nd mn59 := h65
        have hz123 : ∀ i : Nat, i < nd → ¬ (B) 9 i = 44 → nc i = (B) 14 i := hnc
        have hz124 : ∀ i : Nat, i < sc → vt i = vt i := (fun i h => rfl)
        have hz125 : If (fa91 = 0) (TyS B dc fd md nd ty58 mn59 nc k9 rs n9 (sc, il, ev) ∧ sc = (aft B n9 (sc, il, ev)).1 ∧ ∀ i : Nat, i < sc → vt i = (aft B n9 (sc, il, ev)).2.2 i ∧ tyOK dc (vt i)) := (fun e => ⟨TyS.of (steps (kk := 32) hkd (by decide) (hsl69 (by omega)) (hsl71 (by omega)) (slP.no (by decide)) (slP.no (by decide))) (LTX.st hkd (by decide) (by decide) (show LSk B dc ty58 mn59 nc rs n9 (sc, il, ev) 32 from (by show Fit (B 31) (ty58 (chN B 2 n9)) (ty58 (chN B 1 n9)); rw [hh45, hh7, h67, ht70]; exact (Fit.of (e76.trans (by rw [show b75 = 1 by omega]; rfl)) (by omega) (by omega))))), (by rw [(aft_no (by rw [hkd]; decide))]), (fun i h => by rw [(aft_no (by rw [hkd]; decide))]; exact ⟨hve i h, hvt i h⟩)⟩)
        have hP : va_P G.1 pCl (mW G h0 a (upd (upd (upd (upd (upd (upd (upd (upd (upd (upd (upd (upd (upd F 15 (nI fa91)) 16 pl92) 44 (nI fd)) 49 (nI md)) 73 (nI sc)) 74 (nI k9)) 75 (nI rs)) 76 (nI il)) 77 x115) 78 wt56) 79 wf57) 80 ab) 81 ac) (updA (updA (updA (updA (updA B 14 nc) 17 ty58) 18 mn59) 48 vn) 49 vt)) _ := mW_to (F := F) (l1 := [(15, (nI fa91)), (16, pl92), (44, (nI fd)), (49, (nI md)), (73, (nI sc)), (74, (nI k9)), (75, (nI rs)), (76, (nI il)), (77, dn55), (78, wt56), (79, wf57), (80, ab), (81, ac), (77, x115)]) (l2 := [(15, (nI fa91)), (16, pl92), (44, (nI fd)), (49, (nI md)), (73, (nI sc)), (74, (nI k9)), (75, (nI rs)), (76, (nI il)), (77, x115), (78, wt56), (79, wf57), (80, ab), (81, ac)]) (V := [(nI fa91), pl92, (nI fd), (nI md), (nI sc), (nI k9), (nI rs), (nI il), x115, wt56, wf57, ab, ac, x115, (nI fa91), pl92, (nI fd), (nI md), (nI sc), (nI k9), (nI rs), (nI il), x115, wt56, wf57, ab, ac]) rfl rfl rfl hP
        have hD : va_D A (mW G h0 a (upd (upd (upd (upd (upd (upd (upd (upd (upd (upd (upd (upd (upd F 15 (nI fa91)) 16 pl92) 44 (nI fd)) 49 (nI md)) 73 (nI sc)) 74 (nI k9)) 75 (nI rs)) 76 (nI il)) 77 x115) 78 wt56) 79 wf57) 80 ab) 81 ac) (updA (updA (updA (updA (updA B 14 nc) 17 ty58) 18 mn59) 48 vn) 49 vt)) := mW_D hD
        exact W.vret hx hb hr (fun t9 ht9 hW9 => ⟨⟨_, (fa91, sc, pl92, x115, wt56, wf57, ab, ac, nc, ty58, mn59, vn, vt), rfl, ⟨rfl, hz117, hz118, hz119, hz120, hz121, hz122, hz123, hz124, hz125⟩, by rw [ht9]; exact hP, hD⟩, hS.F ht9⟩) hS.2.2 dX12_lookSet_141
    · have n126 : ¬ (fa18 ≤ 0) := fun h9 => c37 ((nI_leI (a := fa18) (b := 0) (by omega) (by omega)).mpr h9)
      have hz127 : fa ≤ fa18 := (by omega)
      have hz128 : fa18 ≤ 15 := (by omega)
      have hz129 : sc ≤ sc := (by omega)
      have hz130 : sc ≤ 30 := (by omega)
      have hz131 : ChS B nd n9 ty (upd ty23 c1 (nI r17)) mn mn24 nc nc := hch34
      have hz132 : mnN B nd mn24 := h30
      have hz133 : ∀ i : Nat, i < nd → ¬ (B) 9 i = 44 → nc i = (B) 14 i := hnc
      have hz134 : ∀ i : Nat, i < sc → vt i = vt i := (fun i h => rfl)
      have hz135 : If (fa18 = 0) (TyS B dc fd md nd (upd ty23 c1 (nI r17)) mn24 nc k9 rs n9 (sc, il, ev) ∧ sc = (aft B n9 (sc, il, ev)).1 ∧ ∀ i : Nat, i < sc → vt i = (aft B n9 (sc, il, ev)).2.2 i ∧ tyOK dc (vt i)) := (fun e => absurd e (by omega))
      have hP : va_P G.1 pCl (mW G h0 a (upd (upd (upd (upd (upd (upd (upd (upd (upd (upd (upd (upd (upd F 15 (nI fa18)) 16 pl19) 44 (nI fd)) 49 (nI md)) 73 (nI sc)) 74 (nI k9)) 75 (nI rs)) 76 (nI il)) 77 dn20) 78 wt21) 79 wf22) 80 ab) 81 ac) (updA (updA (updA (updA (updA B 14 nc) 17 (upd ty23 c1 (nI r17))) 18 mn24) 48 vn) 49 vt)) _ := hP
      have hD : va_D A (mW G h0 a (upd (upd (upd (upd (upd (upd (upd (upd (upd (upd (upd (upd (upd F 15 (nI fa18)) 16 pl19) 44 (nI fd)) 49 (nI md)) 73 (nI sc)) 74 (nI k9)) 75 (nI rs)) 76 (nI il)) 77 dn20) 78 wt21) 79 wf22) 80 ab) 81 ac) (updA (updA (updA (updA (updA B 14 nc) 17 (upd ty23 c1 (nI r17))) 18 mn24) 48 vn) 49 vt)) := mW_D hD
      exact W.vret hx hb hr (fun t9 ht9 hW9 => ⟨⟨_, (fa18, sc, pl19, dn20, wt21, wf22, ab, ac, nc, (upd ty23 c1 (nI r17)), mn24, vn, vt), rfl, ⟨rfl, hz127, hz128, hz129, hz130, hz131, hz132, hz133, hz134, hz135⟩, by rw [ht9]; exact hP, hD⟩, hS.F ht9⟩) hS.2.2 dX12_lookSet_66
  · refine lv_topi (fun x136 e137 => ?_)
    obtain rfl : x136 = 12 := e137.trans ekp
    refine lv_bipush (v := 6) hx hb dX12_lookSet_13 (by decide) ?_
    refine lv_icmp_ne (tgt := 27) hx hb dX12_lookSet_15 (by decide) (fun c138 => ?_) (fun c138 => absurd c138 (by decide))
    refine lv_aload_n hx hb dX12_lookSet_27 rfl (lv_at hl 1 rfl) ?_
    refine r_get (v := .ref (a 9)) hx hb hown hq hE hP 17 38 tFX12_17 (by decide) pw_1439 rfl dX12_lookSet_28 ?_
    refine lv_iload_n hx hb dX12_lookSet_31 rfl (lv_at hl 0 rfl) ?_
    refine r_ldi (f := (B 9)) (j := c1) hx hb hE hP 9 (ma_9 G a _) rfl (by omega) (by decide) dX12_lookSet_32 ?_
    refine lv_topi (fun x139 e140 => ?_)
    obtain rfl : x139 = 12 := e140.trans ekp
    refine lv_bipush (v := 12) hx hb dX12_lookSet_33 (by decide) ?_
    refine lv_icmp_ne (tgt := 46) hx hb dX12_lookSet_35 (by decide) (fun c141 => absurd c141 (by decide)) (fun c141 => ?_)
    refine lv_aload_n hx hb dX12_lookSet_38 rfl (lv_at hl 1 rfl) ?_
    refine lv_iload_n hx hb dX12_lookSet_39 rfl (lv_at hl 0 rfl) ?_
    have hP : va_P G.1 pCl (mW G h0 a (upd (upd (upd (upd (upd (upd (upd (upd (upd (upd (upd (upd (upd (upd (upd (upd (upd (upd (upd (upd F 15 (nI fa)) 44 (nI fd)) 49 (nI md)) 73 (nI sc)) 74 (nI k9)) 75 (nI rs)) 76 (nI il)) 77 dn) 78 wt) 79 wf) 80 ab) 81 ac) 15 (nI fa)) 44 (nI fd)) 49 (nI md)) 73 (nI sc)) 74 (nI k9)) 77 dn) 78 wt) 79 wf) (updA (updA (updA (updA (updA B 14 nc) 17 ty) 18 mn) 48 vn) 49 vt)) _ := hP
    have hD : va_D A (mW G h0 a (upd (upd (upd (upd (upd (upd (upd (upd (upd (upd (upd (upd (upd (upd (upd (upd (upd (upd (upd (upd F 15 (nI fa)) 44 (nI fd)) 49 (nI md)) 73 (nI sc)) 74 (nI k9)) 75 (nI rs)) 76 (nI il)) 77 dn) 78 wt) 79 wf) 80 ab) 81 ac) 15 (nI fa)) 44 (nI fd)) 49 (nI md)) 73 (nI sc)) 74 (nI k9)) 77 dn) 78 wt) 79 wf) (updA (updA (updA (updA (updA B 14 nc) 17 ty) 18 mn) 48 vn) 49 vt)) := mW_D hD
    refine pc_V0 (G := G) (As := [.int (nI c1)]) (rest := []) hx hb hml hown hq hE hX pX0_al hP hD hS hA hl.1 (L_fielded l G h0 a (upd (upd (upd (upd (upd (upd (upd (upd (upd (upd (upd (upd F 15 (nI fa)) 44 (nI fd)) 49 (nI md)) 73 (nI sc)) 74 (nI k9)) 75 (nI rs)) 76 (nI il)) 77 dn) 78 wt) 79 wf) 80 ab) 81 ac) B c1 (z9 - 1) fa sc k9 nd T nm wr lz dc fd md pr bk gh dn wt wf nc ty mn vn vt hst hnm h3 (by omega) (by omega) (by omega) hk9 hnc hmn hvt ekp (LK_all l G ((z9 - 1) - 1)).2.1) (gV pw_1841 pw_1842 pw_1843 pw_1523 pw_1821) hV_X12_fielded 0 9 rfl rfl rfl rfl (Nat.le_of_ble_eq_true rfl) dX12_lookSet_40 ⟨Nat.le_of_ble_eq_true rfl, Nat.le_of_ble_eq_true rfl⟩ ⟨(by show (4 * (z9 - 1) + 9) + 1 ≤ (4 * z9 + 13); omega), (by show 8 + (4 + 11) + (160 * (z9 - 1) + 1360) ≤ (160 * z9 + 1660); omega)⟩ (fun v144 u142 H locs hw143 hP hD hS => ?_)
    obtain ⟨r145, fa146, pl147, dn148, wt149, wf150, ty151, mn152⟩ := u142
    obtain ⟨hw143, h153, h154, h155, h156, h157, h158, h159⟩ := hw143
    replace h153 : fa ≤ fa146 := h153
    replace h154 : fa146 ≤ 15 := h154
    replace h155 : TyC dc r145 := h155
    replace h156 : r145 ≤ 2050 := h156
    replace h157 : ChE B nd c1 ty ty151 mn mn152 := h157
    replace h158 : mnN B nd mn152 := h158
    replace h159 : If (fa146 = 0) (Typ0 B dc fd md nd ty151 mn152 vt sc k9 c1 (nI r145)) := h159
    obtain rfl : v144 = some (.int (nI r145)) := hw143
    have hP : va_P G.1 pCl (mW G h0 a (upd (upd (upd (upd (upd (upd (upd (upd (upd (upd (upd (upd (upd F 15 (nI fa146)) 16 pl147) 44 (nI fd)) 49 (nI md)) 73 (nI sc)) 74 (nI k9)) 75 (nI rs)) 76 (nI il)) 77 dn148) 78 wt149) 79 wf150) 80 ab) 81 ac) (updA (updA (updA (updA (updA B 14 nc) 17 ty151) 18 mn152) 48 vn) 49 vt)) _ := mW_to (F := F) (l1 := [(15, (nI fa)), (44, (nI fd)), (49, (nI md)), (73, (nI sc)), (74, (nI k9)), (75, (nI rs)), (76, (nI il)), (77, dn), (78, wt), (79, wf), (80, ab), (81, ac), (15, (nI fa146)), (16, pl147), (44, (nI fd)), (49, (nI md)), (73, (nI sc)), (74, (nI k9)), (77, dn148), (78, wt149), (79, wf150)]) (l2 := [(15, (nI fa146)), (16, pl147), (44, (nI fd)), (49, (nI md)), (73, (nI sc)), (74, (nI k9)), (75, (nI rs)), (76, (nI il)), (77, dn148), (78, wt149), (79, wf150), (80, ab), (81, ac)]) (V := [(nI fa146), (nI fd), (nI md), (nI sc), (nI k9), (nI rs), (nI il), dn148, wt149, wf150, ab, ac, (nI fa146), pl147, (nI fd), (nI md), (nI sc), (nI k9), dn148, wt149, wf150, (nI fa146), pl147, (nI fd), (nI md), (nI sc), (nI k9), (nI rs), (nI il), dn148, wt149, wf150, ab, ac]) rfl rfl rfl hP
    have hD : va_D A (mW G h0 a (upd (upd (upd (upd (upd (upd (upd (upd (upd (upd (upd (upd (upd F 15 (nI fa146)) 16 pl147) 44 (nI fd)) 49 (nI md)) 73 (nI sc)) 74 (nI k9)) 75 (nI rs)) 76 (nI il)) 77 dn148) 78 wt149) 79 wf150) 80 ab) 81 ac) (updA (updA (updA (updA (updA B 14 nc) 17 ty151) 18 mn152) 48 vn) 49 vt)) := mW_D hD
    refine W.widen (k := 0) (n := 0) (Nat.le_of_ble_eq_true rfl) (Nat.le_of_ble_eq_true rfl) ?_
    refine W.eq (g2 := F0 m 43 ls [.int (nI r145)]) rfl ?_
    have hch160 : ChS B nd n9 ty ty151 mn mn152 nc nc := (ChS.trans ChS.rfl (ChS.kid (ChS.ofE (nc := nc) h157) (by omega) hp4))
    refine lv_goto (tgt := 51) hx hb dX12_lookSet_43 (by decide) ?_
    refine lv_istore_n (lv' := [(3, .int (nI r145)), (2, .int (nI c1)), (0, .ref h0), (1, .int (nI n9))]) hx hb dX12_lookSet_51 rfl hl (by decide) rfl (fun ls hl => ?_)
    refine lv_aload_n hx hb dX12_lookSet_52 rfl (lv_at hl 2 rfl) ?_
    refine r_get (v := .ref (a 17)) hx hb hown hq hE hP 25 62 tFX12_25 (by decide) pw_1447 rfl dX12_lookSet_53 ?_
    refine lv_iload_n hx hb dX12_lookSet_56 rfl (lv_at hl 1 rfl) ?_
    refine lv_iload_n hx hb dX12_lookSet_57 rfl (lv_at hl 0 rfl) ?_
    refine r_sti (f := ty151) (j := c1) hx hb hE hP hD hS 17 (ma_17 G a _) rfl (mas_17 G a _) (by omega) (by decide) dX12_lookSet_58 (fun H locs hP hD hS => ?_)
    have hch161 : ChS B nd c1 ty151 (upd ty151 c1 (nI r145)) mn152 mn152 nc nc := (ChS.setT sub.rfl)
    have hch162 : ChS B nd n9 ty (upd ty151 c1 (nI r145)) mn mn152 nc nc := (ChS.trans hch160 (ChS.kid hch161 (by omega) hp4))
    have hsl163 : If (fa146 = 0) (slP B n9 (sc, il, ev) (fun c e9 => TyS B dc fd md nd (upd ty151 c1 (nI r145)) mn152 nc k9 rs c e9) 32 1) := (fun e => slP.one (by decide) (by omega) e2 (TyS.ofTyp (e := (sc, il, ev)) hF (by omega) h3 (kcl12_1 hc6) (Typ0.st hF (by omega) h3 (h159 e)) hve))
    have ht164 : (upd ty151 c1 (nI r145)) c1 = nI r145 := upd_eq
    refine lv_aload_n hx hb dX12_lookSet_59 rfl (lv_at hl 2 rfl) ?_
    refine r_get (v := .int (nI fa146)) hx hb hown hq hE hP 15 350 tFX12_15 (by decide) pw_1594 rfl dX12_lookSet_60 ?_
    refine lv_if_le (tgt := 67) hx hb dX12_lookSet_63 (by decide) (fun c165 => ?_) (fun c165 => ?_)
    · have n166 : fa146 ≤ 0 := (nI_leI (a := fa146) (b := 0) (by omega) (by omega)).mp c165
      refine lv_aload_n hx hb dX12_lookSet_67 rfl (lv_at hl 2 rfl) ?_
      refine lv_aload_n hx hb dX12_lookSet_68 rfl (lv_at hl 2 rfl) ?_
      refine r_get (v := .ref (a 13)) hx hb hown hq hE hP 21 50 tFX12_21 (by decide) pw_1443 rfl dX12_lookSet_69 ?_
      refine lv_iload_n hx hb dX12_lookSet_72 rfl (lv_at hl 3 rfl) ?_
      refine r_ldi (f := (B 13)) (j := n9) hx hb hE hP 13 (ma_13 G a _) rfl (by omega) (by decide) dX12_lookSet_73 ?_
      obtain ⟨c167, e168, h169, hp170, h171, hc172, hh173, hg174⟩ := Fs2.kid (kk := 32) (s := 2) hF hn9 hkd (by decide) (by decide) (by decide) (by decide) (by omega)
      refine lv_topi (fun x175 e176 => ?_)
      obtain rfl : x175 = nI c167 := e176.trans e168
      have hP : va_P G.1 pCl (mW G h0 a (upd (upd (upd (upd (upd (upd (upd (upd (upd (upd (upd (upd (upd (upd (upd (upd (upd (upd (upd (upd (upd F 15 (nI fa146)) 16 pl147) 44 (nI fd)) 49 (nI md)) 73 (nI sc)) 74 (nI k9)) 75 (nI rs)) 76 (nI il)) 77 dn148) 78 wt149) 79 wf150) 80 ab) 81 ac) 15 (nI fa146)) 44 (nI fd)) 49 (nI md)) 73 (nI sc)) 74 (nI k9)) 77 dn148) 78 wt149) 79 wf150) (updA (updA (updA (updA (updA B 14 nc) 17 (upd ty151 c1 (nI r145))) 18 mn152) 48 vn) 49 vt)) _ := hP
      have hD : va_D A (mW G h0 a (upd (upd (upd (upd (upd (upd (upd (upd (upd (upd (upd (upd (upd (upd (upd (upd (upd (upd (upd (upd (upd F 15 (nI fa146)) 16 pl147) 44 (nI fd)) 49 (nI md)) 73 (nI sc)) 74 (nI k9)) 75 (nI rs)) 76 (nI il)) 77 dn148) 78 wt149) 79 wf150) 80 ab) 81 ac) 15 (nI fa146)) 44 (nI fd)) 49 (nI md)) 73 (nI sc)) 74 (nI k9)) 77 dn148) 78 wt149) 79 wf150) (updA (updA (updA (updA (updA B 14 nc) 17 (upd ty151 c1 (nI r145))) 18 mn152) 48 vn) 49 vt)) := mW_D hD
      refine pc_V0 (G := G) (As := [.int (nI c167)]) (rest := []) hx hb hml hown hq hE hX pX0_al hP hD hS hA hl.1 ((LK_all l G (z9 - 1)).2.1 h0 a (upd (upd (upd (upd (upd (upd (upd (upd (upd (upd (upd (upd (upd F 15 (nI fa146)) 16 pl147) 44 (nI fd)) 49 (nI md)) 73 (nI sc)) 74 (nI k9)) 75 (nI rs)) 76 (nI il)) 77 dn148) 78 wt149) 79 wf150) 80 ab) 81 ac) B c167 fa146 sc k9 nd T nm wr lz dc fd md pr bk gh dn148 wt149 wf150 nc (upd ty151 c1 (nI r145)) mn152 vn vt hst hnm h169 (by omega) (by omega) (by omega) hk9 hnc h158 hvt (show kcl 1 _ = true from hc172)) (gV pw_1822 pw_1823 pw_1824 pw_1523 pw_1830) hV_X12_look 0 9 rfl rfl rfl rfl (Nat.le_of_ble_eq_true rfl) dX12_lookSet_74 ⟨Nat.le_of_ble_eq_true rfl, Nat.le_of_ble_eq_true rfl⟩ ⟨(by show (4 * (z9 - 1) + 11) + 1 ≤ (4 * z9 + 13); omega), (by show 8 + (3 + 11) + (160 * (z9 - 1) + 1440) ≤ (160 * z9 + 1660); omega)⟩ (fun v179 u177 H locs hw178 hP hD hS => ?_)
      obtain ⟨r180, fa181, pl182, dn183, wt184, wf185, ty186, mn187⟩ := u177
      obtain ⟨hw178, h188, h189, h190, h191, h192, h193, h194, h195⟩ := hw178
      replace h188 : fa146 ≤ fa181 := h188
      replace h189 : fa181 ≤ 15 := h189
      replace h190 : TyC dc r180 := h190
      replace h191 : r180 ≤ 2050 := h191
      replace h192 : ChE B nd c167 (upd ty151 c1 (nI r145)) ty186 mn152 mn187 := h192
      replace h193 : mnN B nd mn187 := h193
      replace h194 : If (fa181 = 0) (Typ B dc fd md nd ty186 mn187 vt sc k9 c167) := h194
      replace h195 : ty186 c167 = nI r180 := h195
      obtain rfl : v179 = some (.int (nI r180)) := hw178
      have hP : va_P G.1 pCl (mW G h0 a (upd (upd (upd (upd (upd (upd (upd (upd (upd (upd (upd (upd (upd F 15 (nI fa181)) 16 pl182) 44 (nI fd)) 49 (nI md)) 73 (nI sc)) 74 (nI k9)) 75 (nI rs)) 76 (nI il)) 77 dn183) 78 wt184) 79 wf185) 80 ab) 81 ac) (updA (updA (updA (updA (updA B 14 nc) 17 ty186) 18 mn187) 48 vn) 49 vt)) _ := mW_to (F := F) (l1 := [(15, (nI fa146)), (16, pl147), (44, (nI fd)), (49, (nI md)), (73, (nI sc)), (74, (nI k9)), (75, (nI rs)), (76, (nI il)), (77, dn148), (78, wt149), (79, wf150), (80, ab), (81, ac), (15, (nI fa181)), (16, pl182), (44, (nI fd)), (49, (nI md)), (73, (nI sc)), (74, (nI k9)), (77, dn183), (78, wt184), (79, wf185)]) (l2 := [(15, (nI fa181)), (16, pl182), (44, (nI fd)), (49, (nI md)), (73, (nI sc)), (74, (nI k9)), (75, (nI rs)), (76, (nI il)), (77, dn183), (78, wt184), (79, wf185), (80, ab), (81, ac)]) (V := [(nI fa181), pl182, (nI fd), (nI md), (nI sc), (nI k9), (nI rs), (nI il), dn183, wt184, wf185, ab, ac, (nI fa181), pl182, (nI fd), (nI md), (nI sc), (nI k9), dn183, wt184, wf185, (nI fa181), pl182, (nI fd), (nI md), (nI sc), (nI k9), (nI rs), (nI il), dn183, wt184, wf185, ab, ac]) rfl rfl rfl hP
      have hD : va_D A (mW G h0 a (upd (upd (upd (upd (upd (upd (upd (upd (upd (upd (upd (upd (upd F 15 (nI fa181)) 16 pl182) 44 (nI fd)) 49 (nI md)) 73 (nI sc)) 74 (nI k9)) 75 (nI rs)) 76 (nI il)) 77 dn183) 78 wt184) 79 wf185) 80 ab) 81 ac) (updA (updA (updA (updA (updA B 14 nc) 17 ty186) 18 mn187) 48 vn) 49 vt)) := mW_D hD
      refine W.widen (k := 0) (n := 0) (Nat.le_of_ble_eq_true rfl) (Nat.le_of_ble_eq_true rfl) ?_
      refine W.eq (g2 := F0 m 77 ls [.int (nI r180)]) rfl ?_
      have hch196 : ChS B nd n9 ty ty186 mn mn187 nc nc := (ChS.trans hch162 (ChS.kid (ChS.ofE (nc := nc) h192) (by omega) hp170))
      have hsl197 : If (fa146 = 0) (slP B n9 (sc, il, ev) (fun c e9 => TyS B dc fd md nd ty186 mn187 nc k9 rs c e9) 32 1) := (fun e => slP.beside (kk := 32) (s := 1) hF (by omega) hn9 hkd (by decide) (by decide) (by decide) h169 hp170 hg174 (by decide) (ChS.ofE (nc := nc) h192) (hsl163 e))
      have ht198 : ty186 c1 = nI r145 := ((ChS.at hF (by omega) hn9 h3 h169 hp4 hp170 (fun e => by have z := hg8; rw [e] at z; have := hg174; omega) (ChS.ofE (nc := nc) h192)).trans ht164)
      have hsl199 : If (fa181 = 0) (slP B n9 (sc, il, ev) (fun c e9 => TyS B dc fd md nd ty186 mn187 nc k9 rs c e9) 32 2) := (fun e => slP.one (by decide) (by omega) e168 (TyS.ofTyp (nc := nc) (rs := rs) (e := (sc, il, ev)) hF (by omega) h169 (show kcl 1 _ = true from hc172) (h194 e) hve))
      refine lv_istore (lv' := [(4, .int (nI r180)), (3, .int (nI r145)), (2, .int (nI c1)), (0, .ref h0), (1, .int (nI n9))]) hx hb dX12_lookSet_77 hl (by decide) rfl (fun ls hl => ?_)
      refine lv_aload_n hx hb dX12_lookSet_79 rfl (lv_at hl 3 rfl) ?_
      refine lv_aload_n hx hb dX12_lookSet_80 rfl (lv_at hl 3 rfl) ?_
      refine lv_iload hx hb dX12_lookSet_81 (lv_at hl 0 rfl) ?_
      refine lv_iload_n hx hb dX12_lookSet_83 rfl (lv_at hl 1 rfl) ?_
      have hP : va_P G.1 pCl (mW G h0 a (upd (upd (upd (upd (upd (upd (upd (upd (upd (upd (upd (upd (upd F 15 (nI fa181)) 16 pl182) 44 (nI fd)) 49 (nI md)) 73 (nI sc)) 74 (nI k9)) 75 (nI rs)) 76 (nI il)) 77 dn183) 78 wt184) 79 wf185) 80 ab) 81 ac) (updA (updA (updA (updA (updA (updA B 14 nc) 17 ty186) 18 mn187) 48 vn) 49 vt) 31 (B 31))) _ := mW_to (F := F) (l1 := [(15, (nI fa181)), (16, pl182), (44, (nI fd)), (49, (nI md)), (73, (nI sc)), (74, (nI k9)), (75, (nI rs)), (76, (nI il)), (77, dn183), (78, wt184), (79, wf185), (80, ab), (81, ac)]) (l2 := [(15, (nI fa181)), (16, pl182), (44, (nI fd)), (49, (nI md)), (73, (nI sc)), (74, (nI k9)), (75, (nI rs)), (76, (nI il)), (77, dn183), (78, wt184), (79, wf185), (80, ab), (81, ac)]) (V := [(nI fa181), pl182, (nI fd), (nI md), (nI sc), (nI k9), (nI rs), (nI il), dn183, wt184, wf185, ab, ac, (nI fa181), pl182, (nI fd), (nI md), (nI sc), (nI k9), (nI rs), (nI il), dn183, wt184, wf185, ab, ac]) rfl rfl (show (updA (updA (updA (updA (updA B 14 nc) 17 ty186) 18 mn187) 48 vn) 49 vt) = (updA (updA (updA (updA (updA (updA B 14 nc) 17 ty186) 18 mn187) 48 vn) 49 vt) 31 (B 31)) from updsA_eq2 (F := B) (l1 := [(14, nc), (17, ty186), (18, mn187), (48, vn), (49, vt)]) (l2 := [(14, nc), (17, ty186), (18, mn187), (48, vn), (49, vt), (31, (B 31))]) (V := [nc, ty186, mn187, vn, vt, nc, ty186, mn187, vn, vt, (B 31)]) rfl rfl) hP
      have hD : va_D A (mW G h0 a (upd (upd (upd (upd (upd (upd (upd (upd (upd (upd (upd (upd (upd F 15 (nI fa181)) 16 pl182) 44 (nI fd)) 49 (nI md)) 73 (nI sc)) 74 (nI k9)) 75 (nI rs)) 76 (nI il)) 77 dn183) 78 wt184) 79 wf185) 80 ab) 81 ac) (updA (updA (updA (updA (updA (updA B 14 nc) 17 ty186) 18 mn187) 48 vn) 49 vt) 31 (B 31))) := mW_D hD
      refine pc_V0 (G := G) (As := [.int (nI r180), .int (nI r145)]) (rest := [.ref h0]) hx hb hml hown hq hE hX pX0_al hP hD hS hA hl.1 (R_fits l G h0 a (upd (upd (upd (upd (upd (upd (upd (upd (upd (upd (upd (upd (upd F 15 (nI fa181)) 16 pl182) 44 (nI fd)) 49 (nI md)) 73 (nI sc)) 74 (nI k9)) 75 (nI rs)) 76 (nI il)) 77 dn183) 78 wt184) 79 wf185) 80 ab) 81 ac) (updA (updA (updA (updA (updA B 14 nc) 17 ty186) 18 mn187) 48 vn) 49 vt) r180 r145 dc (B 31) h190 h155 (by omega) hBI) (gV pw_1790 pw_1791 pw_1792 pw_1523 pw_1782) hV_X12_fits 0 9 rfl rfl rfl rfl (Nat.le_of_ble_eq_true rfl) dX12_lookSet_84 ⟨Nat.le_of_ble_eq_true rfl, Nat.le_of_ble_eq_true rfl⟩ ⟨(by show 4 + 1 ≤ (4 * z9 + 13); omega), (by show 8 + (3 + 11) + 104 ≤ (160 * z9 + 1660); omega)⟩ (fun v202 u200 H locs hw201 hP hD hS => ?_)
      obtain rfl : v202 = some (.int (fitF (B 31) r180 r145)) := hw201
      have hP : va_P G.1 pCl (mW G h0 a (upd (upd (upd (upd (upd (upd (upd (upd (upd (upd (upd (upd (upd F 15 (nI fa181)) 16 pl182) 44 (nI fd)) 49 (nI md)) 73 (nI sc)) 74 (nI k9)) 75 (nI rs)) 76 (nI il)) 77 dn183) 78 wt184) 79 wf185) 80 ab) 81 ac) (updA (updA (updA (updA (updA B 14 nc) 17 ty186) 18 mn187) 48 vn) 49 vt)) _ := mW_to (F := F) (l1 := [(15, (nI fa181)), (16, pl182), (44, (nI fd)), (49, (nI md)), (73, (nI sc)), (74, (nI k9)), (75, (nI rs)), (76, (nI il)), (77, dn183), (78, wt184), (79, wf185), (80, ab), (81, ac)]) (l2 := [(15, (nI fa181)), (16, pl182), (44, (nI fd)), (49, (nI md)), (73, (nI sc)), (74, (nI k9)), (75, (nI rs)), (76, (nI il)), (77, dn183), (78, wt184), (79, wf185), (80, ab), (81, ac)]) (V := [(nI fa181), pl182, (nI fd), (nI md), (nI sc), (nI k9), (nI rs), (nI il), dn183, wt184, wf185, ab, ac, (nI fa181), pl182, (nI fd), (nI md), (nI sc), (nI k9), (nI rs), (nI il), dn183, wt184, wf185, ab, ac]) rfl rfl (show (updA (updA (updA (updA (updA (updA B 14 nc) 17 ty186) 18 mn187) 48 vn) 49 vt) 31 (B 31)) = (updA (updA (updA (updA (updA B 14 nc) 17 ty186) 18 mn187) 48 vn) 49 vt) from updsA_eq2 (F := B) (l1 := [(14, nc), (17, ty186), (18, mn187), (48, vn), (49, vt), (31, (B 31))]) (l2 := [(14, nc), (17, ty186), (18, mn187), (48, vn), (49, vt)]) (V := [nc, ty186, mn187, vn, vt, (B 31), nc, ty186, mn187, vn, vt]) rfl rfl) hP
      have hD : va_D A (mW G h0 a (upd (upd (upd (upd (upd (upd (upd (upd (upd (upd (upd (upd (upd F 15 (nI fa181)) 16 pl182) 44 (nI fd)) 49 (nI md)) 73 (nI sc)) 74 (nI k9)) 75 (nI rs)) 76 (nI il)) 77 dn183) 78 wt184) 79 wf185) 80 ab) 81 ac) (updA (updA (updA (updA (updA B 14 nc) 17 ty186) 18 mn187) 48 vn) 49 vt)) := mW_D hD
      refine W.widen (k := 0) (n := 0) (Nat.le_of_ble_eq_true rfl) (Nat.le_of_ble_eq_true rfl) ?_
      refine W.eq (g2 := F0 m 87 ls [.int (fitF (B 31) r180 r145), .ref h0]) rfl ?_
      obtain ⟨b203, e204, h205⟩ : ∃ b : Nat, fitF (B 31) r180 r145 = nI b ∧ b ≤ 1 := by rcases fit_bit (da := B 31) hBI (show r180 ≤ 2050 by omega) (show r145 ≤ 2050 by omega) (TyC.rg h190 (by omega)) (TyC.rg h155 (by omega)) with z | z; exact ⟨0, z, by omega⟩; exact ⟨1, z, by omega⟩
      refine lv_topi (fun x206 e207 => ?_)
      obtain rfl : x206 = nI b203 := e207.trans e204
      refine lv_bipush (v := 11) hx hb dX12_lookSet_87 (by decide) ?_
      refine lv_aload_n hx hb dX12_lookSet_89 rfl (lv_at hl 3 rfl) ?_
      refine r_get (v := .ref (a 10)) hx hb hown hq hE hP 18 41 tFX12_18 (by decide) pw_1440 rfl dX12_lookSet_90 ?_
      refine lv_aload_n hx hb dX12_lookSet_93 rfl (lv_at hl 3 rfl) ?_
      refine r_get (v := .ref (a 13)) hx hb hown hq hE hP 21 50 tFX12_21 (by decide) pw_1443 rfl dX12_lookSet_94 ?_
      refine lv_iload_n hx hb dX12_lookSet_97 rfl (lv_at hl 4 rfl) ?_
      refine r_ldi (f := (B 13)) (j := n9) hx hb hE hP 13 (ma_13 G a _) rfl (by omega) (by decide) dX12_lookSet_98 ?_
      refine lv_topi (fun x208 e209 => ?_)
      obtain rfl : x208 = nI c167 := e209.trans e168
      refine r_ldi (f := (B 10)) (j := c167) hx hb hE hP 10 (ma_10 G a _) rfl (by omega) (by decide) dX12_lookSet_99 ?_
      obtain ⟨⟨t210, e211, h212⟩, -⟩ := hF c167 h169
      refine lv_topi (fun x213 e214 => ?_)
      obtain rfl : x213 = nI t210 := e214.trans e211
      have hP : va_P G.1 pCl (mW G h0 a (upd (upd (upd (upd (upd (upd (upd (upd (upd (upd (upd (upd (upd (upd F 15 (nI fa181)) 16 pl182) 44 (nI fd)) 49 (nI md)) 73 (nI sc)) 74 (nI k9)) 75 (nI rs)) 76 (nI il)) 77 dn183) 78 wt184) 79 wf185) 80 ab) 81 ac) 15 (nI fa181)) (updA (updA (updA (updA (updA B 14 nc) 17 ty186) 18 mn187) 48 vn) 49 vt)) _ := mW_to (F := F) (l1 := [(15, (nI fa181)), (16, pl182), (44, (nI fd)), (49, (nI md)), (73, (nI sc)), (74, (nI k9)), (75, (nI rs)), (76, (nI il)), (77, dn183), (78, wt184), (79, wf185), (80, ab), (81, ac)]) (l2 := [(15, (nI fa181)), (16, pl182), (44, (nI fd)), (49, (nI md)), (73, (nI sc)), (74, (nI k9)), (75, (nI rs)), (76, (nI il)), (77, dn183), (78, wt184), (79, wf185), (80, ab), (81, ac), (15, (nI fa181))]) (V := [(nI fa181), pl182, (nI fd), (nI md), (nI sc), (nI k9), (nI rs), (nI il), dn183, wt184, wf185, ab, ac, (nI fa181), pl182, (nI fd), (nI md), (nI sc), (nI k9), (nI rs), (nI il), dn183, wt184, wf185, ab, ac, (nI fa181)]) rfl rfl rfl hP
      have hD : va_D A (mW G h0 a (upd (upd (upd (upd (upd (upd (upd (upd (upd (upd (upd (upd (upd (upd F 15 (nI fa181)) 16 pl182) 44 (nI fd)) 49 (nI md)) 73 (nI sc)) 74 (nI k9)) 75 (nI rs)) 76 (nI il)) 77 dn183) 78 wt184) 79 wf185) 80 ab) 81 ac) 15 (nI fa181)) (updA (updA (updA (updA (updA B 14 nc) 17 ty186) 18 mn187) 48 vn) 49 vt)) := mW_D hD
      refine pc_V0 (G := G) (As := [.int (nI b203), .int (nI 11), .int (nI t210)]) (rest := []) hx hb hml hown hq hE hX pX0_al hP hD hS hA hl.1 (R_judgeL l G h0 a (upd (upd (upd (upd (upd (upd (upd (upd (upd (upd (upd (upd (upd F 15 (nI fa181)) 16 pl182) 44 (nI fd)) 49 (nI md)) 73 (nI sc)) 74 (nI k9)) 75 (nI rs)) 76 (nI il)) 77 dn183) 78 wt184) 79 wf185) 80 ab) 81 ac) (updA (updA (updA (updA (updA B 14 nc) 17 ty186) 18 mn187) 48 vn) 49 vt) b203 11 t210 fa181 (by omega) (by omega) (by omega) (by omega)) (gV pw_1798 pw_1799 pw_1800 pw_1523 pw_1793) hV_X12_judge 0 9 rfl rfl rfl rfl (Nat.le_of_ble_eq_true rfl) dX12_lookSet_100 ⟨Nat.le_of_ble_eq_true rfl, Nat.le_of_ble_eq_true rfl⟩ ⟨(by show 3 + 1 ≤ (4 * z9 + 13); omega), (by show 8 + (4 + 11) + 82 ≤ (160 * z9 + 1660); omega)⟩ (fun v217 u215 H locs hw216 hP hD hS => ?_)
      obtain ⟨r218, fa219, pl220⟩ := u215
      obtain ⟨hw216, h221, h222, h223, h224, h225, h226, h227⟩ := hw216
      replace h221 : r218 ≤ 1 := h221
      replace h222 : fa181 ≤ fa219 := h222
      replace h223 : fa219 ≤ 15 := h223
      replace h224 : fa219 + 15 * r218 ≤ 15 := h224
      replace h225 : 1 ≤ r218 + fa219 := h225
      replace h226 : 1 ≤ b203 + fa219 := h226
      replace h227 : fa219 ≤ fa181 + 15 * (1 - b203) := h227
      obtain rfl : v217 = some (.int (nI r218)) := hw216
      have hP : va_P G.1 pCl (mW G h0 a (upd (upd (upd (upd (upd (upd (upd (upd (upd (upd (upd (upd (upd F 15 (nI fa219)) 16 pl220) 44 (nI fd)) 49 (nI md)) 73 (nI sc)) 74 (nI k9)) 75 (nI rs)) 76 (nI il)) 77 dn183) 78 wt184) 79 wf185) 80 ab) 81 ac) (updA (updA (updA (updA (updA B 14 nc) 17 ty186) 18 mn187) 48 vn) 49 vt)) _ := mW_to (F := F) (l1 := [(15, (nI fa181)), (16, pl182), (44, (nI fd)), (49, (nI md)), (73, (nI sc)), (74, (nI k9)), (75, (nI rs)), (76, (nI il)), (77, dn183), (78, wt184), (79, wf185), (80, ab), (81, ac), (15, (nI fa219)), (16, pl220)]) (l2 := [(15, (nI fa219)), (16, pl220), (44, (nI fd)), (49, (nI md)), (73, (nI sc)), (74, (nI k9)), (75, (nI rs)), (76, (nI il)), (77, dn183), (78, wt184), (79, wf185), (80, ab), (81, ac)]) (V := [(nI fa219), pl220, (nI fd), (nI md), (nI sc), (nI k9), (nI rs), (nI il), dn183, wt184, wf185, ab, ac, (nI fa219), pl220, (nI fa219), pl220, (nI fd), (nI md), (nI sc), (nI k9), (nI rs), (nI il), dn183, wt184, wf185, ab, ac]) rfl rfl rfl hP
      have hD : va_D A (mW G h0 a (upd (upd (upd (upd (upd (upd (upd (upd (upd (upd (upd (upd (upd F 15 (nI fa219)) 16 pl220) 44 (nI fd)) 49 (nI md)) 73 (nI sc)) 74 (nI k9)) 75 (nI rs)) 76 (nI il)) 77 dn183) 78 wt184) 79 wf185) 80 ab) 81 ac) (updA (updA (updA (updA (updA B 14 nc) 17 ty186) 18 mn187) 48 vn) 49 vt)) := mW_D hD
      refine W.widen (k := 0) (n := 0) (Nat.le_of_ble_eq_true rfl) (Nat.le_of_ble_eq_true rfl) ?_
      refine W.eq (g2 := F0 m 103 ls [.int (nI r218)]) rfl ?_
      refine lv_pop hx hb dX12_lookSet_103 rfl ?_
      refine lv_aload_n hx hb dX12_lookSet_104 rfl (lv_at hl 3 rfl) ?_
      refine r_get (v := .ref (a 9)) hx hb hown hq hE hP 17 38 tFX12_17 (by decide) pw_1439 rfl dX12_lookSet_105 ?_
      refine lv_iload_n hx hb dX12_lookSet_108 rfl (lv_at hl 2 rfl) ?_
      refine r_ldi (f := (B 9)) (j := c1) hx hb hE hP 9 (ma_9 G a _) rfl (by omega) (by decide) dX12_lookSet_109 ?_
      refine lv_topi (fun x228 e229 => ?_)
      obtain rfl : x228 = 12 := e229.trans ekp
      refine lv_bipush (v := 6) hx hb dX12_lookSet_110 (by decide) ?_
      refine lv_icmp_ne (tgt := 141) hx hb dX12_lookSet_112 (by decide) (fun c230 => ?_) (fun c230 => absurd c230 (by decide))
      have hz231 : fa ≤ fa219 := (by omega)
      have hz232 : fa219 ≤ 15 := (by omega)
      have hz233 : sc ≤ sc := (by omega)
      have hz234 : sc ≤ 30 := (by omega)
      have hz235 : ChS B nd n9 ty ty186 mn mn187 nc nc := hch196
      have hz236 : mnN B nd mn187 := h193
      have hz237 : ∀ i : Nat, i < nd → ¬ (B) 9 i = 44 → nc i = (B) 14 i := hnc
      have hz238 : ∀ i : Nat, i < sc → vt i = vt i := (fun i h => rfl)
      have hz239 : If (fa219 = 0) (TyS B dc fd md nd ty186 mn187 nc k9 rs n9 (sc, il, ev) ∧ sc = (aft B n9 (sc, il, ev)).1 ∧ ∀ i : Nat, i < sc → vt i = (aft B n9 (sc, il, ev)).2.2 i ∧ tyOK dc (vt i)) := (fun e => ⟨TyS.of (steps (kk := 32) hkd (by decide) (hsl197 (by omega)) (hsl199 (by omega)) (slP.no (by decide)) (slP.no (by decide))) (LTX.st hkd (by decide) (by decide) (show LSk B dc ty186 mn187 nc rs n9 (sc, il, ev) 32 from (by show Fit (B 31) (ty186 (chN B 2 n9)) (ty186 (chN B 1 n9)); rw [hh173, hh7, h195, ht198]; exact (Fit.of (e204.trans (by rw [show b203 = 1 by omega]; rfl)) (by omega) (by omega))))), (by rw [(aft_no (by rw [hkd]; decide))]), (fun i h => by rw [(aft_no (by rw [hkd]; decide))]; exact ⟨hve i h, hvt i h⟩)⟩)
      have hP : va_P G.1 pCl (mW G h0 a (upd (upd (upd (upd (upd (upd (upd (upd (upd (upd (upd (upd (upd F 15 (nI fa219)) 16 pl220) 44 (nI fd)) 49 (nI md)) 73 (nI sc)) 74 (nI k9)) 75 (nI rs)) 76 (nI il)) 77 dn183) 78 wt184) 79 wf185) 80 ab) 81 ac) (updA (updA (updA (updA (updA B 14 nc) 17 ty186) 18 mn187) 48 vn) 49 vt)) _ := hP
      have hD : va_D A (mW G h0 a (upd (upd (upd (upd (upd (upd (upd (upd (upd (upd (upd (upd (upd F 15 (nI fa219)) 16 pl220) 44 (nI fd)) 49 (nI md)) 73 (nI sc)) 74 (nI k9)) 75 (nI rs)) 76 (nI il)) 77 dn183) 78 wt184) 79 wf185) 80 ab) 81 ac) (updA (updA (updA (updA (updA B 14 nc) 17 ty186) 18 mn187) 48 vn) 49 vt)) := mW_D hD
      exact W.vret hx hb hr (fun t9 ht9 hW9 => ⟨⟨_, (fa219, sc, pl220, dn183, wt184, wf185, ab, ac, nc, ty186, mn187, vn, vt), rfl, ⟨rfl, hz231, hz232, hz233, hz234, hz235, hz236, hz237, hz238, hz239⟩, by rw [ht9]; exact hP, hD⟩, hS.F ht9⟩) hS.2.2 dX12_lookSet_141
    · have n240 : ¬ (fa146 ≤ 0) := fun h9 => c165 ((nI_leI (a := fa146) (b := 0) (by omega) (by omega)).mpr h9)
      have hz241 : fa ≤ fa146 := (by omega)
      have hz242 : fa146 ≤ 15 := (by omega)
      have hz243 : sc ≤ sc := (by omega)
      have hz244 : sc ≤ 30 := (by omega)
      have hz245 : ChS B nd n9 ty (upd ty151 c1 (nI r145)) mn mn152 nc nc := hch162
      have hz246 : mnN B nd mn152 := h158
      have hz247 : ∀ i : Nat, i < nd → ¬ (B) 9 i = 44 → nc i = (B) 14 i := hnc
      have hz248 : ∀ i : Nat, i < sc → vt i = vt i := (fun i h => rfl)
      have hz249 : If (fa146 = 0) (TyS B dc fd md nd (upd ty151 c1 (nI r145)) mn152 nc k9 rs n9 (sc, il, ev) ∧ sc = (aft B n9 (sc, il, ev)).1 ∧ ∀ i : Nat, i < sc → vt i = (aft B n9 (sc, il, ev)).2.2 i ∧ tyOK dc (vt i)) := (fun e => absurd e (by omega))
      have hP : va_P G.1 pCl (mW G h0 a (upd (upd (upd (upd (upd (upd (upd (upd (upd (upd (upd (upd (upd F 15 (nI fa146)) 16 pl147) 44 (nI fd)) 49 (nI md)) 73 (nI sc)) 74 (nI k9)) 75 (nI rs)) 76 (nI il)) 77 dn148) 78 wt149) 79 wf150) 80 ab) 81 ac) (updA (updA (updA (updA (updA B 14 nc) 17 (upd ty151 c1 (nI r145))) 18 mn152) 48 vn) 49 vt)) _ := hP
      have hD : va_D A (mW G h0 a (upd (upd (upd (upd (upd (upd (upd (upd (upd (upd (upd (upd (upd F 15 (nI fa146)) 16 pl147) 44 (nI fd)) 49 (nI md)) 73 (nI sc)) 74 (nI k9)) 75 (nI rs)) 76 (nI il)) 77 dn148) 78 wt149) 79 wf150) 80 ab) 81 ac) (updA (updA (updA (updA (updA B 14 nc) 17 (upd ty151 c1 (nI r145))) 18 mn152) 48 vn) 49 vt)) := mW_D hD
      exact W.vret hx hb hr (fun t9 ht9 hW9 => ⟨⟨_, (fa146, sc, pl147, dn148, wt149, wf150, ab, ac, nc, (upd ty151 c1 (nI r145)), mn152, vn, vt), rfl, ⟨rfl, hz241, hz242, hz243, hz244, hz245, hz246, hz247, hz248, hz249⟩, by rw [ht9]; exact hP, hD⟩, hS.F ht9⟩) hS.2.2 dX12_lookSet_66
  · refine lv_topi (fun x250 e251 => ?_)
    obtain rfl : x250 = 15 := e251.trans ekp
    refine lv_bipush (v := 6) hx hb dX12_lookSet_13 (by decide) ?_
    refine lv_icmp_ne (tgt := 27) hx hb dX12_lookSet_15 (by decide) (fun c252 => ?_) (fun c252 => absurd c252 (by decide))
    refine lv_aload_n hx hb dX12_lookSet_27 rfl (lv_at hl 1 rfl) ?_
    refine r_get (v := .ref (a 9)) hx hb hown hq hE hP 17 38 tFX12_17 (by decide) pw_1439 rfl dX12_lookSet_28 ?_
    refine lv_iload_n hx hb dX12_lookSet_31 rfl (lv_at hl 0 rfl) ?_
    refine r_ldi (f := (B 9)) (j := c1) hx hb hE hP 9 (ma_9 G a _) rfl (by omega) (by decide) dX12_lookSet_32 ?_
    refine lv_topi (fun x253 e254 => ?_)
    obtain rfl : x253 = 15 := e254.trans ekp
    refine lv_bipush (v := 12) hx hb dX12_lookSet_33 (by decide) ?_
    refine lv_icmp_ne (tgt := 46) hx hb dX12_lookSet_35 (by decide) (fun c255 => ?_) (fun c255 => absurd c255 (by decide))
    refine lv_aload_n hx hb dX12_lookSet_46 rfl (lv_at hl 1 rfl) ?_
    refine lv_iload_n hx hb dX12_lookSet_47 rfl (lv_at hl 0 rfl) ?_
    have hP : va_P G.1 pCl (mW G h0 a (upd (upd (upd (upd (upd (upd (upd (upd (upd (upd (upd (upd (upd (upd (upd (upd (upd (upd (upd (upd F 15 (nI fa)) 44 (nI fd)) 49 (nI md)) 73 (nI sc)) 74 (nI k9)) 75 (nI rs)) 76 (nI il)) 77 dn) 78 wt) 79 wf) 80 ab) 81 ac) 15 (nI fa)) 44 (nI fd)) 49 (nI md)) 73 (nI sc)) 74 (nI k9)) 77 dn) 78 wt) 79 wf) (updA (updA (updA (updA (updA B 14 nc) 17 ty) 18 mn) 48 vn) 49 vt)) _ := hP
    have hD : va_D A (mW G h0 a (upd (upd (upd (upd (upd (upd (upd (upd (upd (upd (upd (upd (upd (upd (upd (upd (upd (upd (upd (upd F 15 (nI fa)) 44 (nI fd)) 49 (nI md)) 73 (nI sc)) 74 (nI k9)) 75 (nI rs)) 76 (nI il)) 77 dn) 78 wt) 79 wf) 80 ab) 81 ac) 15 (nI fa)) 44 (nI fd)) 49 (nI md)) 73 (nI sc)) 74 (nI k9)) 77 dn) 78 wt) 79 wf) (updA (updA (updA (updA (updA B 14 nc) 17 ty) 18 mn) 48 vn) 49 vt)) := mW_D hD
    refine pc_V0 (G := G) (As := [.int (nI c1)]) (rest := []) hx hb hml hown hq hE hX pX0_al hP hD hS hA hl.1 (L_indexed l G h0 a (upd (upd (upd (upd (upd (upd (upd (upd (upd (upd (upd (upd F 15 (nI fa)) 44 (nI fd)) 49 (nI md)) 73 (nI sc)) 74 (nI k9)) 75 (nI rs)) 76 (nI il)) 77 dn) 78 wt) 79 wf) 80 ab) 81 ac) B c1 (z9 - 1) fa sc k9 nd T nm wr lz dc fd md pr bk gh dn wt wf nc ty mn vn vt hst hnm h3 (by omega) (by omega) (by omega) hk9 hnc hmn hvt ekp (LK_all l G ((z9 - 1) - 1)).2.1 (LK_all l G ((z9 - 1) - 1)).2.2) (gV pw_1844 pw_1845 pw_1846 pw_1523 pw_1825) hV_X12_indexed 0 9 rfl rfl rfl rfl (Nat.le_of_ble_eq_true rfl) dX12_lookSet_48 ⟨Nat.le_of_ble_eq_true rfl, Nat.le_of_ble_eq_true rfl⟩ ⟨(by show (4 * (z9 - 1) + 9) + 1 ≤ (4 * z9 + 13); omega), (by show 8 + (3 + 11) + (160 * (z9 - 1) + 1360) ≤ (160 * z9 + 1660); omega)⟩ (fun v258 u256 H locs hw257 hP hD hS => ?_)
    obtain ⟨r259, fa260, pl261, dn262, wt263, wf264, ty265, mn266⟩ := u256
    obtain ⟨hw257, h267, h268, h269, h270, h271, h272, h273⟩ := hw257
    replace h267 : fa ≤ fa260 := h267
    replace h268 : fa260 ≤ 15 := h268
    replace h269 : TyC dc r259 := h269
    replace h270 : r259 ≤ 2050 := h270
    replace h271 : ChE B nd c1 ty ty265 mn mn266 := h271
    replace h272 : mnN B nd mn266 := h272
    replace h273 : If (fa260 = 0) (Typ0 B dc fd md nd ty265 mn266 vt sc k9 c1 (nI r259)) := h273
    obtain rfl : v258 = some (.int (nI r259)) := hw257
    have hP : va_P G.1 pCl (mW G h0 a (upd (upd (upd (upd (upd (upd (upd (upd (upd (upd (upd (upd (upd F 15 (nI fa260)) 16 pl261) 44 (nI fd)) 49 (nI md)) 73 (nI sc)) 74 (nI k9)) 75 (nI rs)) 76 (nI il)) 77 dn262) 78 wt263) 79 wf264) 80 ab) 81 ac) (updA (updA (updA (updA (updA B 14 nc) 17 ty265) 18 mn266) 48 vn) 49 vt)) _ := mW_to (F := F) (l1 := [(15, (nI fa)), (44, (nI fd)), (49, (nI md)), (73, (nI sc)), (74, (nI k9)), (75, (nI rs)), (76, (nI il)), (77, dn), (78, wt), (79, wf), (80, ab), (81, ac), (15, (nI fa260)), (16, pl261), (44, (nI fd)), (49, (nI md)), (73, (nI sc)), (74, (nI k9)), (77, dn262), (78, wt263), (79, wf264)]) (l2 := [(15, (nI fa260)), (16, pl261), (44, (nI fd)), (49, (nI md)), (73, (nI sc)), (74, (nI k9)), (75, (nI rs)), (76, (nI il)), (77, dn262), (78, wt263), (79, wf264), (80, ab), (81, ac)]) (V := [(nI fa260), (nI fd), (nI md), (nI sc), (nI k9), (nI rs), (nI il), dn262, wt263, wf264, ab, ac, (nI fa260), pl261, (nI fd), (nI md), (nI sc), (nI k9), dn262, wt263, wf264, (nI fa260), pl261, (nI fd), (nI md), (nI sc), (nI k9), (nI rs), (nI il), dn262, wt263, wf264, ab, ac]) rfl rfl rfl hP
    have hD : va_D A (mW G h0 a (upd (upd (upd (upd (upd (upd (upd (upd (upd (upd (upd (upd (upd F 15 (nI fa260)) 16 pl261) 44 (nI fd)) 49 (nI md)) 73 (nI sc)) 74 (nI k9)) 75 (nI rs)) 76 (nI il)) 77 dn262) 78 wt263) 79 wf264) 80 ab) 81 ac) (updA (updA (updA (updA (updA B 14 nc) 17 ty265) 18 mn266) 48 vn) 49 vt)) := mW_D hD
    refine W.widen (k := 0) (n := 0) (Nat.le_of_ble_eq_true rfl) (Nat.le_of_ble_eq_true rfl) ?_
    refine W.eq (g2 := F0 m 51 ls [.int (nI r259)]) rfl ?_
    have hch274 : ChS B nd n9 ty ty265 mn mn266 nc nc := (ChS.trans ChS.rfl (ChS.kid (ChS.ofE (nc := nc) h271) (by omega) hp4))
    refine lv_istore_n (lv' := [(3, .int (nI r259)), (2, .int (nI c1)), (0, .ref h0), (1, .int (nI n9))]) hx hb dX12_lookSet_51 rfl hl (by decide) rfl (fun ls hl => ?_)
    refine lv_aload_n hx hb dX12_lookSet_52 rfl (lv_at hl 2 rfl) ?_
    refine r_get (v := .ref (a 17)) hx hb hown hq hE hP 25 62 tFX12_25 (by decide) pw_1447 rfl dX12_lookSet_53 ?_
    refine lv_iload_n hx hb dX12_lookSet_56 rfl (lv_at hl 1 rfl) ?_
    refine lv_iload_n hx hb dX12_lookSet_57 rfl (lv_at hl 0 rfl) ?_
    refine r_sti (f := ty265) (j := c1) hx hb hE hP hD hS 17 (ma_17 G a _) rfl (mas_17 G a _) (by omega) (by decide) dX12_lookSet_58 (fun H locs hP hD hS => ?_)
    have hch275 : ChS B nd c1 ty265 (upd ty265 c1 (nI r259)) mn266 mn266 nc nc := (ChS.setT sub.rfl)
    have hch276 : ChS B nd n9 ty (upd ty265 c1 (nI r259)) mn mn266 nc nc := (ChS.trans hch274 (ChS.kid hch275 (by omega) hp4))
    have hsl277 : If (fa260 = 0) (slP B n9 (sc, il, ev) (fun c e9 => TyS B dc fd md nd (upd ty265 c1 (nI r259)) mn266 nc k9 rs c e9) 32 1) := (fun e => slP.one (by decide) (by omega) e2 (TyS.ofTyp (e := (sc, il, ev)) hF (by omega) h3 (kcl12_1 hc6) (Typ0.st hF (by omega) h3 (h273 e)) hve))
    have ht278 : (upd ty265 c1 (nI r259)) c1 = nI r259 := upd_eq
    refine lv_aload_n hx hb dX12_lookSet_59 rfl (lv_at hl 2 rfl) ?_
    refine r_get (v := .int (nI fa260)) hx hb hown hq hE hP 15 350 tFX12_15 (by decide) pw_1594 rfl dX12_lookSet_60 ?_
    refine lv_if_le (tgt := 67) hx hb dX12_lookSet_63 (by decide) (fun c279 => ?_) (fun c279 => ?_)
    · have n280 : fa260 ≤ 0 := (nI_leI (a := fa260) (b := 0) (by omega) (by omega)).mp c279
      refine lv_aload_n hx hb dX12_lookSet_67 rfl (lv_at hl 2 rfl) ?_
      refine lv_aload_n hx hb dX12_lookSet_68 rfl (lv_at hl 2 rfl) ?_
      refine r_get (v := .ref (a 13)) hx hb hown hq hE hP 21 50 tFX12_21 (by decide) pw_1443 rfl dX12_lookSet_69 ?_
      refine lv_iload_n hx hb dX12_lookSet_72 rfl (lv_at hl 3 rfl) ?_
      refine r_ldi (f := (B 13)) (j := n9) hx hb hE hP 13 (ma_13 G a _) rfl (by omega) (by decide) dX12_lookSet_73 ?_
      obtain ⟨c281, e282, h283, hp284, h285, hc286, hh287, hg288⟩ := Fs2.kid (kk := 32) (s := 2) hF hn9 hkd (by decide) (by decide) (by decide) (by decide) (by omega)
      refine lv_topi (fun x289 e290 => ?_)
      obtain rfl : x289 = nI c281 := e290.trans e282
      have hP : va_P G.1 pCl (mW G h0 a (upd (upd (upd (upd (upd (upd (upd (upd (upd (upd (upd (upd (upd (upd (upd (upd (upd (upd (upd (upd (upd F 15 (nI fa260)) 16 pl261) 44 (nI fd)) 49 (nI md)) 73 (nI sc)) 74 (nI k9)) 75 (nI rs)) 76 (nI il)) 77 dn262) 78 wt263) 79 wf264) 80 ab) 81 ac) 15 (nI fa260)) 44 (nI fd)) 49 (nI md)) 73 (nI sc)) 74 (nI k9)) 77 dn262) 78 wt263) 79 wf264) (updA (updA (updA (updA (updA B 14 nc) 17 (upd ty265 c1 (nI r259))) 18 mn266) 48 vn) 49 vt)) _ := hP
      have hD : va_D A (mW G h0 a (upd (upd (upd (upd (upd (upd (upd (upd (upd (upd (upd (upd (upd (upd (upd (upd (upd (upd (upd (upd (upd F 15 (nI fa260)) 16 pl261) 44 (nI fd)) 49 (nI md)) 73 (nI sc)) 74 (nI k9)) 75 (nI rs)) 76 (nI il)) 77 dn262) 78 wt263) 79 wf264) 80 ab) 81 ac) 15 (nI fa260)) 44 (nI fd)) 49 (nI md)) 73 (nI sc)) 74 (nI k9)) 77 dn262) 78 wt263) 79 wf264) (updA (updA (updA (updA (updA B 14 nc) 17 (upd ty265 c1 (nI r259))) 18 mn266) 48 vn) 49 vt)) := mW_D hD
      refine pc_V0 (G := G) (As := [.int (nI c281)]) (rest := []) hx hb hml hown hq hE hX pX0_al hP hD hS hA hl.1 ((LK_all l G (z9 - 1)).2.1 h0 a (upd (upd (upd (upd (upd (upd (upd (upd (upd (upd (upd (upd (upd F 15 (nI fa260)) 16 pl261) 44 (nI fd)) 49 (nI md)) 73 (nI sc)) 74 (nI k9)) 75 (nI rs)) 76 (nI il)) 77 dn262) 78 wt263) 79 wf264) 80 ab) 81 ac) B c281 fa260 sc k9 nd T nm wr lz dc fd md pr bk gh dn262 wt263 wf264 nc (upd ty265 c1 (nI r259)) mn266 vn vt hst hnm h283 (by omega) (by omega) (by omega) hk9 hnc h272 hvt (show kcl 1 _ = true from hc286)) (gV pw_1822 pw_1823 pw_1824 pw_1523 pw_1830) hV_X12_look 0 9 rfl rfl rfl rfl (Nat.le_of_ble_eq_true rfl) dX12_lookSet_74 ⟨Nat.le_of_ble_eq_true rfl, Nat.le_of_ble_eq_true rfl⟩ ⟨(by show (4 * (z9 - 1) + 11) + 1 ≤ (4 * z9 + 13); omega), (by show 8 + (3 + 11) + (160 * (z9 - 1) + 1440) ≤ (160 * z9 + 1660); omega)⟩ (fun v293 u291 H locs hw292 hP hD hS => ?_)
      obtain ⟨r294, fa295, pl296, dn297, wt298, wf299, ty300, mn301⟩ := u291
      obtain ⟨hw292, h302, h303, h304, h305, h306, h307, h308, h309⟩ := hw292
      replace h302 : fa260 ≤ fa295 := h302
      replace h303 : fa295 ≤ 15 := h303
      replace h304 : TyC dc r294 := h304
      replace h305 : r294 ≤ 2050 := h305
      replace h306 : ChE B nd c281 (upd ty265 c1 (nI r259)) ty300 mn266 mn301 := h306
      replace h307 : mnN B nd mn301 := h307
      replace h308 : If (fa295 = 0) (Typ B dc fd md nd ty300 mn301 vt sc k9 c281) := h308
      replace h309 : ty300 c281 = nI r294 := h309
      obtain rfl : v293 = some (.int (nI r294)) := hw292
      have hP : va_P G.1 pCl (mW G h0 a (upd (upd (upd (upd (upd (upd (upd (upd (upd (upd (upd (upd (upd F 15 (nI fa295)) 16 pl296) 44 (nI fd)) 49 (nI md)) 73 (nI sc)) 74 (nI k9)) 75 (nI rs)) 76 (nI il)) 77 dn297) 78 wt298) 79 wf299) 80 ab) 81 ac) (updA (updA (updA (updA (updA B 14 nc) 17 ty300) 18 mn301) 48 vn) 49 vt)) _ := mW_to (F := F) (l1 := [(15, (nI fa260)), (16, pl261), (44, (nI fd)), (49, (nI md)), (73, (nI sc)), (74, (nI k9)), (75, (nI rs)), (76, (nI il)), (77, dn262), (78, wt263), (79, wf264), (80, ab), (81, ac), (15, (nI fa295)), (16, pl296), (44, (nI fd)), (49, (nI md)), (73, (nI sc)), (74, (nI k9)), (77, dn297), (78, wt298), (79, wf299)]) (l2 := [(15, (nI fa295)), (16, pl296), (44, (nI fd)), (49, (nI md)), (73, (nI sc)), (74, (nI k9)), (75, (nI rs)), (76, (nI il)), (77, dn297), (78, wt298), (79, wf299), (80, ab), (81, ac)]) (V := [(nI fa295), pl296, (nI fd), (nI md), (nI sc), (nI k9), (nI rs), (nI il), dn297, wt298, wf299, ab, ac, (nI fa295), pl296, (nI fd), (nI md), (nI sc), (nI k9), dn297, wt298, wf299, (nI fa295), pl296, (nI fd), (nI md), (nI sc), (nI k9), (nI rs), (nI il), dn297, wt298, wf299, ab, ac]) rfl rfl rfl hP
      have hD : va_D A (mW G h0 a (upd (upd (upd (upd (upd (upd (upd (upd (upd (upd (upd (upd (upd F 15 (nI fa295)) 16 pl296) 44 (nI fd)) 49 (nI md)) 73 (nI sc)) 74 (nI k9)) 75 (nI rs)) 76 (nI il)) 77 dn297) 78 wt298) 79 wf299) 80 ab) 81 ac) (updA (updA (updA (updA (updA B 14 nc) 17 ty300) 18 mn301) 48 vn) 49 vt)) := mW_D hD
      refine W.widen (k := 0) (n := 0) (Nat.le_of_ble_eq_true rfl) (Nat.le_of_ble_eq_true rfl) ?_
      refine W.eq (g2 := F0 m 77 ls [.int (nI r294)]) rfl ?_
      have hch310 : ChS B nd n9 ty ty300 mn mn301 nc nc := (ChS.trans hch276 (ChS.kid (ChS.ofE (nc := nc) h306) (by omega) hp284))
      have hsl311 : If (fa260 = 0) (slP B n9 (sc, il, ev) (fun c e9 => TyS B dc fd md nd ty300 mn301 nc k9 rs c e9) 32 1) := (fun e => slP.beside (kk := 32) (s := 1) hF (by omega) hn9 hkd (by decide) (by decide) (by decide) h283 hp284 hg288 (by decide) (ChS.ofE (nc := nc) h306) (hsl277 e))
      have ht312 : ty300 c1 = nI r259 := ((ChS.at hF (by omega) hn9 h3 h283 hp4 hp284 (fun e => by have z := hg8; rw [e] at z; have := hg288; omega) (ChS.ofE (nc := nc) h306)).trans ht278)
      have hsl313 : If (fa295 = 0) (slP B n9 (sc, il, ev) (fun c e9 => TyS B dc fd md nd ty300 mn301 nc k9 rs c e9) 32 2) := (fun e => slP.one (by decide) (by omega) e282 (TyS.ofTyp (nc := nc) (rs := rs) (e := (sc, il, ev)) hF (by omega) h283 (show kcl 1 _ = true from hc286) (h308 e) hve))
      refine lv_istore (lv' := [(4, .int (nI r294)), (3, .int (nI r259)), (2, .int (nI c1)), (0, .ref h0), (1, .int (nI n9))]) hx hb dX12_lookSet_77 hl (by decide) rfl (fun ls hl => ?_)
      refine lv_aload_n hx hb dX12_lookSet_79 rfl (lv_at hl 3 rfl) ?_
      refine lv_aload_n hx hb dX12_lookSet_80 rfl (lv_at hl 3 rfl) ?_
      refine lv_iload hx hb dX12_lookSet_81 (lv_at hl 0 rfl) ?_
      refine lv_iload_n hx hb dX12_lookSet_83 rfl (lv_at hl 1 rfl) ?_
      have hP : va_P G.1 pCl (mW G h0 a (upd (upd (upd (upd (upd (upd (upd (upd (upd (upd (upd (upd (upd F 15 (nI fa295)) 16 pl296) 44 (nI fd)) 49 (nI md)) 73 (nI sc)) 74 (nI k9)) 75 (nI rs)) 76 (nI il)) 77 dn297) 78 wt298) 79 wf299) 80 ab) 81 ac) (updA (updA (updA (updA (updA (updA B 14 nc) 17 ty300) 18 mn301) 48 vn) 49 vt) 31 (B 31))) _ := mW_to (F := F) (l1 := [(15, (nI fa295)), (16, pl296), (44, (nI fd)), (49, (nI md)), (73, (nI sc)), (74, (nI k9)), (75, (nI rs)), (76, (nI il)), (77, dn297), (78, wt298), (79, wf299), (80, ab), (81, ac)]) (l2 := [(15, (nI fa295)), (16, pl296), (44, (nI fd)), (49, (nI md)), (73, (nI sc)), (74, (nI k9)), (75, (nI rs)), (76, (nI il)), (77, dn297), (78, wt298), (79, wf299), (80, ab), (81, ac)]) (V := [(nI fa295), pl296, (nI fd), (nI md), (nI sc), (nI k9), (nI rs), (nI il), dn297, wt298, wf299, ab, ac, (nI fa295), pl296, (nI fd), (nI md), (nI sc), (nI k9), (nI rs), (nI il), dn297, wt298, wf299, ab, ac]) rfl rfl (show (updA (updA (updA (updA (updA B 14 nc) 17 ty300) 18 mn301) 48 vn) 49 vt) = (updA (updA (updA (updA (updA (updA B 14 nc) 17 ty300) 18 mn301) 48 vn) 49 vt) 31 (B 31)) from updsA_eq2 (F := B) (l1 := [(14, nc), (17, ty300), (18, mn301), (48, vn), (49, vt)]) (l2 := [(14, nc), (17, ty300), (18, mn301), (48, vn), (49, vt), (31, (B 31))]) (V := [nc, ty300, mn301, vn, vt, nc, ty300, mn301, vn, vt, (B 31)]) rfl rfl) hP
      have hD : va_D A (mW G h0 a (upd (upd (upd (upd (upd (upd (upd (upd (upd (upd (upd (upd (upd F 15 (nI fa295)) 16 pl296) 44 (nI fd)) 49 (nI md)) 73 (nI sc)) 74 (nI k9)) 75 (nI rs)) 76 (nI il)) 77 dn297) 78 wt298) 79 wf299) 80 ab) 81 ac) (updA (updA (updA (updA (updA (updA B 14 nc) 17 ty300) 18 mn301) 48 vn) 49 vt) 31 (B 31))) := mW_D hD
      refine pc_V0 (G := G) (As := [.int (nI r294), .int (nI r259)]) (rest := [.ref h0]) hx hb hml hown hq hE hX pX0_al hP hD hS hA hl.1 (R_fits l G h0 a (upd (upd (upd (upd (upd (upd (upd (upd (upd (upd (upd (upd (upd F 15 (nI fa295)) 16 pl296) 44 (nI fd)) 49 (nI md)) 73 (nI sc)) 74 (nI k9)) 75 (nI rs)) 76 (nI il)) 77 dn297) 78 wt298) 79 wf299) 80 ab) 81 ac) (updA (updA (updA (updA (updA B 14 nc) 17 ty300) 18 mn301) 48 vn) 49 vt) r294 r259 dc (B 31) h304 h269 (by omega) hBI) (gV pw_1790 pw_1791 pw_1792 pw_1523 pw_1782) hV_X12_fits 0 9 rfl rfl rfl rfl (Nat.le_of_ble_eq_true rfl) dX12_lookSet_84 ⟨Nat.le_of_ble_eq_true rfl, Nat.le_of_ble_eq_true rfl⟩ ⟨(by show 4 + 1 ≤ (4 * z9 + 13); omega), (by show 8 + (3 + 11) + 104 ≤ (160 * z9 + 1660); omega)⟩ (fun v316 u314 H locs hw315 hP hD hS => ?_)
      obtain rfl : v316 = some (.int (fitF (B 31) r294 r259)) := hw315
      have hP : va_P G.1 pCl (mW G h0 a (upd (upd (upd (upd (upd (upd (upd (upd (upd (upd (upd (upd (upd F 15 (nI fa295)) 16 pl296) 44 (nI fd)) 49 (nI md)) 73 (nI sc)) 74 (nI k9)) 75 (nI rs)) 76 (nI il)) 77 dn297) 78 wt298) 79 wf299) 80 ab) 81 ac) (updA (updA (updA (updA (updA B 14 nc) 17 ty300) 18 mn301) 48 vn) 49 vt)) _ := mW_to (F := F) (l1 := [(15, (nI fa295)), (16, pl296), (44, (nI fd)), (49, (nI md)), (73, (nI sc)), (74, (nI k9)), (75, (nI rs)), (76, (nI il)), (77, dn297), (78, wt298), (79, wf299), (80, ab), (81, ac)]) (l2 := [(15, (nI fa295)), (16, pl296), (44, (nI fd)), (49, (nI md)), (73, (nI sc)), (74, (nI k9)), (75, (nI rs)), (76, (nI il)), (77, dn297), (78, wt298), (79, wf299), (80, ab), (81, ac)]) (V := [(nI fa295), pl296, (nI fd), (nI md), (nI sc), (nI k9), (nI rs), (nI il), dn297, wt298, wf299, ab, ac, (nI fa295), pl296, (nI fd), (nI md), (nI sc), (nI k9), (nI rs), (nI il), dn297, wt298, wf299, ab, ac]) rfl rfl (show (updA (updA (updA (updA (updA (updA B 14 nc) 17 ty300) 18 mn301) 48 vn) 49 vt) 31 (B 31)) = (updA (updA (updA (updA (updA B 14 nc) 17 ty300) 18 mn301) 48 vn) 49 vt) from updsA_eq2 (F := B) (l1 := [(14, nc), (17, ty300), (18, mn301), (48, vn), (49, vt), (31, (B 31))]) (l2 := [(14, nc), (17, ty300), (18, mn301), (48, vn), (49, vt)]) (V := [nc, ty300, mn301, vn, vt, (B 31), nc, ty300, mn301, vn, vt]) rfl rfl) hP
      have hD : va_D A (mW G h0 a (upd (upd (upd (upd (upd (upd (upd (upd (upd (upd (upd (upd (upd F 15 (nI fa295)) 16 pl296) 44 (nI fd)) 49 (nI md)) 73 (nI sc)) 74 (nI k9)) 75 (nI rs)) 76 (nI il)) 77 dn297) 78 wt298) 79 wf299) 80 ab) 81 ac) (updA (updA (updA (updA (updA B 14 nc) 17 ty300) 18 mn301) 48 vn) 49 vt)) := mW_D hD
      refine W.widen (k := 0) (n := 0) (Nat.le_of_ble_eq_true rfl) (Nat.le_of_ble_eq_true rfl) ?_
      refine W.eq (g2 := F0 m 87 ls [.int (fitF (B 31) r294 r259), .ref h0]) rfl ?_
      obtain ⟨b317, e318, h319⟩ : ∃ b : Nat, fitF (B 31) r294 r259 = nI b ∧ b ≤ 1 := by rcases fit_bit (da := B 31) hBI (show r294 ≤ 2050 by omega) (show r259 ≤ 2050 by omega) (TyC.rg h304 (by omega)) (TyC.rg h269 (by omega)) with z | z; exact ⟨0, z, by omega⟩; exact ⟨1, z, by omega⟩
      refine lv_topi (fun x320 e321 => ?_)
      obtain rfl : x320 = nI b317 := e321.trans e318
      refine lv_bipush (v := 11) hx hb dX12_lookSet_87 (by decide) ?_
      refine lv_aload_n hx hb dX12_lookSet_89 rfl (lv_at hl 3 rfl) ?_
      refine r_get (v := .ref (a 10)) hx hb hown hq hE hP 18 41 tFX12_18 (by decide) pw_1440 rfl dX12_lookSet_90 ?_
      refine lv_aload_n hx hb dX12_lookSet_93 rfl (lv_at hl 3 rfl) ?_
      refine r_get (v := .ref (a 13)) hx hb hown hq hE hP 21 50 tFX12_21 (by decide) pw_1443 rfl dX12_lookSet_94 ?_
      refine lv_iload_n hx hb dX12_lookSet_97 rfl (lv_at hl 4 rfl) ?_
      refine r_ldi (f := (B 13)) (j := n9) hx hb hE hP 13 (ma_13 G a _) rfl (by omega) (by decide) dX12_lookSet_98 ?_
      refine lv_topi (fun x322 e323 => ?_)
      obtain rfl : x322 = nI c281 := e323.trans e282
      refine r_ldi (f := (B 10)) (j := c281) hx hb hE hP 10 (ma_10 G a _) rfl (by omega) (by decide) dX12_lookSet_99 ?_
      obtain ⟨⟨t324, e325, h326⟩, -⟩ := hF c281 h283
      refine lv_topi (fun x327 e328 => ?_)
      obtain rfl : x327 = nI t324 := e328.trans e325
      have hP : va_P G.1 pCl (mW G h0 a (upd (upd (upd (upd (upd (upd (upd (upd (upd (upd (upd (upd (upd (upd F 15 (nI fa295)) 16 pl296) 44 (nI fd)) 49 (nI md)) 73 (nI sc)) 74 (nI k9)) 75 (nI rs)) 76 (nI il)) 77 dn297) 78 wt298) 79 wf299) 80 ab) 81 ac) 15 (nI fa295)) (updA (updA (updA (updA (updA B 14 nc) 17 ty300) 18 mn301) 48 vn) 49 vt)) _ := mW_to (F := F) (l1 := [(15, (nI fa295)), (16, pl296), (44, (nI fd)), (49, (nI md)), (73, (nI sc)), (74, (nI k9)), (75, (nI rs)), (76, (nI il)), (77, dn297), (78, wt298), (79, wf299), (80, ab), (81, ac)]) (l2 := [(15, (nI fa295)), (16, pl296), (44, (nI fd)), (49, (nI md)), (73, (nI sc)), (74, (nI k9)), (75, (nI rs)), (76, (nI il)), (77, dn297), (78, wt298), (79, wf299), (80, ab), (81, ac), (15, (nI fa295))]) (V := [(nI fa295), pl296, (nI fd), (nI md), (nI sc), (nI k9), (nI rs), (nI il), dn297, wt298, wf299, ab, ac, (nI fa295), pl296, (nI fd), (nI md), (nI sc), (nI k9), (nI rs), (nI il), dn297, wt298, wf299, ab, ac, (nI fa295)]) rfl rfl rfl hP
      have hD : va_D A (mW G h0 a (upd (upd (upd (upd (upd (upd (upd (upd (upd (upd (upd (upd (upd (upd F 15 (nI fa295)) 16 pl296) 44 (nI fd)) 49 (nI md)) 73 (nI sc)) 74 (nI k9)) 75 (nI rs)) 76 (nI il)) 77 dn297) 78 wt298) 79 wf299) 80 ab) 81 ac) 15 (nI fa295)) (updA (updA (updA (updA (updA B 14 nc) 17 ty300) 18 mn301) 48 vn) 49 vt)) := mW_D hD
      refine pc_V0 (G := G) (As := [.int (nI b317), .int (nI 11), .int (nI t324)]) (rest := []) hx hb hml hown hq hE hX pX0_al hP hD hS hA hl.1 (R_judgeL l G h0 a (upd (upd (upd (upd (upd (upd (upd (upd (upd (upd (upd (upd (upd F 15 (nI fa295)) 16 pl296) 44 (nI fd)) 49 (nI md)) 73 (nI sc)) 74 (nI k9)) 75 (nI rs)) 76 (nI il)) 77 dn297) 78 wt298) 79 wf299) 80 ab) 81 ac) (updA (updA (updA (updA (updA B 14 nc) 17 ty300) 18 mn301) 48 vn) 49 vt) b317 11 t324 fa295 (by omega) (by omega) (by omega) (by omega)) (gV pw_1798 pw_1799 pw_1800 pw_1523 pw_1793) hV_X12_judge 0 9 rfl rfl rfl rfl (Nat.le_of_ble_eq_true rfl) dX12_lookSet_100 ⟨Nat.le_of_ble_eq_true rfl, Nat.le_of_ble_eq_true rfl⟩ ⟨(by show 3 + 1 ≤ (4 * z9 + 13); omega), (by show 8 + (4 + 11) + 82 ≤ (160 * z9 + 1660); omega)⟩ (fun v331 u329 H locs hw330 hP hD hS => ?_)
      obtain ⟨r332, fa333, pl334⟩ := u329
      obtain ⟨hw330, h335, h336, h337, h338, h339, h340, h341⟩ := hw330
      replace h335 : r332 ≤ 1 := h335
      replace h336 : fa295 ≤ fa333 := h336
      replace h337 : fa333 ≤ 15 := h337
      replace h338 : fa333 + 15 * r332 ≤ 15 := h338
      replace h339 : 1 ≤ r332 + fa333 := h339
      replace h340 : 1 ≤ b317 + fa333 := h340
      replace h341 : fa333 ≤ fa295 + 15 * (1 - b317) := h341
      obtain rfl : v331 = some (.int (nI r332)) := hw330
      have hP : va_P G.1 pCl (mW G h0 a (upd (upd (upd (upd (upd (upd (upd (upd (upd (upd (upd (upd (upd F 15 (nI fa333)) 16 pl334) 44 (nI fd)) 49 (nI md)) 73 (nI sc)) 74 (nI k9)) 75 (nI rs)) 76 (nI il)) 77 dn297) 78 wt298) 79 wf299) 80 ab) 81 ac) (updA (updA (updA (updA (updA B 14 nc) 17 ty300) 18 mn301) 48 vn) 49 vt)) _ := mW_to (F := F) (l1 := [(15, (nI fa295)), (16, pl296), (44, (nI fd)), (49, (nI md)), (73, (nI sc)), (74, (nI k9)), (75, (nI rs)), (76, (nI il)), (77, dn297), (78, wt298), (79, wf299), (80, ab), (81, ac), (15, (nI fa333)), (16, pl334)]) (l2 := [(15, (nI fa333)), (16, pl334), (44, (nI fd)), (49, (nI md)), (73, (nI sc)), (74, (nI k9)), (75, (nI rs)), (76, (nI il)), (77, dn297), (78, wt298), (79, wf299), (80, ab), (81, ac)]) (V := [(nI fa333), pl334, (nI fd), (nI md), (nI sc), (nI k9), (nI rs), (nI il), dn297, wt298, wf299, ab, ac, (nI fa333), pl334, (nI fa333), pl334, (nI fd), (nI md), (nI sc), (nI k9), (nI rs), (nI il), dn297, wt298, wf299, ab, ac]) rfl rfl rfl hP
      have hD : va_D A (mW G h0 a (upd (upd (upd (upd (upd (upd (upd (upd (upd (upd (upd (upd (upd F 15 (nI fa333)) 16 pl334) 44 (nI fd)) 49 (nI md)) 73 (nI sc)) 74 (nI k9)) 75 (nI rs)) 76 (nI il)) 77 dn297) 78 wt298) 79 wf299) 80 ab) 81 ac) (updA (updA (updA (updA (updA B 14 nc) 17 ty300) 18 mn301) 48 vn) 49 vt)) := mW_D hD
      refine W.widen (k := 0) (n := 0) (Nat.le_of_ble_eq_true rfl) (Nat.le_of_ble_eq_true rfl) ?_
      refine W.eq (g2 := F0 m 103 ls [.int (nI r332)]) rfl ?_
      refine lv_pop hx hb dX12_lookSet_103 rfl ?_
      refine lv_aload_n hx hb dX12_lookSet_104 rfl (lv_at hl 3 rfl) ?_
      refine r_get (v := .ref (a 9)) hx hb hown hq hE hP 17 38 tFX12_17 (by decide) pw_1439 rfl dX12_lookSet_105 ?_
      refine lv_iload_n hx hb dX12_lookSet_108 rfl (lv_at hl 2 rfl) ?_
      refine r_ldi (f := (B 9)) (j := c1) hx hb hE hP 9 (ma_9 G a _) rfl (by omega) (by decide) dX12_lookSet_109 ?_
      refine lv_topi (fun x342 e343 => ?_)
      obtain rfl : x342 = 15 := e343.trans ekp
      refine lv_bipush (v := 6) hx hb dX12_lookSet_110 (by decide) ?_
      refine lv_icmp_ne (tgt := 141) hx hb dX12_lookSet_112 (by decide) (fun c344 => ?_) (fun c344 => absurd c344 (by decide))
      have hz345 : fa ≤ fa333 := (by omega)
      have hz346 : fa333 ≤ 15 := (by omega)
      have hz347 : sc ≤ sc := (by omega)
      have hz348 : sc ≤ 30 := (by omega)
      have hz349 : ChS B nd n9 ty ty300 mn mn301 nc nc := hch310
      have hz350 : mnN B nd mn301 := h307
      have hz351 : ∀ i : Nat, i < nd → ¬ (B) 9 i = 44 → nc i = (B) 14 i := hnc
      have hz352 : ∀ i : Nat, i < sc → vt i = vt i := (fun i h => rfl)
      have hz353 : If (fa333 = 0) (TyS B dc fd md nd ty300 mn301 nc k9 rs n9 (sc, il, ev) ∧ sc = (aft B n9 (sc, il, ev)).1 ∧ ∀ i : Nat, i < sc → vt i = (aft B n9 (sc, il, ev)).2.2 i ∧ tyOK dc (vt i)) := (fun e => ⟨TyS.of (steps (kk := 32) hkd (by decide) (hsl311 (by omega)) (hsl313 (by omega)) (slP.no (by decide)) (slP.no (by decide))) (LTX.st hkd (by decide) (by decide) (show LSk B dc ty300 mn301 nc rs n9 (sc, il, ev) 32 from (by show Fit (B 31) (ty300 (chN B 2 n9)) (ty300 (chN B 1 n9)); rw [hh287, hh7, h309, ht312]; exact (Fit.of (e318.trans (by rw [show b317 = 1 by omega]; rfl)) (by omega) (by omega))))), (by rw [(aft_no (by rw [hkd]; decide))]), (fun i h => by rw [(aft_no (by rw [hkd]; decide))]; exact ⟨hve i h, hvt i h⟩)⟩)
      have hP : va_P G.1 pCl (mW G h0 a (upd (upd (upd (upd (upd (upd (upd (upd (upd (upd (upd (upd (upd F 15 (nI fa333)) 16 pl334) 44 (nI fd)) 49 (nI md)) 73 (nI sc)) 74 (nI k9)) 75 (nI rs)) 76 (nI il)) 77 dn297) 78 wt298) 79 wf299) 80 ab) 81 ac) (updA (updA (updA (updA (updA B 14 nc) 17 ty300) 18 mn301) 48 vn) 49 vt)) _ := hP
      have hD : va_D A (mW G h0 a (upd (upd (upd (upd (upd (upd (upd (upd (upd (upd (upd (upd (upd F 15 (nI fa333)) 16 pl334) 44 (nI fd)) 49 (nI md)) 73 (nI sc)) 74 (nI k9)) 75 (nI rs)) 76 (nI il)) 77 dn297) 78 wt298) 79 wf299) 80 ab) 81 ac) (updA (updA (updA (updA (updA B 14 nc) 17 ty300) 18 mn301) 48 vn) 49 vt)) := mW_D hD
      exact W.vret hx hb hr (fun t9 ht9 hW9 => ⟨⟨_, (fa333, sc, pl334, dn297, wt298, wf299, ab, ac, nc, ty300, mn301, vn, vt), rfl, ⟨rfl, hz345, hz346, hz347, hz348, hz349, hz350, hz351, hz352, hz353⟩, by rw [ht9]; exact hP, hD⟩, hS.F ht9⟩) hS.2.2 dX12_lookSet_141
    · have n354 : ¬ (fa260 ≤ 0) := fun h9 => c279 ((nI_leI (a := fa260) (b := 0) (by omega) (by omega)).mpr h9)
      have hz355 : fa ≤ fa260 := (by omega)
      have hz356 : fa260 ≤ 15 := (by omega)
      have hz357 : sc ≤ sc := (by omega)
      have hz358 : sc ≤ 30 := (by omega)
      have hz359 : ChS B nd n9 ty (upd ty265 c1 (nI r259)) mn mn266 nc nc := hch276
      have hz360 : mnN B nd mn266 := h272
      have hz361 : ∀ i : Nat, i < nd → ¬ (B) 9 i = 44 → nc i = (B) 14 i := hnc
      have hz362 : ∀ i : Nat, i < sc → vt i = vt i := (fun i h => rfl)
      have hz363 : If (fa260 = 0) (TyS B dc fd md nd (upd ty265 c1 (nI r259)) mn266 nc k9 rs n9 (sc, il, ev) ∧ sc = (aft B n9 (sc, il, ev)).1 ∧ ∀ i : Nat, i < sc → vt i = (aft B n9 (sc, il, ev)).2.2 i ∧ tyOK dc (vt i)) := (fun e => absurd e (by omega))
      have hP : va_P G.1 pCl (mW G h0 a (upd (upd (upd (upd (upd (upd (upd (upd (upd (upd (upd (upd (upd F 15 (nI fa260)) 16 pl261) 44 (nI fd)) 49 (nI md)) 73 (nI sc)) 74 (nI k9)) 75 (nI rs)) 76 (nI il)) 77 dn262) 78 wt263) 79 wf264) 80 ab) 81 ac) (updA (updA (updA (updA (updA B 14 nc) 17 (upd ty265 c1 (nI r259))) 18 mn266) 48 vn) 49 vt)) _ := hP
      have hD : va_D A (mW G h0 a (upd (upd (upd (upd (upd (upd (upd (upd (upd (upd (upd (upd (upd F 15 (nI fa260)) 16 pl261) 44 (nI fd)) 49 (nI md)) 73 (nI sc)) 74 (nI k9)) 75 (nI rs)) 76 (nI il)) 77 dn262) 78 wt263) 79 wf264) 80 ab) 81 ac) (updA (updA (updA (updA (updA B 14 nc) 17 (upd ty265 c1 (nI r259))) 18 mn266) 48 vn) 49 vt)) := mW_D hD
      exact W.vret hx hb hr (fun t9 ht9 hW9 => ⟨⟨_, (fa260, sc, pl261, dn262, wt263, wf264, ab, ac, nc, (upd ty265 c1 (nI r259)), mn266, vn, vt), rfl, ⟨rfl, hz355, hz356, hz357, hz358, hz359, hz360, hz361, hz362, hz363⟩, by rw [ht9]; exact hP, hD⟩, hS.F ht9⟩) hS.2.2 dX12_lookSet_66

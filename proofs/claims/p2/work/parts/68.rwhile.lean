theorem dX12_lookWhile_0 : decode cX12_lookWhile 0 = .ok (.aload_n 0, 1) := by decide +kernel
theorem dX12_lookWhile_1 : decode cX12_lookWhile 1 = .ok (.getfield 65, 3) := by decide +kernel
theorem dX12_lookWhile_4 : decode cX12_lookWhile 4 = .ok (.iload_n 1, 1) := by decide +kernel
theorem dX12_lookWhile_5 : decode cX12_lookWhile 5 = .ok (.aload_n 0, 1) := by decide +kernel
theorem dX12_lookWhile_6 : decode cX12_lookWhile 6 = .ok (.getfield 537, 3) := by decide +kernel
theorem dX12_lookWhile_9 : decode cX12_lookWhile 9 = .ok (.iastore, 1) := by decide +kernel
theorem dX12_lookWhile_10 : decode cX12_lookWhile 10 = .ok (.aload_n 0, 1) := by decide +kernel
theorem dX12_lookWhile_11 : decode cX12_lookWhile 11 = .ok (.getfield 633, 3) := by decide +kernel
theorem dX12_lookWhile_14 : decode cX12_lookWhile 14 = .ok (.istore_n 2, 1) := by decide +kernel
theorem dX12_lookWhile_15 : decode cX12_lookWhile 15 = .ok (.aload_n 0, 1) := by decide +kernel
theorem dX12_lookWhile_16 : decode cX12_lookWhile 16 = .ok (.getfield 636, 3) := by decide +kernel
theorem dX12_lookWhile_19 : decode cX12_lookWhile 19 = .ok (.istore_n 3, 1) := by decide +kernel
theorem dX12_lookWhile_20 : decode cX12_lookWhile 20 = .ok (.aload_n 0, 1) := by decide +kernel
theorem dX12_lookWhile_21 : decode cX12_lookWhile 21 = .ok (.aload_n 0, 1) := by decide +kernel
theorem dX12_lookWhile_22 : decode cX12_lookWhile 22 = .ok (.getfield 47, 3) := by decide +kernel
theorem dX12_lookWhile_25 : decode cX12_lookWhile 25 = .ok (.iload_n 1, 1) := by decide +kernel
theorem dX12_lookWhile_26 : decode cX12_lookWhile 26 = .ok (.iaload, 1) := by decide +kernel
theorem dX12_lookWhile_27 : decode cX12_lookWhile 27 = .ok (.invokevirtual 618, 3) := by decide +kernel
theorem dX12_lookWhile_30 : decode cX12_lookWhile 30 = .ok (.aload_n 0, 1) := by decide +kernel
theorem dX12_lookWhile_31 : decode cX12_lookWhile 31 = .ok (.getfield 554, 3) := by decide +kernel
theorem dX12_lookWhile_34 : decode cX12_lookWhile 34 = .ok (.istore 4, 2) := by decide +kernel
theorem dX12_lookWhile_36 : decode cX12_lookWhile 36 = .ok (.aload_n 0, 1) := by decide +kernel
theorem dX12_lookWhile_37 : decode cX12_lookWhile 37 = .ok (.aload_n 0, 1) := by decide +kernel
theorem dX12_lookWhile_38 : decode cX12_lookWhile 38 = .ok (.getfield 551, 3) := by decide +kernel
theorem dX12_lookWhile_41 : decode cX12_lookWhile 41 = .ok (.putfield 544, 3) := by decide +kernel
theorem dX12_lookWhile_44 : decode cX12_lookWhile 44 = .ok (.aload_n 0, 1) := by decide +kernel
theorem dX12_lookWhile_45 : decode cX12_lookWhile 45 = .ok (.iconst (-1), 1) := by decide +kernel
theorem dX12_lookWhile_46 : decode cX12_lookWhile 46 = .ok (.putfield 633, 3) := by decide +kernel
theorem dX12_lookWhile_49 : decode cX12_lookWhile 49 = .ok (.aload_n 0, 1) := by decide +kernel
theorem dX12_lookWhile_50 : decode cX12_lookWhile 50 = .ok (.dup, 1) := by decide +kernel
theorem dX12_lookWhile_51 : decode cX12_lookWhile 51 = .ok (.getfield 630, 3) := by decide +kernel
theorem dX12_lookWhile_54 : decode cX12_lookWhile 54 = .ok (.iconst 1, 1) := by decide +kernel
theorem dX12_lookWhile_55 : decode cX12_lookWhile 55 = .ok (.iadd, 1) := by decide +kernel
theorem dX12_lookWhile_56 : decode cX12_lookWhile 56 = .ok (.putfield 630, 3) := by decide +kernel
theorem dX12_lookWhile_59 : decode cX12_lookWhile 59 = .ok (.aload_n 0, 1) := by decide +kernel
theorem dX12_lookWhile_60 : decode cX12_lookWhile 60 = .ok (.aload_n 0, 1) := by decide +kernel
theorem dX12_lookWhile_61 : decode cX12_lookWhile 61 = .ok (.getfield 50, 3) := by decide +kernel
theorem dX12_lookWhile_64 : decode cX12_lookWhile 64 = .ok (.iload_n 1, 1) := by decide +kernel
theorem dX12_lookWhile_65 : decode cX12_lookWhile 65 = .ok (.iaload, 1) := by decide +kernel
theorem dX12_lookWhile_66 : decode cX12_lookWhile 66 = .ok (.invokevirtual 606, 3) := by decide +kernel
theorem dX12_lookWhile_69 : decode cX12_lookWhile 69 = .ok (.aload_n 0, 1) := by decide +kernel
theorem dX12_lookWhile_70 : decode cX12_lookWhile 70 = .ok (.dup, 1) := by decide +kernel
theorem dX12_lookWhile_71 : decode cX12_lookWhile 71 = .ok (.getfield 630, 3) := by decide +kernel
theorem dX12_lookWhile_74 : decode cX12_lookWhile 74 = .ok (.iconst 1, 1) := by decide +kernel
theorem dX12_lookWhile_75 : decode cX12_lookWhile 75 = .ok (.isub, 1) := by decide +kernel
theorem dX12_lookWhile_76 : decode cX12_lookWhile 76 = .ok (.putfield 630, 3) := by decide +kernel
theorem dX12_lookWhile_79 : decode cX12_lookWhile 79 = .ok (.aload_n 0, 1) := by decide +kernel
theorem dX12_lookWhile_80 : decode cX12_lookWhile 80 = .ok (.iload 4, 2) := by decide +kernel
theorem dX12_lookWhile_82 : decode cX12_lookWhile 82 = .ok (.aload_n 0, 1) := by decide +kernel
theorem dX12_lookWhile_83 : decode cX12_lookWhile 83 = .ok (.getfield 633, 3) := by decide +kernel
theorem dX12_lookWhile_86 : decode cX12_lookWhile 86 = .ok (.iand, 1) := by decide +kernel
theorem dX12_lookWhile_87 : decode cX12_lookWhile 87 = .ok (.putfield 544, 3) := by decide +kernel
theorem dX12_lookWhile_90 : decode cX12_lookWhile 90 = .ok (.aload_n 0, 1) := by decide +kernel
theorem dX12_lookWhile_91 : decode cX12_lookWhile 91 = .ok (.iload_n 2, 1) := by decide +kernel
theorem dX12_lookWhile_92 : decode cX12_lookWhile 92 = .ok (.putfield 633, 3) := by decide +kernel
theorem dX12_lookWhile_95 : decode cX12_lookWhile 95 = .ok (.aload_n 0, 1) := by decide +kernel
theorem dX12_lookWhile_96 : decode cX12_lookWhile 96 = .ok (.iload_n 3, 1) := by decide +kernel
theorem dX12_lookWhile_97 : decode cX12_lookWhile 97 = .ok (.putfield 636, 3) := by decide +kernel
theorem dX12_lookWhile_100 : decode cX12_lookWhile 100 = .ok (.return_, 1) := by decide +kernel
set_option maxHeartbeats 8000000 in
set_option maxRecDepth 100000 in
/-- lookWhile(n) -/
theorem L_lookWhile (l : Launch) (G : pT) (h0 : Nat) (a : Nat → Nat) (F : Nat → Int32) (B : Nat → Nat → Int32) (n9 : Nat) (z9 : Nat) (fa : Nat) (sc : Nat) (il : Nat) (k9 : Nat) (rs : Nat) (nd : Nat) (T : Nat) (nm : Nat) (wr : Nat) (lz : Nat) (dc : Nat) (fd : Nat) (md : Nat) (pr : Nat) (bk : Nat) (gh : Nat → Nat → Nat) (dn : Int32) (wt : Int32) (wf : Int32) (ab : Int32) (ac : Int32) (nc : Nat → Int32) (ty : Nat → Int32) (mn : Nat → Int32) (vn : Nat → Int32) (vt : Nat → Int32) (ev : Nat → Int32) (hst : St B gh nd T nm wr lz dc fd md pr bk) (hnm : nd ≤ 12000 ∧ T ≤ 5000 ∧ wr ≤ 5000 ∧ 7 ≤ dc ∧ dc ≤ 37 ∧ fd ≤ 620 ∧ md ≤ 920 ∧ pr ≤ 5000) (hn9 : n9 < nd) (hz : gh 1 n9 < z9) (hfa : fa ≤ 15) (hsc : sc ≤ 30) (hk9 : 7 ≤ k9 ∧ k9 < dc) (hnc : ∀ i : Nat, i < nd → ¬ B 9 i = 44 → nc i = B 14 i) (hmn : mnN B nd mn) (hil : il + z9 ≤ 1000) (hrs : TyC dc rs) (hrs5 : rs ≤ 2050) (hmc : mnC B nd n9 mn) (hvt : ∀ i : Nat, i < sc → tyOK dc (vt i)) (hve : ∀ i : Nat, i < sc → vt i = ev i) (hkd : B 9 n9 = nI 35) (ihS : PlookStatement l G (z9 - 1)) : PM l G pX0 yX12_lookWhile cX12_lookWhile 5 none ({ frames := (4 * z9 + 13), cells := 0, slots := 0, locals := (160 * z9 + 1660) }) [.ref h0, .int (nI n9)] (mW G h0 a (upd (upd (upd (upd (upd (upd (upd (upd (upd (upd (upd (upd F 15 (nI fa)) 44 (nI fd)) 49 (nI md)) 73 (nI sc)) 74 (nI k9)) 75 (nI rs)) 76 (nI il)) 77 dn) 78 wt) 79 wf) 80 ab) 81 ac) (updA (updA (updA (updA (updA B 14 nc) 17 ty) 18 mn) 48 vn) 49 vt)) (fun (v : Option Value) (u : Nat × Nat × Int32 × Int32 × Int32 × Int32 × Int32 × Int32 × (Nat → Int32) × (Nat → Int32) × (Nat → Int32) × (Nat → Int32) × (Nat → Int32)) => v = none ∧ (fa ≤ u.1) ∧ (u.1 ≤ 15) ∧ (sc ≤ u.2.1) ∧ (u.2.1 ≤ 30) ∧ (ChS B nd n9 ty u.2.2.2.2.2.2.2.2.2.1 mn u.2.2.2.2.2.2.2.2.2.2.1 nc u.2.2.2.2.2.2.2.2.1) ∧ (mnN B nd u.2.2.2.2.2.2.2.2.2.2.1) ∧ (∀ i : Nat, i < nd → ¬ B 9 i = 44 → u.2.2.2.2.2.2.2.2.1 i = B 14 i) ∧ (∀ i : Nat, i < sc → u.2.2.2.2.2.2.2.2.2.2.2.2 i = vt i) ∧ (If (u.1 = 0) (TyS B dc fd md nd u.2.2.2.2.2.2.2.2.2.1 u.2.2.2.2.2.2.2.2.2.2.1 u.2.2.2.2.2.2.2.2.1 k9 rs n9 (sc, il, ev) ∧ u.2.1 = (aft B n9 (sc, il, ev)).1 ∧ ∀ i : Nat, i < u.2.1 → u.2.2.2.2.2.2.2.2.2.2.2.2 i = (aft B n9 (sc, il, ev)).2.2 i ∧ tyOK dc (u.2.2.2.2.2.2.2.2.2.2.2.2 i)))) (fun u => (mW G h0 a (upd (upd (upd (upd (upd (upd (upd (upd (upd (upd (upd (upd (upd F 15 (nI u.1)) 16 u.2.2.1) 44 (nI fd)) 49 (nI md)) 73 (nI u.2.1)) 74 (nI k9)) 75 (nI rs)) 76 (nI il)) 77 u.2.2.2.1) 78 u.2.2.2.2.1) 79 u.2.2.2.2.2.1) 80 u.2.2.2.2.2.2.1) 81 u.2.2.2.2.2.2.2.1) (updA (updA (updA (updA (updA B 14 u.2.2.2.2.2.2.2.2.1) 17 u.2.2.2.2.2.2.2.2.2.1) 18 u.2.2.2.2.2.2.2.2.2.2.1) 48 u.2.2.2.2.2.2.2.2.2.2.2.1) 49 u.2.2.2.2.2.2.2.2.2.2.2.2))) := by
  intro sz
  refine Met.ofW (cc := cX12_lookWhile) (maxL := 5) (ret := none) (by decide) rfl ?_
  intro p e s m args below meth c s₁ B9 hml hv
  obtain ⟨rfl, hsz, hP, hD0, hE, hX⟩ := hv
  have hx := B9.exec
  have hb := B9.bytes
  have hr := B9.returns
  have hts := atoms_spec (ws := Cond.code yX12_lookWhile cX12_lookWhile 5 none :: pw) B9.pre
  have hq : ∀ w ∈ pw, w.before _ s = true := fun w h => hts w (List.mem_cons_of_mem _ h)
  have hown : s.vm.findClass RX12 = some m.cls := findClass_of_methodNamed B9.named
  have hlocks := B9.notSynchronized
  subst hsz
  have hD := hD0.self (sz := s.heap.size)
  have hA : ∀ q : Nat, s.heap.size ≤ q → va_A (mW G h0 a (upd (upd (upd (upd (upd (upd (upd (upd (upd (upd (upd (upd F 15 (nI fa)) 44 (nI fd)) 49 (nI md)) 73 (nI sc)) 74 (nI k9)) 75 (nI rs)) 76 (nI il)) 77 dn) 78 wt) 79 wf) 80 ab) 81 ac) (updA (updA (updA (updA (updA B 14 nc) 17 ty) 18 mn) 48 vn) 49 vt)) s.heap.size q := fun q h => Or.inr h
  have hP : va_P G.1 pCl (mW G h0 a (upd (upd (upd (upd (upd (upd (upd (upd (upd (upd (upd (upd F 15 (nI fa)) 44 (nI fd)) 49 (nI md)) 73 (nI sc)) 74 (nI k9)) 75 (nI rs)) 76 (nI il)) 77 dn) 78 wt) 79 wf) 80 ab) 81 ac) (updA (updA (updA (updA (updA B 14 nc) 17 ty) 18 mn) 48 vn) 49 vt)) s.heap := hP
  generalize va_A (mW G h0 a (upd (upd (upd (upd (upd (upd (upd (upd (upd (upd (upd (upd F 15 (nI fa)) 44 (nI fd)) 49 (nI md)) 73 (nI sc)) 74 (nI k9)) 75 (nI rs)) 76 (nI il)) 77 dn) 78 wt) 79 wf) 80 ab) 81 ac) (updA (updA (updA (updA (updA B 14 nc) 17 ty) 18 mn) 48 vn) 49 vt)) s.heap.size = A at hD hE hA ⊢
  have hS : va_S A s.heap s.heap [] := va_S.rf
  have hl := lv_entry ([.ref h0, .int (nI n9)]) (n := 5) (Nat.le_of_ble_eq_true rfl)
  rw [lg_entry_eq]
  generalize (lg_sl ([.ref h0, .int (nI n9)]) ++ List.replicate (5 - (lg_sl ([.ref h0, .int (nI n9)])).length) Slot.unset).toArray = ls at hl ⊢
  have hl : lv_has ls 5 [(0, .ref h0), (1, .int (nI n9))] := hl
  have hF := hst.1
  have hPS := hst.2.1
  have hBI := hst.2.2.1
  have hRK := hst.2.2.2.1
  have hTY := hst.2.2.2.2.1
  have hNW := hst.2.2.2.2.2.1
  have hTK := hst.2.2.2.2.2.2
  refine lv_aload_n hx hb dX12_lookWhile_0 rfl (lv_at hl 0 rfl) ?_
  refine r_get (v := .ref (a 18)) hx hb hown hq hE hP 26 65 tFX12_26 (by decide) pw_1448 rfl dX12_lookWhile_1 ?_
  refine lv_iload_n hx hb dX12_lookWhile_4 rfl (lv_at hl 1 rfl) ?_
  refine lv_aload_n hx hb dX12_lookWhile_5 rfl (lv_at hl 0 rfl) ?_
  refine r_get (v := .int (nI sc)) hx hb hown hq hE hP 73 537 tFX12_73 (by decide) pw_1795 rfl dX12_lookWhile_6 ?_
  refine r_sti (f := mn) (j := n9) hx hb hE hP hD hS 18 (ma_18 G a _) rfl (mas_18 G a _) (by omega) (by decide) dX12_lookWhile_9 (fun H locs hP hD hS => ?_)
  have hch1 : ChS B nd n9 ty ty mn (upd mn n9 (nI sc)) nc nc := (ChS.trans ChS.rfl (ChS.setM sub.rfl))
  have hmn2 : mnN B nd (upd mn n9 (nI sc)) := (mnN.up hmn (by rw [hkd]; decide))
  refine lv_aload_n hx hb dX12_lookWhile_10 rfl (lv_at hl 0 rfl) ?_
  refine r_get (v := .int ab) hx hb hown hq hE hP 80 633 tFX12_80 (by decide) pw_1878 rfl dX12_lookWhile_11 ?_
  refine lv_istore_n (lv' := [(2, .int ab), (0, .ref h0), (1, .int (nI n9))]) hx hb dX12_lookWhile_14 rfl hl (by decide) rfl (fun ls hl => ?_)
  refine lv_aload_n hx hb dX12_lookWhile_15 rfl (lv_at hl 1 rfl) ?_
  refine r_get (v := .int ac) hx hb hown hq hE hP 81 636 tFX12_81 (by decide) pw_1879 rfl dX12_lookWhile_16 ?_
  refine lv_istore_n (lv' := [(3, .int ac), (2, .int ab), (0, .ref h0), (1, .int (nI n9))]) hx hb dX12_lookWhile_19 rfl hl (by decide) rfl (fun ls hl => ?_)
  refine lv_aload_n hx hb dX12_lookWhile_20 rfl (lv_at hl 2 rfl) ?_
  refine lv_aload_n hx hb dX12_lookWhile_21 rfl (lv_at hl 2 rfl) ?_
  refine r_get (v := .ref (a 12)) hx hb hown hq hE hP 20 47 tFX12_20 (by decide) pw_1442 rfl dX12_lookWhile_22 ?_
  refine lv_iload_n hx hb dX12_lookWhile_25 rfl (lv_at hl 3 rfl) ?_
  refine r_ldi (f := (B 12)) (j := n9) hx hb hE hP 12 (ma_12 G a _) rfl (by omega) (by decide) dX12_lookWhile_26 ?_
  obtain ⟨c3, e4, h5, hp6, h7, hc8, hh9, hg10⟩ := Fs2.kid (kk := 35) (s := 1) hF hn9 hkd (by decide) (by decide) (by decide) (by decide) (by omega)
  refine lv_topi (fun x11 e12 => ?_)
  obtain rfl : x11 = nI c3 := e12.trans e4
  have hP : va_P G.1 pCl (mW G h0 a (upd (upd (upd (upd (upd (upd (upd (upd (upd (upd (upd (upd (upd (upd (upd (upd (upd (upd (upd (upd F 15 (nI fa)) 44 (nI fd)) 49 (nI md)) 73 (nI sc)) 74 (nI k9)) 75 (nI rs)) 76 (nI il)) 77 dn) 78 wt) 79 wf) 80 ab) 81 ac) 15 (nI fa)) 44 (nI fd)) 49 (nI md)) 73 (nI sc)) 74 (nI k9)) 77 dn) 78 wt) 79 wf) (updA (updA (updA (updA (updA B 14 nc) 17 ty) 18 (upd mn n9 (nI sc))) 48 vn) 49 vt)) _ := hP
  have hD : va_D A (mW G h0 a (upd (upd (upd (upd (upd (upd (upd (upd (upd (upd (upd (upd (upd (upd (upd (upd (upd (upd (upd (upd F 15 (nI fa)) 44 (nI fd)) 49 (nI md)) 73 (nI sc)) 74 (nI k9)) 75 (nI rs)) 76 (nI il)) 77 dn) 78 wt) 79 wf) 80 ab) 81 ac) 15 (nI fa)) 44 (nI fd)) 49 (nI md)) 73 (nI sc)) 74 (nI k9)) 77 dn) 78 wt) 79 wf) (updA (updA (updA (updA (updA B 14 nc) 17 ty) 18 (upd mn n9 (nI sc))) 48 vn) 49 vt)) := hD
  refine pc_V0 (G := G) (As := [.int (nI c3)]) (rest := []) hx hb hml hown hq hE hX pX0_al hP hD hS hA hl.1 (L_condition l G h0 a (upd (upd (upd (upd (upd (upd (upd (upd (upd (upd (upd (upd F 15 (nI fa)) 44 (nI fd)) 49 (nI md)) 73 (nI sc)) 74 (nI k9)) 75 (nI rs)) 76 (nI il)) 77 dn) 78 wt) 79 wf) 80 ab) 81 ac) B c3 (z9 - 1) fa sc k9 nd T nm wr lz dc fd md pr bk gh dn wt wf nc ty (upd mn n9 (nI sc)) vn vt hst hnm h5 (by omega) (by omega) (by omega) hk9 hnc hmn2 hvt (show kcl 1 _ = true from hc8)) (gV pw_1881 pw_1882 pw_1883 pw_1523 pw_1867) hV_X12_condition 0 9 rfl rfl rfl rfl (Nat.le_of_ble_eq_true rfl) dX12_lookWhile_27 ⟨Nat.le_of_ble_eq_true rfl, Nat.le_of_ble_eq_true rfl⟩ ⟨(by show (4 * (z9 - 1) + 11) + 1 ≤ (4 * z9 + 13); omega), (by show 8 + (3 + 11) + (160 * (z9 - 1) + 1440) ≤ (160 * z9 + 1660); omega)⟩ (fun v15 u13 H locs hw14 hP hD hS => ?_)
  obtain ⟨fa16, pl17, dn18, wt19, wf20, ty21, mn22⟩ := u13
  obtain ⟨hw14, h23, h24, h25, h26, h27⟩ := hw14
  replace h23 : fa ≤ fa16 := h23
  replace h24 : fa16 ≤ 15 := h24
  replace h25 : ChE B nd c3 ty ty21 (upd mn n9 (nI sc)) mn22 := h25
  replace h26 : mnN B nd mn22 := h26
  replace h27 : If (fa16 = 0) (Typ B dc fd md nd ty21 mn22 vt sc k9 c3 ∧ ty21 c3 = 2) := h27
  obtain rfl : v15 = none := hw14
  have hP : va_P G.1 pCl (mW G h0 a (upd (upd (upd (upd (upd (upd (upd (upd (upd (upd (upd (upd (upd F 15 (nI fa16)) 16 pl17) 44 (nI fd)) 49 (nI md)) 73 (nI sc)) 74 (nI k9)) 75 (nI rs)) 76 (nI il)) 77 dn18) 78 wt19) 79 wf20) 80 ab) 81 ac) (updA (updA (updA (updA (updA B 14 nc) 17 ty21) 18 mn22) 48 vn) 49 vt)) _ := hP
  have hD : va_D A (mW G h0 a (upd (upd (upd (upd (upd (upd (upd (upd (upd (upd (upd (upd (upd F 15 (nI fa16)) 16 pl17) 44 (nI fd)) 49 (nI md)) 73 (nI sc)) 74 (nI k9)) 75 (nI rs)) 76 (nI il)) 77 dn18) 78 wt19) 79 wf20) 80 ab) 81 ac) (updA (updA (updA (updA (updA B 14 nc) 17 ty21) 18 mn22) 48 vn) 49 vt)) := hD
  refine W.widen (k := 0) (n := 0) (Nat.le_of_ble_eq_true rfl) (Nat.le_of_ble_eq_true rfl) ?_
  refine W.eq (g2 := F0 m 30 ls []) rfl ?_
  have hch28 : ChS B nd n9 ty ty21 mn mn22 nc nc := (ChS.trans hch1 (ChS.kid (ChS.ofE h25) (by omega) hp6))
  have ho29 : mn22 n9 = nI sc := ((ChS.own hF (by omega) hn9 h5 hp6 (ChS.ofE h25)).1.trans upd_eq)
  have hsl30 : If (fa16 = 0) (slP B n9 (sc, il, ev) (fun c e9 => TyS B dc fd md nd ty21 mn22 nc k9 rs c e9) 35 1) := (fun e => slP.one (by decide) (by omega) e4 (TyS.ofTyp (e := (sc, il, ev)) hF (by omega) h5 (show kcl 1 _ = true from hc8) (h27 e).1 hve))
  refine lv_aload_n hx hb dX12_lookWhile_30 rfl (lv_at hl 2 rfl) ?_
  refine r_get (v := .int wf20) hx hb hown hq hE hP 79 554 tFX12_79 (by decide) pw_1806 rfl dX12_lookWhile_31 ?_
  refine lv_istore (lv' := [(4, .int wf20), (3, .int ac), (2, .int ab), (0, .ref h0), (1, .int (nI n9))]) hx hb dX12_lookWhile_34 hl (by decide) rfl (fun ls hl => ?_)
  refine lv_aload_n hx hb dX12_lookWhile_36 rfl (lv_at hl 3 rfl) ?_
  refine lv_aload_n hx hb dX12_lookWhile_37 rfl (lv_at hl 3 rfl) ?_
  refine r_get (v := .int wt19) hx hb hown hq hE hP 78 551 tFX12_78 (by decide) pw_1805 rfl dX12_lookWhile_38 ?_
  refine r_put (v := wt19) (ty := .int) hx hb hown hq hE hP hD hS 77 544 tFX12_77 (by decide) pw_1796 (by decide) rfl rfl (ms_77 a _ _) dX12_lookWhile_41 (fun H locs hP hD hS => ?_)
  refine lv_aload_n hx hb dX12_lookWhile_44 rfl (lv_at hl 3 rfl) ?_
  refine lv_iconst (v := (-1)) hx hb dX12_lookWhile_45 (by decide) ?_
  refine r_put (v := (-1)) (ty := .int) hx hb hown hq hE hP hD hS 80 633 tFX12_80 (by decide) pw_1878 (by decide) rfl rfl (ms_80 a _ _) dX12_lookWhile_46 (fun H locs hP hD hS => ?_)
  refine lv_aload_n hx hb dX12_lookWhile_49 rfl (lv_at hl 3 rfl) ?_
  refine lv_dup hx hb dX12_lookWhile_50 rfl ?_
  refine r_get (v := .int (nI il)) hx hb hown hq hE hP 76 630 tFX12_76 (by decide) pw_1880 rfl dX12_lookWhile_51 ?_
  refine lv_iconst (v := 1) hx hb dX12_lookWhile_54 (by decide) ?_
  refine lv_iadd hx hb dX12_lookWhile_55 ?_
  refine lv_topi (fun x31 e32 => ?_)
  obtain rfl : x31 = nI (il + 1) := e32.trans (nI_add (il) (1))
  refine r_put (v := (nI (il + 1))) (ty := .int) hx hb hown hq hE hP hD hS 76 630 tFX12_76 (by decide) pw_1880 (by decide) rfl rfl (ms_76 a _ _) dX12_lookWhile_56 (fun H locs hP hD hS => ?_)
  refine lv_aload_n hx hb dX12_lookWhile_59 rfl (lv_at hl 3 rfl) ?_
  refine lv_aload_n hx hb dX12_lookWhile_60 rfl (lv_at hl 3 rfl) ?_
  refine r_get (v := .ref (a 13)) hx hb hown hq hE hP 21 50 tFX12_21 (by decide) pw_1443 rfl dX12_lookWhile_61 ?_
  refine lv_iload_n hx hb dX12_lookWhile_64 rfl (lv_at hl 4 rfl) ?_
  refine r_ldi (f := (B 13)) (j := n9) hx hb hE hP 13 (ma_13 G a _) rfl (by omega) (by decide) dX12_lookWhile_65 ?_
  obtain ⟨c33, e34, h35, hp36, h37, hc38, hh39, hg40⟩ := Fs2.kid (kk := 35) (s := 2) hF hn9 hkd (by decide) (by decide) (by decide) (by decide) (by omega)
  refine lv_topi (fun x41 e42 => ?_)
  obtain rfl : x41 = nI c33 := e42.trans e34
  have hP : va_P G.1 pCl (mW G h0 a (upd (upd (upd (upd (upd (upd (upd (upd (upd (upd (upd (upd (upd (upd (upd (upd (upd (upd (upd (upd (upd (upd (upd (upd (upd F 15 (nI fa16)) 16 pl17) 44 (nI fd)) 49 (nI md)) 73 (nI sc)) 74 (nI k9)) 75 (nI rs)) 76 (nI (il + 1))) 77 wt19) 78 wt19) 79 wf20) 80 (-1)) 81 ac) 15 (nI fa16)) 44 (nI fd)) 49 (nI md)) 73 (nI sc)) 74 (nI k9)) 75 (nI rs)) 76 (nI (il + 1))) 77 wt19) 78 wt19) 79 wf20) 80 (-1)) 81 ac) (updA (updA (updA (updA (updA B 14 nc) 17 ty21) 18 mn22) 48 vn) 49 vt)) _ := hP
  have hD : va_D A (mW G h0 a (upd (upd (upd (upd (upd (upd (upd (upd (upd (upd (upd (upd (upd (upd (upd (upd (upd (upd (upd (upd (upd (upd (upd (upd (upd F 15 (nI fa16)) 16 pl17) 44 (nI fd)) 49 (nI md)) 73 (nI sc)) 74 (nI k9)) 75 (nI rs)) 76 (nI (il + 1))) 77 wt19) 78 wt19) 79 wf20) 80 (-1)) 81 ac) 15 (nI fa16)) 44 (nI fd)) 49 (nI md)) 73 (nI sc)) 74 (nI k9)) 75 (nI rs)) 76 (nI (il + 1))) 77 wt19) 78 wt19) 79 wf20) 80 (-1)) 81 ac) (updA (updA (updA (updA (updA B 14 nc) 17 ty21) 18 mn22) 48 vn) 49 vt)) := hD
  refine pc_V0 (G := G) (As := [.int (nI c33)]) (rest := []) hx hb hml hown hq hE hX pX0_al hP hD hS hA hl.1 (ihS h0 a (upd (upd (upd (upd (upd (upd (upd (upd (upd (upd (upd (upd (upd F 15 (nI fa16)) 16 pl17) 44 (nI fd)) 49 (nI md)) 73 (nI sc)) 74 (nI k9)) 75 (nI rs)) 76 (nI (il + 1))) 77 wt19) 78 wt19) 79 wf20) 80 (-1)) 81 ac) B c33 fa16 sc (il + 1) k9 rs nd T nm wr lz dc fd md pr bk gh wt19 wt19 wf20 (-1) ac nc ty21 mn22 vn vt ev hst hnm h35 (by omega) (by omega) (by omega) hk9 hnc h26 (by omega) hrs (by omega) (mnC.beside hF (by omega) hn9 (mnC.own hF (by omega) hn9 (mnC.kid hmc (by omega) hp36) h35 hp36) h35 h5 hp36 hp6 (fun e => by have z := hg40; rw [e] at z; have := hg10; omega) (ChS.ofE h25)) hvt hve (kcl_3_7 hc38)) (gV pw_1874 pw_1875 pw_1876 pw_1523 pw_1884) hV_X12_lookStatement 0 9 rfl rfl rfl rfl (Nat.le_of_ble_eq_true rfl) dX12_lookWhile_66 ⟨Nat.le_of_ble_eq_true rfl, Nat.le_of_ble_eq_true rfl⟩ ⟨(by show (4 * (z9 - 1) + 14) + 1 ≤ (4 * z9 + 13); omega), (by show 8 + (4 + 11) + (160 * (z9 - 1) + 1700) ≤ (160 * z9 + 1660); omega)⟩ (fun v45 u43 H locs hw44 hP hD hS => ?_)
  obtain ⟨fa46, sc47, pl48, dn49, wt50, wf51, ab52, ac53, nc54, ty55, mn56, vn57, vt58⟩ := u43
  obtain ⟨hw44, h59, h60, h61, h62, h63, h64, h65, h66, h67⟩ := hw44
  replace h59 : fa16 ≤ fa46 := h59
  replace h60 : fa46 ≤ 15 := h60
  replace h61 : sc ≤ sc47 := h61
  replace h62 : sc47 ≤ 30 := h62
  replace h63 : ChS B nd c33 ty21 ty55 mn22 mn56 nc nc54 := h63
  replace h64 : mnN B nd mn56 := h64
  replace h65 : ∀ i : Nat, i < nd → ¬ (B 9) i = 44 → nc54 i = nc i := h65
  replace h66 : ∀ i : Nat, i < sc → vt58 i = vt i := h66
  replace h67 : If (fa46 = 0) (TyS B dc fd md nd ty55 mn56 nc54 k9 rs c33 (sc, (il + 1), ev) ∧ sc47 = (aft B c33 (sc, (il + 1), ev)).1 ∧ ∀ i : Nat, i < sc47 → vt58 i = (aft B c33 (sc, (il + 1), ev)).2.2 i ∧ tyOK dc (vt58 i)) := h67
  obtain rfl : v45 = none := hw44
  have hP : va_P G.1 pCl (mW G h0 a (upd (upd (upd (upd (upd (upd (upd (upd (upd (upd (upd (upd (upd F 15 (nI fa46)) 16 pl48) 44 (nI fd)) 49 (nI md)) 73 (nI sc47)) 74 (nI k9)) 75 (nI rs)) 76 (nI (il + 1))) 77 dn49) 78 wt50) 79 wf51) 80 ab52) 81 ac53) (updA (updA (updA (updA (updA B 14 nc54) 17 ty55) 18 mn56) 48 vn57) 49 vt58)) _ := hP
  have hD : va_D A (mW G h0 a (upd (upd (upd (upd (upd (upd (upd (upd (upd (upd (upd (upd (upd F 15 (nI fa46)) 16 pl48) 44 (nI fd)) 49 (nI md)) 73 (nI sc47)) 74 (nI k9)) 75 (nI rs)) 76 (nI (il + 1))) 77 dn49) 78 wt50) 79 wf51) 80 ab52) 81 ac53) (updA (updA (updA (updA (updA B 14 nc54) 17 ty55) 18 mn56) 48 vn57) 49 vt58)) := hD
  refine W.widen (k := 0) (n := 0) (Nat.le_of_ble_eq_true rfl) (Nat.le_of_ble_eq_true rfl) ?_
  refine W.eq (g2 := F0 m 69 ls []) rfl ?_
  have hch68 : ChS B nd n9 ty ty55 mn mn56 nc nc54 := (ChS.trans hch28 (ChS.kid h63 (by omega) hp36))
  have hsl69 : If (fa16 = 0) (slP B n9 (sc, il, ev) (fun c e9 => TyS B dc fd md nd ty55 mn56 nc54 k9 rs c e9) 35 1) := (fun e => slP.beside (kk := 35) (s := 1) hF (by omega) hn9 hkd (by decide) (by decide) (by decide) h35 hp36 hg40 (by decide) h63 (hsl30 e))
  have ho70 : mn56 n9 = nI sc := ((ChS.own hF (by omega) hn9 h35 hp36 h63).1.trans ho29)
  have hq871 : ∀ i : Nat, i < sc → vt58 i = vt i := (fun i h => (h66 i (by omega)).trans ((fun i h => rfl) i h))
  have hvt72 : ∀ i : Nat, i < sc → tyOK dc (vt58 i) := (fun i h => by rw [h66 i h]; exact hvt i h)
  have hve73 : ∀ i : Nat, i < sc → vt58 i = ev i := (fun i h => (h66 i h).trans (hve i h))
  have hsl74 : If (fa46 = 0) (slP B n9 (sc, il, ev) (fun c e9 => TyS B dc fd md nd ty55 mn56 nc54 k9 rs c e9) 35 2) := (fun e => slP.one (by decide) (by omega) e34 (h67 e).1)
  refine lv_aload_n hx hb dX12_lookWhile_69 rfl (lv_at hl 3 rfl) ?_
  refine lv_dup hx hb dX12_lookWhile_70 rfl ?_
  refine r_get (v := .int (nI (il + 1))) hx hb hown hq hE hP 76 630 tFX12_76 (by decide) pw_1880 rfl dX12_lookWhile_71 ?_
  refine lv_iconst (v := 1) hx hb dX12_lookWhile_74 (by decide) ?_
  refine lv_isub hx hb dX12_lookWhile_75 ?_
  refine lv_topi (fun x75 e76 => ?_)
  obtain rfl : x75 = nI ((il + 1) - 1) := e76.trans (nI_subN (a := 1) (b := (il + 1)) (by omega))
  refine lv_topi (fun x77 e78 => ?_)
  obtain rfl : x77 = nI il := e78.trans (congrArg nI (by omega))
  refine r_put (v := (nI il)) (ty := .int) hx hb hown hq hE hP hD hS 76 630 tFX12_76 (by decide) pw_1880 (by decide) rfl rfl (ms_76 a _ _) dX12_lookWhile_76 (fun H locs hP hD hS => ?_)
  refine lv_aload_n hx hb dX12_lookWhile_79 rfl (lv_at hl 3 rfl) ?_
  refine lv_iload hx hb dX12_lookWhile_80 (lv_at hl 0 rfl) ?_
  refine lv_aload_n hx hb dX12_lookWhile_82 rfl (lv_at hl 3 rfl) ?_
  refine r_get (v := .int ab52) hx hb hown hq hE hP 80 633 tFX12_80 (by decide) pw_1878 rfl dX12_lookWhile_83 ?_
  refine lv_iand hx hb dX12_lookWhile_86 ?_
  refine lv_topi (fun x79 e80 => ?_)
  refine r_put (v := x79) (ty := .int) hx hb hown hq hE hP hD hS 77 544 tFX12_77 (by decide) pw_1796 (by decide) rfl rfl (ms_77 a _ _) dX12_lookWhile_87 (fun H locs hP hD hS => ?_)
  refine lv_aload_n hx hb dX12_lookWhile_90 rfl (lv_at hl 3 rfl) ?_
  refine lv_iload_n hx hb dX12_lookWhile_91 rfl (lv_at hl 2 rfl) ?_
  refine r_put (v := ab) (ty := .int) hx hb hown hq hE hP hD hS 80 633 tFX12_80 (by decide) pw_1878 (by decide) rfl rfl (ms_80 a _ _) dX12_lookWhile_92 (fun H locs hP hD hS => ?_)
  refine lv_aload_n hx hb dX12_lookWhile_95 rfl (lv_at hl 3 rfl) ?_
  refine lv_iload_n hx hb dX12_lookWhile_96 rfl (lv_at hl 1 rfl) ?_
  refine r_put (v := ac) (ty := .int) hx hb hown hq hE hP hD hS 81 636 tFX12_81 (by decide) pw_1879 (by decide) rfl rfl (ms_81 a _ _) dX12_lookWhile_97 (fun H locs hP hD hS => ?_)
  have hse81 : If (fa46 = 0) (sc47 = sc) := (fun e => by have z := (h67 e).2.1; rw [aft_no (kcl_no30 (q := 3) (by omega) hc38)] at z; exact z)
  have hz82 : fa ≤ fa46 := (by omega)
  have hz83 : fa46 ≤ 15 := (by omega)
  have hz84 : sc ≤ sc47 := (by omega)
  have hz85 : sc47 ≤ 30 := (by omega)
  have hz86 : ChS B nd n9 ty ty55 mn mn56 nc nc54 := hch68
  have hz87 : mnN B nd mn56 := h64
  have hz88 : ∀ i : Nat, i < nd → ¬ B 9 i = 44 → nc54 i = B 14 i := h65
  have hz89 : ∀ i : Nat, i < sc → vt58 i = vt i := hq871
  have hz90 : If (fa46 = 0) (TyS B dc fd md nd ty55 mn56 nc54 k9 rs n9 (sc, il, ev) ∧ sc47 = (aft B n9 (sc, il, ev)).1 ∧ ∀ i : Nat, i < sc47 → vt58 i = (aft B n9 (sc, il, ev)).2.2 i ∧ tyOK dc (vt58 i)) := (fun e => ⟨TyS.of (steps (kk := 35) hkd (by decide) (hsl69 (by omega)) (hsl74 (by omega)) (slP.no (by decide)) (slP.no (by decide))) (LTX.st hkd (by decide) (by decide) (show LSk B dc ty55 mn56 nc54 rs n9 (sc, il, ev) 35 from ⟨ho70, by rw [hh9]; exact ((ChS.at hF (by omega) hn9 h5 h35 hp6 hp36 (fun e => by have z := hg10; rw [e] at z; have := hg40; omega) h63).trans (h27 (by omega)).2)⟩)), (by rw [(aft_no (by rw [hkd]; decide))]; exact hse81 (by omega)), (fun i h => by rw [(aft_no (by rw [hkd]; decide))]; have z := hse81 (by omega); exact ⟨hve73 i (by omega), hvt72 i (by omega)⟩)⟩)
  have hP : va_P G.1 pCl (mW G h0 a (upd (upd (upd (upd (upd (upd (upd (upd (upd (upd (upd (upd (upd F 15 (nI fa46)) 16 pl48) 44 (nI fd)) 49 (nI md)) 73 (nI sc47)) 74 (nI k9)) 75 (nI rs)) 76 (nI il)) 77 x79) 78 wt50) 79 wf51) 80 ab) 81 ac) (updA (updA (updA (updA (updA B 14 nc54) 17 ty55) 18 mn56) 48 vn57) 49 vt58)) _ := hP
  have hD : va_D A (mW G h0 a (upd (upd (upd (upd (upd (upd (upd (upd (upd (upd (upd (upd (upd F 15 (nI fa46)) 16 pl48) 44 (nI fd)) 49 (nI md)) 73 (nI sc47)) 74 (nI k9)) 75 (nI rs)) 76 (nI il)) 77 x79) 78 wt50) 79 wf51) 80 ab) 81 ac) (updA (updA (updA (updA (updA B 14 nc54) 17 ty55) 18 mn56) 48 vn57) 49 vt58)) := hD
  exact W.vret hx hb hr (fun t9 ht9 hW9 => ⟨⟨_, (fa46, sc47, pl48, x79, wt50, wf51, ab, ac, nc54, ty55, mn56, vn57, vt58), rfl, ⟨rfl, hz82, hz83, hz84, hz85, hz86, hz87, hz88, hz89, hz90⟩, by rw [ht9]; exact hP, hD⟩, hS.F ht9⟩) hS.2.2 dX12_lookWhile_100

theorem upd_agr {f g : Nat → Int32} {n : Nat} {v : Int32} (h : ∀ i : Nat, i < n → f i = g i) : ∀ i : Nat, i < n + 1 → upd f n v i = upd g n v i := fun i hi => by
  unfold upd
  by_cases e : i = n
  · rw [if_pos e, if_pos e]
  · rw [if_neg e, if_neg e]; exact h i (by omega)
theorem chN_1 {X : Nat → Nat → Int32} {n y : Nat} (e : X 12 n = nI y) (hy : y < 2 ^ 31) : chN X 1 n = y := by
  unfold chN; rw [show 11 + 1 = 12 from rfl, e, nI_cl hy]
theorem dX12_lookLocal_0 : decode cX12_lookLocal 0 = .ok (.aload_n 0, 1) := by decide +kernel
theorem dX12_lookLocal_1 : decode cX12_lookLocal 1 = .ok (.getfield 65, 3) := by decide +kernel
theorem dX12_lookLocal_4 : decode cX12_lookLocal 4 = .ok (.iload_n 1, 1) := by decide +kernel
theorem dX12_lookLocal_5 : decode cX12_lookLocal 5 = .ok (.aload_n 0, 1) := by decide +kernel
theorem dX12_lookLocal_6 : decode cX12_lookLocal 6 = .ok (.aload_n 0, 1) := by decide +kernel
theorem dX12_lookLocal_7 : decode cX12_lookLocal 7 = .ok (.getfield 44, 3) := by decide +kernel
theorem dX12_lookLocal_10 : decode cX12_lookLocal 10 = .ok (.iload_n 1, 1) := by decide +kernel
theorem dX12_lookLocal_11 : decode cX12_lookLocal 11 = .ok (.iaload, 1) := by decide +kernel
theorem dX12_lookLocal_12 : decode cX12_lookLocal 12 = .ok (.aload_n 0, 1) := by decide +kernel
theorem dX12_lookLocal_13 : decode cX12_lookLocal 13 = .ok (.getfield 75, 3) := by decide +kernel
theorem dX12_lookLocal_16 : decode cX12_lookLocal 16 = .ok (.aload_n 0, 1) := by decide +kernel
theorem dX12_lookLocal_17 : decode cX12_lookLocal 17 = .ok (.getfield 47, 3) := by decide +kernel
theorem dX12_lookLocal_20 : decode cX12_lookLocal 20 = .ok (.iload_n 1, 1) := by decide +kernel
theorem dX12_lookLocal_21 : decode cX12_lookLocal 21 = .ok (.iaload, 1) := by decide +kernel
theorem dX12_lookLocal_22 : decode cX12_lookLocal 22 = .ok (.iaload, 1) := by decide +kernel
theorem dX12_lookLocal_23 : decode cX12_lookLocal 23 = .ok (.iconst 0, 1) := by decide +kernel
theorem dX12_lookLocal_24 : decode cX12_lookLocal 24 = .ok (.invokevirtual 642, 3) := by decide +kernel
theorem dX12_lookLocal_27 : decode cX12_lookLocal 27 = .ok (.iastore, 1) := by decide +kernel
theorem dX12_lookLocal_28 : decode cX12_lookLocal 28 = .ok (.aload_n 0, 1) := by decide +kernel
theorem dX12_lookLocal_29 : decode cX12_lookLocal 29 = .ok (.getfield 50, 3) := by decide +kernel
theorem dX12_lookLocal_32 : decode cX12_lookLocal 32 = .ok (.iload_n 1, 1) := by decide +kernel
theorem dX12_lookLocal_33 : decode cX12_lookLocal 33 = .ok (.iaload, 1) := by decide +kernel
theorem dX12_lookLocal_34 : decode cX12_lookLocal 34 = .ok (.iconst (-1), 1) := by decide +kernel
theorem dX12_lookLocal_35 : decode cX12_lookLocal 35 = .ok (.if_icmp .eq 10, 3) := by decide +kernel
theorem dX12_lookLocal_45 : decode cX12_lookLocal 45 = .ok (.return_, 1) := by decide +kernel
theorem dX12_lookLocal_38 : decode cX12_lookLocal 38 = .ok (.aload_n 0, 1) := by decide +kernel
theorem dX12_lookLocal_39 : decode cX12_lookLocal 39 = .ok (.getfield 350, 3) := by decide +kernel
theorem dX12_lookLocal_42 : decode cX12_lookLocal 42 = .ok (.ifCond .le 4, 3) := by decide +kernel
theorem dX12_lookLocal_46 : decode cX12_lookLocal 46 = .ok (.aload_n 0, 1) := by decide +kernel
theorem dX12_lookLocal_47 : decode cX12_lookLocal 47 = .ok (.aload_n 0, 1) := by decide +kernel
theorem dX12_lookLocal_48 : decode cX12_lookLocal 48 = .ok (.getfield 50, 3) := by decide +kernel
theorem dX12_lookLocal_51 : decode cX12_lookLocal 51 = .ok (.iload_n 1, 1) := by decide +kernel
theorem dX12_lookLocal_52 : decode cX12_lookLocal 52 = .ok (.iaload, 1) := by decide +kernel
theorem dX12_lookLocal_53 : decode cX12_lookLocal 53 = .ok (.invokevirtual 557, 3) := by decide +kernel
theorem dX12_lookLocal_56 : decode cX12_lookLocal 56 = .ok (.istore_n 2, 1) := by decide +kernel
theorem dX12_lookLocal_57 : decode cX12_lookLocal 57 = .ok (.aload_n 0, 1) := by decide +kernel
theorem dX12_lookLocal_58 : decode cX12_lookLocal 58 = .ok (.aload_n 0, 1) := by decide +kernel
theorem dX12_lookLocal_59 : decode cX12_lookLocal 59 = .ok (.iload_n 2, 1) := by decide +kernel
theorem dX12_lookLocal_60 : decode cX12_lookLocal 60 = .ok (.aload_n 0, 1) := by decide +kernel
theorem dX12_lookLocal_61 : decode cX12_lookLocal 61 = .ok (.getfield 75, 3) := by decide +kernel
theorem dX12_lookLocal_64 : decode cX12_lookLocal 64 = .ok (.aload_n 0, 1) := by decide +kernel
theorem dX12_lookLocal_65 : decode cX12_lookLocal 65 = .ok (.getfield 47, 3) := by decide +kernel
theorem dX12_lookLocal_68 : decode cX12_lookLocal 68 = .ok (.iload_n 1, 1) := by decide +kernel
theorem dX12_lookLocal_69 : decode cX12_lookLocal 69 = .ok (.iaload, 1) := by decide +kernel
theorem dX12_lookLocal_70 : decode cX12_lookLocal 70 = .ok (.iaload, 1) := by decide +kernel
theorem dX12_lookLocal_71 : decode cX12_lookLocal 71 = .ok (.invokevirtual 534, 3) := by decide +kernel
theorem dX12_lookLocal_74 : decode cX12_lookLocal 74 = .ok (.bipush 11, 2) := by decide +kernel
theorem dX12_lookLocal_76 : decode cX12_lookLocal 76 = .ok (.aload_n 0, 1) := by decide +kernel
theorem dX12_lookLocal_77 : decode cX12_lookLocal 77 = .ok (.getfield 41, 3) := by decide +kernel
theorem dX12_lookLocal_80 : decode cX12_lookLocal 80 = .ok (.aload_n 0, 1) := by decide +kernel
theorem dX12_lookLocal_81 : decode cX12_lookLocal 81 = .ok (.getfield 50, 3) := by decide +kernel
theorem dX12_lookLocal_84 : decode cX12_lookLocal 84 = .ok (.iload_n 1, 1) := by decide +kernel
theorem dX12_lookLocal_85 : decode cX12_lookLocal 85 = .ok (.iaload, 1) := by decide +kernel
theorem dX12_lookLocal_86 : decode cX12_lookLocal 86 = .ok (.iaload, 1) := by decide +kernel
theorem dX12_lookLocal_87 : decode cX12_lookLocal 87 = .ok (.invokevirtual 540, 3) := by decide +kernel
theorem dX12_lookLocal_90 : decode cX12_lookLocal 90 = .ok (.pop, 1) := by decide +kernel
theorem dX12_lookLocal_91 : decode cX12_lookLocal 91 = .ok (.aload_n 0, 1) := by decide +kernel
theorem dX12_lookLocal_92 : decode cX12_lookLocal 92 = .ok (.dup, 1) := by decide +kernel
theorem dX12_lookLocal_93 : decode cX12_lookLocal 93 = .ok (.getfield 544, 3) := by decide +kernel
theorem dX12_lookLocal_96 : decode cX12_lookLocal 96 = .ok (.iconst 1, 1) := by decide +kernel
theorem dX12_lookLocal_97 : decode cX12_lookLocal 97 = .ok (.aload_n 0, 1) := by decide +kernel
theorem dX12_lookLocal_98 : decode cX12_lookLocal 98 = .ok (.getfield 65, 3) := by decide +kernel
theorem dX12_lookLocal_101 : decode cX12_lookLocal 101 = .ok (.iload_n 1, 1) := by decide +kernel
theorem dX12_lookLocal_102 : decode cX12_lookLocal 102 = .ok (.iaload, 1) := by decide +kernel
theorem dX12_lookLocal_103 : decode cX12_lookLocal 103 = .ok (.ishl, 1) := by decide +kernel
theorem dX12_lookLocal_104 : decode cX12_lookLocal 104 = .ok (.ior, 1) := by decide +kernel
theorem dX12_lookLocal_105 : decode cX12_lookLocal 105 = .ok (.putfield 544, 3) := by decide +kernel
theorem dX12_lookLocal_108 : decode cX12_lookLocal 108 = .ok (.return_, 1) := by decide +kernel
theorem hV_X12_comes : yX12_comes.cls = RX12 ∧ yX12_comes.cls ≠ "java/lang/invoke/MethodHandle" ∧ yX12_comes.cls ≠ "java/lang/invoke/VarHandle" ∧ (parseMethodDescriptor yX12_comes.desc).map (fun d => d.parameters.length) = some 3 := by decide +kernel
set_option maxHeartbeats 8000000 in
set_option maxRecDepth 100000 in
/-- lookLocal(n) -/
theorem L_lookLocal (l : Launch) (G : pT) (h0 : Nat) (a : Nat → Nat) (F : Nat → Int32) (B : Nat → Nat → Int32) (n9 : Nat) (z9 : Nat) (fa : Nat) (sc : Nat) (il : Nat) (k9 : Nat) (rs : Nat) (nd : Nat) (T : Nat) (nm : Nat) (wr : Nat) (lz : Nat) (dc : Nat) (fd : Nat) (md : Nat) (pr : Nat) (bk : Nat) (gh : Nat → Nat → Nat) (dn : Int32) (wt : Int32) (wf : Int32) (ab : Int32) (ac : Int32) (nc : Nat → Int32) (ty : Nat → Int32) (mn : Nat → Int32) (vn : Nat → Int32) (vt : Nat → Int32) (ev : Nat → Int32) (hst : St B gh nd T nm wr lz dc fd md pr bk) (hnm : nd ≤ 12000 ∧ T ≤ 5000 ∧ wr ≤ 5000 ∧ 7 ≤ dc ∧ dc ≤ 37 ∧ fd ≤ 620 ∧ md ≤ 920 ∧ pr ≤ 5000) (hn9 : n9 < nd) (hz : gh 1 n9 < z9) (hfa : fa ≤ 15) (hsc : sc ≤ 30) (hk9 : 7 ≤ k9 ∧ k9 < dc) (hnc : ∀ i : Nat, i < nd → ¬ B 9 i = 44 → nc i = B 14 i) (hmn : mnN B nd mn) (hil : il + z9 ≤ 1000) (hrs : TyC dc rs) (hrs5 : rs ≤ 2050) (hmc : mnC B nd n9 mn) (hvt : ∀ i : Nat, i < sc → tyOK dc (vt i)) (hve : ∀ i : Nat, i < sc → vt i = ev i) (hkd : B 9 n9 = nI 30) (ihS : PlookStatement l G (z9 - 1)) : PM l G pX0 yX12_lookLocal cX12_lookLocal 3 none ({ frames := (4 * z9 + 13), cells := 0, slots := 0, locals := (160 * z9 + 1660) }) [.ref h0, .int (nI n9)] (mW G h0 a (upd (upd (upd (upd (upd (upd (upd (upd (upd (upd (upd (upd F 15 (nI fa)) 44 (nI fd)) 49 (nI md)) 73 (nI sc)) 74 (nI k9)) 75 (nI rs)) 76 (nI il)) 77 dn) 78 wt) 79 wf) 80 ab) 81 ac) (updA (updA (updA (updA (updA B 14 nc) 17 ty) 18 mn) 48 vn) 49 vt)) (fun (v : Option Value) (u : Nat × Nat × Int32 × Int32 × Int32 × Int32 × Int32 × Int32 × (Nat → Int32) × (Nat → Int32) × (Nat → Int32) × (Nat → Int32) × (Nat → Int32)) => v = none ∧ (fa ≤ u.1) ∧ (u.1 ≤ 15) ∧ (sc ≤ u.2.1) ∧ (u.2.1 ≤ 30) ∧ (ChS B nd n9 ty u.2.2.2.2.2.2.2.2.2.1 mn u.2.2.2.2.2.2.2.2.2.2.1 nc u.2.2.2.2.2.2.2.2.1) ∧ (mnN B nd u.2.2.2.2.2.2.2.2.2.2.1) ∧ (∀ i : Nat, i < nd → ¬ (B) 9 i = 44 → u.2.2.2.2.2.2.2.2.1 i = (B) 14 i) ∧ (∀ i : Nat, i < sc → u.2.2.2.2.2.2.2.2.2.2.2.2 i = vt i) ∧ (If (u.1 = 0) (TyS B dc fd md nd u.2.2.2.2.2.2.2.2.2.1 u.2.2.2.2.2.2.2.2.2.2.1 u.2.2.2.2.2.2.2.2.1 k9 rs n9 (sc, il, ev) ∧ u.2.1 = (aft B n9 (sc, il, ev)).1 ∧ ∀ i : Nat, i < u.2.1 → u.2.2.2.2.2.2.2.2.2.2.2.2 i = (aft B n9 (sc, il, ev)).2.2 i ∧ tyOK dc (u.2.2.2.2.2.2.2.2.2.2.2.2 i)))) (fun u => (mW G h0 a (upd (upd (upd (upd (upd (upd (upd (upd (upd (upd (upd (upd (upd F 15 (nI u.1)) 16 u.2.2.1) 44 (nI fd)) 49 (nI md)) 73 (nI u.2.1)) 74 (nI k9)) 75 (nI rs)) 76 (nI il)) 77 u.2.2.2.1) 78 u.2.2.2.2.1) 79 u.2.2.2.2.2.1) 80 u.2.2.2.2.2.2.1) 81 u.2.2.2.2.2.2.2.1) (updA (updA (updA (updA (updA B 14 u.2.2.2.2.2.2.2.2.1) 17 u.2.2.2.2.2.2.2.2.2.1) 18 u.2.2.2.2.2.2.2.2.2.2.1) 48 u.2.2.2.2.2.2.2.2.2.2.2.1) 49 u.2.2.2.2.2.2.2.2.2.2.2.2))) := by
  intro sz
  refine Met.ofW (cc := cX12_lookLocal) (maxL := 3) (ret := none) (by decide) rfl ?_
  intro p e s m args below meth c s₁ B9 hml hv
  obtain ⟨rfl, hsz, hP, hD0, hE, hX⟩ := hv
  have hx := B9.exec
  have hb := B9.bytes
  have hr := B9.returns
  have hts := atoms_spec (ws := Cond.code yX12_lookLocal cX12_lookLocal 3 none :: pw) B9.pre
  have hq : ∀ w ∈ pw, w.before _ s = true := fun w h => hts w (List.mem_cons_of_mem _ h)
  have hown : s.vm.findClass RX12 = some m.cls := findClass_of_methodNamed B9.named
  have hlocks := B9.notSynchronized
  subst hsz
  have hD := hD0.self (sz := s.heap.size)
  have hA : ∀ q : Nat, s.heap.size ≤ q → va_A (mW G h0 a (upd (upd (upd (upd (upd (upd (upd (upd (upd (upd (upd (upd F 15 (nI fa)) 44 (nI fd)) 49 (nI md)) 73 (nI sc)) 74 (nI k9)) 75 (nI rs)) 76 (nI il)) 77 dn) 78 wt) 79 wf) 80 ab) 81 ac) (updA (updA (updA (updA (updA B 14 nc) 17 ty) 18 mn) 48 vn) 49 vt)) s.heap.size q := fun q h => Or.inr h
  have hP : va_P G.1 pCl (mW G h0 a (upd (upd (upd (upd (upd (upd (upd (upd (upd (upd (upd (upd F 15 (nI fa)) 44 (nI fd)) 49 (nI md)) 73 (nI sc)) 74 (nI k9)) 75 (nI rs)) 76 (nI il)) 77 dn) 78 wt) 79 wf) 80 ab) 81 ac) (updA (updA (updA (updA (updA B 14 nc) 17 ty) 18 mn) 48 vn) 49 vt)) s.heap := hP
  generalize va_A (mW G h0 a (upd (upd (upd (upd (upd (upd (upd (upd (upd (upd (upd (upd F 15 (nI fa)) 44 (nI fd)) 49 (nI md)) 73 (nI sc)) 74 (nI k9)) 75 (nI rs)) 76 (nI il)) 77 dn) 78 wt) 79 wf) 80 ab) 81 ac) (updA (updA (updA (updA (updA B 14 nc) 17 ty) 18 mn) 48 vn) 49 vt)) s.heap.size = A at hD hE hA ⊢
  have hS : va_S A s.heap s.heap [] := va_S.rf
  have hl := lv_entry ([.ref h0, .int (nI n9)]) (n := 3) (Nat.le_of_ble_eq_true rfl)
  rw [lg_entry_eq]
  generalize (lg_sl ([.ref h0, .int (nI n9)]) ++ List.replicate (3 - (lg_sl ([.ref h0, .int (nI n9)])).length) Slot.unset).toArray = ls at hl ⊢
  have hl : lv_has ls 3 [(0, .ref h0), (1, .int (nI n9))] := hl
  have hF := hst.1
  have hPS := hst.2.1
  have hBI := hst.2.2.1
  have hRK := hst.2.2.2.1
  have hTY := hst.2.2.2.2.1
  have hNW := hst.2.2.2.2.2.1
  have hTK := hst.2.2.2.2.2.2
  refine lv_aload_n hx hb dX12_lookLocal_0 rfl (lv_at hl 0 rfl) ?_
  refine r_get (v := .ref (a 18)) hx hb hown hq hE hP 26 65 tFX12_26 (by decide) pw_1448 rfl dX12_lookLocal_1 ?_
  refine lv_iload_n hx hb dX12_lookLocal_4 rfl (lv_at hl 1 rfl) ?_
  refine lv_aload_n hx hb dX12_lookLocal_5 rfl (lv_at hl 0 rfl) ?_
  refine lv_aload_n hx hb dX12_lookLocal_6 rfl (lv_at hl 0 rfl) ?_
  refine r_get (v := .ref (a 11)) hx hb hown hq hE hP 19 44 tFX12_19 (by decide) pw_1441 rfl dX12_lookLocal_7 ?_
  refine lv_iload_n hx hb dX12_lookLocal_10 rfl (lv_at hl 1 rfl) ?_
  refine r_ldi (f := (B 11)) (j := n9) hx hb hE hP 11 (ma_11 G a _) rfl (by omega) (by decide) dX12_lookLocal_11 ?_
  obtain ⟨-, ⟨t1, e2, h3, -⟩, -⟩ := hF n9 hn9
  refine lv_topi (fun x4 e5 => ?_)
  obtain rfl : x4 = nI t1 := e5.trans e2
  refine lv_aload_n hx hb dX12_lookLocal_12 rfl (lv_at hl 0 rfl) ?_
  refine r_get (v := .ref (a 21)) hx hb hown hq hE hP 30 75 tFX12_30 (by decide) pw_1452 rfl dX12_lookLocal_13 ?_
  refine lv_aload_n hx hb dX12_lookLocal_16 rfl (lv_at hl 0 rfl) ?_
  refine r_get (v := .ref (a 12)) hx hb hown hq hE hP 20 47 tFX12_20 (by decide) pw_1442 rfl dX12_lookLocal_17 ?_
  refine lv_iload_n hx hb dX12_lookLocal_20 rfl (lv_at hl 1 rfl) ?_
  refine r_ldi (f := (B 12)) (j := n9) hx hb hE hP 12 (ma_12 G a _) rfl (by omega) (by decide) dX12_lookLocal_21 ?_
  obtain ⟨y6, e7, h8⟩ : ∃ y : Nat, B 12 n9 = nI y ∧ y < wr := by
    obtain ⟨k2, e2, _, k24, hs⟩ := hF.knd hn9
    have ek : k2 = 30 := (nI_eq (by omega) (by omega)).mp (e2.symm.trans hkd)
    subst ek
    exact (hs 1 (by omega) (by omega)).1 (by decide)
  refine lv_topi (fun x13 e14 => ?_)
  obtain rfl : x13 = nI y6 := e14.trans e7
  refine r_ldi (f := (B 21)) (j := y6) hx hb hE hP 21 (ma_21 G a _) rfl (by omega) (by decide) dX12_lookLocal_22 ?_
  obtain ⟨x15, e16, h17, h18, h19, h20⟩ := tyOK.tc (hTY y6 (by omega)) (by omega)
  refine lv_topi (fun x21 e22 => ?_)
  obtain rfl : x21 = nI x15 := e22.trans e16
  refine lv_iconst (v := 0) hx hb dX12_lookLocal_23 (by decide) ?_
  have hP : va_P G.1 pCl (mW G h0 a (upd (upd (upd (upd (upd (upd (upd (upd (upd (upd (upd (upd (upd (upd (upd F 15 (nI fa)) 44 (nI fd)) 49 (nI md)) 73 (nI sc)) 74 (nI k9)) 75 (nI rs)) 76 (nI il)) 77 dn) 78 wt) 79 wf) 80 ab) 81 ac) 15 (nI fa)) 73 (nI sc)) 77 dn) (updA (updA (updA (updA (updA (updA B 14 nc) 17 ty) 18 mn) 48 vn) 49 vt) 49 vt)) _ := hP
  have hD : va_D A (mW G h0 a (upd (upd (upd (upd (upd (upd (upd (upd (upd (upd (upd (upd (upd (upd (upd F 15 (nI fa)) 44 (nI fd)) 49 (nI md)) 73 (nI sc)) 74 (nI k9)) 75 (nI rs)) 76 (nI il)) 77 dn) 78 wt) 79 wf) 80 ab) 81 ac) 15 (nI fa)) 73 (nI sc)) 77 dn) (updA (updA (updA (updA (updA (updA B 14 nc) 17 ty) 18 mn) 48 vn) 49 vt) 49 vt)) := mW_D hD
  refine pc_V0 (G := G) (As := [.int (nI t1), .int (nI x15), .int (nI 0)]) (rest := [.int (nI n9), .ref (a 18)]) hx hb hml hown hq hE hX pX0_al hP hD hS hA hl.1 (R_comesL l G h0 a (upd (upd (upd (upd (upd (upd (upd (upd (upd (upd (upd (upd F 15 (nI fa)) 44 (nI fd)) 49 (nI md)) 73 (nI sc)) 74 (nI k9)) 75 (nI rs)) 76 (nI il)) 77 dn) 78 wt) 79 wf) 80 ab) 81 ac) (updA (updA (updA (updA (updA B 14 nc) 17 ty) 18 mn) 48 vn) 49 vt) t1 0 sc fa (nI x15) dn vt (by omega) (by omega) (by omega) (by omega)) (gV pw_1868 pw_1869 pw_1870 pw_1523 pw_1794) hV_X12_comes 0 9 rfl rfl rfl rfl (Nat.le_of_ble_eq_true rfl) dX12_lookLocal_24 ⟨Nat.le_of_ble_eq_true rfl, Nat.le_of_ble_eq_true rfl⟩ ⟨(by show 4 + 1 ≤ (4 * z9 + 13); omega), (by show 8 + (6 + 11) + 105 ≤ (160 * z9 + 1660); omega)⟩ (fun v25 u23 H locs hw24 hP hD hS => ?_)
  obtain ⟨r26, fa27, sc28, pl29, dn30, vn31, vt32⟩ := u23
  obtain ⟨hw24, h33, h34, h35, h36, h37, h38, h39⟩ := hw24
  replace h33 : r26 ≤ 30 := h33
  replace h34 : fa ≤ fa27 := h34
  replace h35 : fa27 ≤ 15 := h35
  replace h36 : sc ≤ sc28 := h36
  replace h37 : sc28 ≤ 30 := h37
  replace h38 : If (fa27 = 0) (sc28 = sc + 1 ∧ r26 = sc ∧ vt32 = upd vt sc (nI x15) ∧ sc < 30) := h38
  replace h39 : ∀ i : Nat, i < sc → vt32 i = vt i := h39
  obtain rfl : v25 = some (.int (nI r26)) := hw24
  have hP : va_P G.1 pCl (mW G h0 a (upd (upd (upd (upd (upd (upd (upd (upd (upd (upd (upd (upd (upd F 15 (nI fa27)) 16 pl29) 44 (nI fd)) 49 (nI md)) 73 (nI sc28)) 74 (nI k9)) 75 (nI rs)) 76 (nI il)) 77 dn30) 78 wt) 79 wf) 80 ab) 81 ac) (updA (updA (updA (updA (updA B 14 nc) 17 ty) 18 mn) 48 vn31) 49 vt32)) _ := mW_to (F := F) (l1 := [(15, (nI fa)), (44, (nI fd)), (49, (nI md)), (73, (nI sc)), (74, (nI k9)), (75, (nI rs)), (76, (nI il)), (77, dn), (78, wt), (79, wf), (80, ab), (81, ac), (15, (nI fa27)), (16, pl29), (73, (nI sc28)), (77, dn30)]) (l2 := [(15, (nI fa27)), (16, pl29), (44, (nI fd)), (49, (nI md)), (73, (nI sc28)), (74, (nI k9)), (75, (nI rs)), (76, (nI il)), (77, dn30), (78, wt), (79, wf), (80, ab), (81, ac)]) (V := [(nI fa27), (nI fd), (nI md), (nI sc28), (nI k9), (nI rs), (nI il), dn30, wt, wf, ab, ac, (nI fa27), pl29, (nI sc28), dn30, (nI fa27), pl29, (nI fd), (nI md), (nI sc28), (nI k9), (nI rs), (nI il), dn30, wt, wf, ab, ac]) rfl rfl (show (updA (updA (updA (updA (updA (updA (updA B 14 nc) 17 ty) 18 mn) 48 vn) 49 vt) 48 vn31) 49 vt32) = (updA (updA (updA (updA (updA B 14 nc) 17 ty) 18 mn) 48 vn31) 49 vt32) from updsA_eq2 (F := B) (l1 := [(14, nc), (17, ty), (18, mn), (48, vn), (49, vt), (48, vn31), (49, vt32)]) (l2 := [(14, nc), (17, ty), (18, mn), (48, vn31), (49, vt32)]) (V := [nc, ty, mn, vn31, vt32, vn31, vt32, nc, ty, mn, vn31, vt32]) rfl rfl) hP
  have hD : va_D A (mW G h0 a (upd (upd (upd (upd (upd (upd (upd (upd (upd (upd (upd (upd (upd F 15 (nI fa27)) 16 pl29) 44 (nI fd)) 49 (nI md)) 73 (nI sc28)) 74 (nI k9)) 75 (nI rs)) 76 (nI il)) 77 dn30) 78 wt) 79 wf) 80 ab) 81 ac) (updA (updA (updA (updA (updA B 14 nc) 17 ty) 18 mn) 48 vn31) 49 vt32)) := mW_D hD
  refine W.widen (k := 0) (n := 0) (Nat.le_of_ble_eq_true rfl) (Nat.le_of_ble_eq_true rfl) ?_
  refine W.eq (g2 := F0 m 27 ls [.int (nI r26), .int (nI n9), .ref (a 18)]) rfl ?_
  refine r_sti (f := mn) (j := n9) hx hb hE hP hD hS 18 (ma_18 G a _) rfl (mas_18 G a _) (by omega) (by decide) dX12_lookLocal_27 (fun H locs hP hD hS => ?_)
  have hch40 : ChS B nd n9 ty ty mn (upd mn n9 (nI r26)) nc nc := (ChS.trans ChS.rfl (ChS.setM sub.rfl))
  have hmn41 : mnN B nd (upd mn n9 (nI r26)) := (mnN.up hmn (by rw [hkd]; decide))
  refine lv_aload_n hx hb dX12_lookLocal_28 rfl (lv_at hl 0 rfl) ?_
  refine r_get (v := .ref (a 13)) hx hb hown hq hE hP 21 50 tFX12_21 (by decide) pw_1443 rfl dX12_lookLocal_29 ?_
  refine lv_iload_n hx hb dX12_lookLocal_32 rfl (lv_at hl 1 rfl) ?_
  refine r_ldi (f := (B 13)) (j := n9) hx hb hE hP 13 (ma_13 G a _) rfl (by omega) (by decide) dX12_lookLocal_33 ?_
  rcases Fs2.kidO (kk := 30) (s := 2) hF hn9 hkd (by decide) (by decide) (by decide) (by decide) (by omega) with e50 | ⟨c42, e43, h44, hp45, h46, hc47, hh48, hg49⟩
  · refine lv_topi (fun x51 e52 => ?_)
    obtain rfl : x51 = (-1) := e52.trans e50
    refine lv_iconst (v := (-1)) hx hb dX12_lookLocal_34 (by decide) ?_
    refine lv_icmp_eq (tgt := 45) hx hb dX12_lookLocal_35 (by decide) (fun c53 => ?_) (fun c53 => absurd c53 (by decide))
    have hz54 : fa ≤ fa27 := (by omega)
    have hz55 : fa27 ≤ 15 := (by omega)
    have hz56 : sc ≤ sc28 := (by omega)
    have hz57 : sc28 ≤ 30 := (by omega)
    have hz58 : ChS B nd n9 ty ty mn (upd mn n9 (nI r26)) nc nc := hch40
    have hz59 : mnN B nd (upd mn n9 (nI r26)) := hmn41
    have hz60 : ∀ i : Nat, i < nd → ¬ (B) 9 i = 44 → nc i = (B) 14 i := hnc
    have hz61 : ∀ i : Nat, i < sc → vt32 i = vt i := h39
    have hz62 : If (fa27 = 0) (TyS B dc fd md nd ty (upd mn n9 (nI r26)) nc k9 rs n9 (sc, il, ev) ∧ sc28 = (aft B n9 (sc, il, ev)).1 ∧ ∀ i : Nat, i < sc28 → vt32 i = (aft B n9 (sc, il, ev)).2.2 i ∧ tyOK dc (vt32 i)) := (fun e => by obtain ⟨z1, z2, z3, z4⟩ := h38 e; subst z1; replace z2 := z2.symm; subst z2; subst z3; exact ⟨TyS.of (steps (kk := 30) hkd (by decide) (slP.no (by decide)) (slP.none (by decide) e50) (slP.no (by decide)) (slP.no (by decide))) (LTX.st hkd (by decide) (by decide) (show LSk B dc _ _ _ rs n9 (sc, il, ev) 30 from ⟨upd_eq, z4, fun c hc q => absurd (e50.symm.trans q).symm (nI_m1 (by omega))⟩)), by rw [(aft_y (X := B) (e := (sc, il, ev)) hkd)], fun i h => by rw [(aft_y (X := B) (e := (sc, il, ev)) hkd), (show B 21 (chN B 1 n9) = nI x15 from by rw [chN_1 e7 (by omega)]; exact e16)]; exact ⟨upd_agr hve i h, all_upd (p := fun _ z => tyOK dc z) hvt (by rw [← e16]; exact hTY y6 (by omega)) i h⟩⟩)
    have hP : va_P G.1 pCl (mW G h0 a (upd (upd (upd (upd (upd (upd (upd (upd (upd (upd (upd (upd (upd F 15 (nI fa27)) 16 pl29) 44 (nI fd)) 49 (nI md)) 73 (nI sc28)) 74 (nI k9)) 75 (nI rs)) 76 (nI il)) 77 dn30) 78 wt) 79 wf) 80 ab) 81 ac) (updA (updA (updA (updA (updA B 14 nc) 17 ty) 18 (upd mn n9 (nI r26))) 48 vn31) 49 vt32)) _ := hP
    have hD : va_D A (mW G h0 a (upd (upd (upd (upd (upd (upd (upd (upd (upd (upd (upd (upd (upd F 15 (nI fa27)) 16 pl29) 44 (nI fd)) 49 (nI md)) 73 (nI sc28)) 74 (nI k9)) 75 (nI rs)) 76 (nI il)) 77 dn30) 78 wt) 79 wf) 80 ab) 81 ac) (updA (updA (updA (updA (updA B 14 nc) 17 ty) 18 (upd mn n9 (nI r26))) 48 vn31) 49 vt32)) := mW_D hD
    exact W.vret hx hb hr (fun t9 ht9 hW9 => ⟨⟨_, (fa27, sc28, pl29, dn30, wt, wf, ab, ac, nc, ty, (upd mn n9 (nI r26)), vn31, vt32), rfl, ⟨rfl, hz54, hz55, hz56, hz57, hz58, hz59, hz60, hz61, hz62⟩, by rw [ht9]; exact hP, hD⟩, hS.F ht9⟩) hS.2.2 dX12_lookLocal_45
  · refine lv_topi (fun x63 e64 => ?_)
    obtain rfl : x63 = nI c42 := e64.trans e43
    refine lv_iconst (v := (-1)) hx hb dX12_lookLocal_34 (by decide) ?_
    refine lv_icmp_eq (tgt := 45) hx hb dX12_lookLocal_35 (by decide) (fun c65 => absurd c65 (nI_m1 (by omega))) (fun c65 => ?_)
    refine lv_aload_n hx hb dX12_lookLocal_38 rfl (lv_at hl 0 rfl) ?_
    refine r_get (v := .int (nI fa27)) hx hb hown hq hE hP 15 350 tFX12_15 (by decide) pw_1594 rfl dX12_lookLocal_39 ?_
    refine lv_if_le (tgt := 46) hx hb dX12_lookLocal_42 (by decide) (fun c66 => ?_) (fun c66 => ?_)
    · have n67 : fa27 ≤ 0 := (nI_leI (a := fa27) (b := 0) (by omega) (by omega)).mp c66
      obtain ⟨e68, e69, e70, e71⟩ := h38 (by omega)
      subst e68
      replace e69 := e69.symm
      subst e69
      subst e70
      have hP : va_P G.1 pCl (mW G h0 a (upd (upd (upd (upd (upd (upd (upd (upd (upd (upd (upd (upd (upd F 15 (nI fa27)) 16 pl29) 44 (nI fd)) 49 (nI md)) 73 (nI (sc + 1))) 74 (nI k9)) 75 (nI rs)) 76 (nI il)) 77 dn30) 78 wt) 79 wf) 80 ab) 81 ac) (updA (updA (updA (updA (updA B 14 nc) 17 ty) 18 (upd mn n9 (nI sc))) 48 vn31) 49 (upd vt sc (nI x15)))) _ := hP
      have hD : va_D A (mW G h0 a (upd (upd (upd (upd (upd (upd (upd (upd (upd (upd (upd (upd (upd F 15 (nI fa27)) 16 pl29) 44 (nI fd)) 49 (nI md)) 73 (nI (sc + 1))) 74 (nI k9)) 75 (nI rs)) 76 (nI il)) 77 dn30) 78 wt) 79 wf) 80 ab) 81 ac) (updA (updA (updA (updA (updA B 14 nc) 17 ty) 18 (upd mn n9 (nI sc))) 48 vn31) 49 (upd vt sc (nI x15)))) := mW_D hD
      have hl : lv_has ls 3 [(0, .ref h0), (1, .int (nI n9))] := hl
      have hvt72 : ∀ i : Nat, i < sc + 1 → tyOK dc (upd vt sc (nI x15) i) := (all_upd (p := fun _ z => tyOK dc z) hvt (by rw [← e16]; exact hTY y6 (by omega)))
      have hve73 : ∀ i : Nat, i < sc + 1 → upd vt sc (nI x15) i = upd ev sc (nI x15) i := (upd_agr hve)
      have hch74 : ChS B nd n9 ty ty mn (upd mn n9 (nI sc)) nc nc := hch40
      have hmn75 : mnN B nd (upd mn n9 (nI sc)) := hmn41
      refine lv_aload_n hx hb dX12_lookLocal_46 rfl (lv_at hl 0 rfl) ?_
      refine lv_aload_n hx hb dX12_lookLocal_47 rfl (lv_at hl 0 rfl) ?_
      refine r_get (v := .ref (a 13)) hx hb hown hq hE hP 21 50 tFX12_21 (by decide) pw_1443 rfl dX12_lookLocal_48 ?_
      refine lv_iload_n hx hb dX12_lookLocal_51 rfl (lv_at hl 1 rfl) ?_
      refine r_ldi (f := (B 13)) (j := n9) hx hb hE hP 13 (ma_13 G a _) rfl (by omega) (by decide) dX12_lookLocal_52 ?_
      refine lv_topi (fun x76 e77 => ?_)
      obtain rfl : x76 = nI c42 := e77.trans e43
      have hP : va_P G.1 pCl (mW G h0 a (upd (upd (upd (upd (upd (upd (upd (upd (upd (upd (upd (upd (upd (upd (upd (upd (upd (upd (upd (upd (upd F 15 (nI fa27)) 16 pl29) 44 (nI fd)) 49 (nI md)) 73 (nI (sc + 1))) 74 (nI k9)) 75 (nI rs)) 76 (nI il)) 77 dn30) 78 wt) 79 wf) 80 ab) 81 ac) 15 (nI fa27)) 44 (nI fd)) 49 (nI md)) 73 (nI (sc + 1))) 74 (nI k9)) 77 dn30) 78 wt) 79 wf) (updA (updA (updA (updA (updA B 14 nc) 17 ty) 18 (upd mn n9 (nI sc))) 48 vn31) 49 (upd vt sc (nI x15)))) _ := mW_to (F := F) (l1 := [(15, (nI fa27)), (16, pl29), (44, (nI fd)), (49, (nI md)), (73, (nI (sc + 1))), (74, (nI k9)), (75, (nI rs)), (76, (nI il)), (77, dn30), (78, wt), (79, wf), (80, ab), (81, ac)]) (l2 := [(15, (nI fa27)), (16, pl29), (44, (nI fd)), (49, (nI md)), (73, (nI (sc + 1))), (74, (nI k9)), (75, (nI rs)), (76, (nI il)), (77, dn30), (78, wt), (79, wf), (80, ab), (81, ac), (15, (nI fa27)), (44, (nI fd)), (49, (nI md)), (73, (nI (sc + 1))), (74, (nI k9)), (77, dn30), (78, wt), (79, wf)]) (V := [(nI fa27), pl29, (nI fd), (nI md), (nI (sc + 1)), (nI k9), (nI rs), (nI il), dn30, wt, wf, ab, ac, (nI fa27), pl29, (nI fd), (nI md), (nI (sc + 1)), (nI k9), (nI rs), (nI il), dn30, wt, wf, ab, ac, (nI fa27), (nI fd), (nI md), (nI (sc + 1)), (nI k9), dn30, wt, wf]) rfl rfl rfl hP
      have hD : va_D A (mW G h0 a (upd (upd (upd (upd (upd (upd (upd (upd (upd (upd (upd (upd (upd (upd (upd (upd (upd (upd (upd (upd (upd F 15 (nI fa27)) 16 pl29) 44 (nI fd)) 49 (nI md)) 73 (nI (sc + 1))) 74 (nI k9)) 75 (nI rs)) 76 (nI il)) 77 dn30) 78 wt) 79 wf) 80 ab) 81 ac) 15 (nI fa27)) 44 (nI fd)) 49 (nI md)) 73 (nI (sc + 1))) 74 (nI k9)) 77 dn30) 78 wt) 79 wf) (updA (updA (updA (updA (updA B 14 nc) 17 ty) 18 (upd mn n9 (nI sc))) 48 vn31) 49 (upd vt sc (nI x15)))) := mW_D hD
      refine pc_V0 (G := G) (As := [.int (nI c42)]) (rest := []) hx hb hml hown hq hE hX pX0_al hP hD hS hA hl.1 ((LK_all l G (z9 - 1)).2.1 h0 a (upd (upd (upd (upd (upd (upd (upd (upd (upd (upd (upd (upd (upd F 15 (nI fa27)) 16 pl29) 44 (nI fd)) 49 (nI md)) 73 (nI (sc + 1))) 74 (nI k9)) 75 (nI rs)) 76 (nI il)) 77 dn30) 78 wt) 79 wf) 80 ab) 81 ac) B c42 fa27 (sc + 1) k9 nd T nm wr lz dc fd md pr bk gh dn30 wt wf nc ty (upd mn n9 (nI sc)) vn31 (upd vt sc (nI x15)) hst hnm h44 (by omega) (by omega) (by omega) hk9 hnc hmn75 hvt72 (show kcl 1 _ = true from hc47)) (gV pw_1822 pw_1823 pw_1824 pw_1523 pw_1830) hV_X12_look 0 9 rfl rfl rfl rfl (Nat.le_of_ble_eq_true rfl) dX12_lookLocal_53 ⟨Nat.le_of_ble_eq_true rfl, Nat.le_of_ble_eq_true rfl⟩ ⟨(by show (4 * (z9 - 1) + 11) + 1 ≤ (4 * z9 + 13); omega), (by show 8 + (3 + 11) + (160 * (z9 - 1) + 1440) ≤ (160 * z9 + 1660); omega)⟩ (fun v80 u78 H locs hw79 hP hD hS => ?_)
      obtain ⟨r81, fa82, pl83, dn84, wt85, wf86, ty87, mn88⟩ := u78
      obtain ⟨hw79, h89, h90, h91, h92, h93, h94, h95, h96⟩ := hw79
      replace h89 : fa27 ≤ fa82 := h89
      replace h90 : fa82 ≤ 15 := h90
      replace h91 : TyC dc r81 := h91
      replace h92 : r81 ≤ 2050 := h92
      replace h93 : ChE B nd c42 ty ty87 (upd mn n9 (nI sc)) mn88 := h93
      replace h94 : mnN B nd mn88 := h94
      replace h95 : If (fa82 = 0) (Typ B dc fd md nd ty87 mn88 (upd vt sc (nI x15)) (sc + 1) k9 c42) := h95
      replace h96 : ty87 c42 = nI r81 := h96
      obtain rfl : v80 = some (.int (nI r81)) := hw79
      have hP : va_P G.1 pCl (mW G h0 a (upd (upd (upd (upd (upd (upd (upd (upd (upd (upd (upd (upd (upd F 15 (nI fa82)) 16 pl83) 44 (nI fd)) 49 (nI md)) 73 (nI (sc + 1))) 74 (nI k9)) 75 (nI rs)) 76 (nI il)) 77 dn84) 78 wt85) 79 wf86) 80 ab) 81 ac) (updA (updA (updA (updA (updA B 14 nc) 17 ty87) 18 mn88) 48 vn31) 49 (upd vt sc (nI x15)))) _ := mW_to (F := F) (l1 := [(15, (nI fa27)), (16, pl29), (44, (nI fd)), (49, (nI md)), (73, (nI (sc + 1))), (74, (nI k9)), (75, (nI rs)), (76, (nI il)), (77, dn30), (78, wt), (79, wf), (80, ab), (81, ac), (15, (nI fa82)), (16, pl83), (44, (nI fd)), (49, (nI md)), (73, (nI (sc + 1))), (74, (nI k9)), (77, dn84), (78, wt85), (79, wf86)]) (l2 := [(15, (nI fa82)), (16, pl83), (44, (nI fd)), (49, (nI md)), (73, (nI (sc + 1))), (74, (nI k9)), (75, (nI rs)), (76, (nI il)), (77, dn84), (78, wt85), (79, wf86), (80, ab), (81, ac)]) (V := [(nI fa82), pl83, (nI fd), (nI md), (nI (sc + 1)), (nI k9), (nI rs), (nI il), dn84, wt85, wf86, ab, ac, (nI fa82), pl83, (nI fd), (nI md), (nI (sc + 1)), (nI k9), dn84, wt85, wf86, (nI fa82), pl83, (nI fd), (nI md), (nI (sc + 1)), (nI k9), (nI rs), (nI il), dn84, wt85, wf86, ab, ac]) rfl rfl rfl hP
      have hD : va_D A (mW G h0 a (upd (upd (upd (upd (upd (upd (upd (upd (upd (upd (upd (upd (upd F 15 (nI fa82)) 16 pl83) 44 (nI fd)) 49 (nI md)) 73 (nI (sc + 1))) 74 (nI k9)) 75 (nI rs)) 76 (nI il)) 77 dn84) 78 wt85) 79 wf86) 80 ab) 81 ac) (updA (updA (updA (updA (updA B 14 nc) 17 ty87) 18 mn88) 48 vn31) 49 (upd vt sc (nI x15)))) := mW_D hD
      refine W.widen (k := 0) (n := 0) (Nat.le_of_ble_eq_true rfl) (Nat.le_of_ble_eq_true rfl) ?_
      refine W.eq (g2 := F0 m 56 ls [.int (nI r81)]) rfl ?_
      have hch97 : ChS B nd n9 ty ty87 mn mn88 nc nc := (ChS.trans hch74 (ChS.kid (ChS.ofE (nc := nc) h93) (by omega) hp45))
      have hsl98 : If (fa82 = 0) (slP B n9 (sc, il, ev) (fun c e9 => TyS B dc fd md nd ty87 mn88 nc k9 rs c e9) 30 2) := (fun e => slP.one (by decide) (by omega) e43 (by show TyS B dc fd md nd ty87 mn88 nc k9 rs c42 (aft B n9 (sc, il, ev)); rw [(aft_y (X := B) (e := (sc, il, ev)) hkd), (show B 21 (chN B 1 n9) = nI x15 from by rw [chN_1 e7 (by omega)]; exact e16)]; exact (TyS.ofTyp (nc := nc) (rs := rs) (e := ((sc + 1), il, (upd ev sc (nI x15)))) hF (by omega) h44 (show kcl 1 _ = true from hc47) (h95 e) hve73)))
      refine lv_istore_n (lv' := [(2, .int (nI r81)), (0, .ref h0), (1, .int (nI n9))]) hx hb dX12_lookLocal_56 rfl hl (by decide) rfl (fun ls hl => ?_)
      refine lv_aload_n hx hb dX12_lookLocal_57 rfl (lv_at hl 1 rfl) ?_
      refine lv_aload_n hx hb dX12_lookLocal_58 rfl (lv_at hl 1 rfl) ?_
      refine lv_iload_n hx hb dX12_lookLocal_59 rfl (lv_at hl 0 rfl) ?_
      refine lv_aload_n hx hb dX12_lookLocal_60 rfl (lv_at hl 1 rfl) ?_
      refine r_get (v := .ref (a 21)) hx hb hown hq hE hP 30 75 tFX12_30 (by decide) pw_1452 rfl dX12_lookLocal_61 ?_
      refine lv_aload_n hx hb dX12_lookLocal_64 rfl (lv_at hl 1 rfl) ?_
      refine r_get (v := .ref (a 12)) hx hb hown hq hE hP 20 47 tFX12_20 (by decide) pw_1442 rfl dX12_lookLocal_65 ?_
      refine lv_iload_n hx hb dX12_lookLocal_68 rfl (lv_at hl 2 rfl) ?_
      refine r_ldi (f := (B 12)) (j := n9) hx hb hE hP 12 (ma_12 G a _) rfl (by omega) (by decide) dX12_lookLocal_69 ?_
      refine lv_topi (fun x99 e100 => ?_)
      obtain rfl : x99 = nI y6 := e100.trans e7
      refine r_ldi (f := (B 21)) (j := y6) hx hb hE hP 21 (ma_21 G a _) rfl (by omega) (by decide) dX12_lookLocal_70 ?_
      refine lv_topi (fun x101 e102 => ?_)
      obtain rfl : x101 = nI x15 := e102.trans e16
      have hP : va_P G.1 pCl (mW G h0 a (upd (upd (upd (upd (upd (upd (upd (upd (upd (upd (upd (upd (upd F 15 (nI fa82)) 16 pl83) 44 (nI fd)) 49 (nI md)) 73 (nI (sc + 1))) 74 (nI k9)) 75 (nI rs)) 76 (nI il)) 77 dn84) 78 wt85) 79 wf86) 80 ab) 81 ac) (updA (updA (updA (updA (updA (updA B 14 nc) 17 ty87) 18 mn88) 48 vn31) 49 (upd vt sc (nI x15))) 31 (B 31))) _ := mW_to (F := F) (l1 := [(15, (nI fa82)), (16, pl83), (44, (nI fd)), (49, (nI md)), (73, (nI (sc + 1))), (74, (nI k9)), (75, (nI rs)), (76, (nI il)), (77, dn84), (78, wt85), (79, wf86), (80, ab), (81, ac)]) (l2 := [(15, (nI fa82)), (16, pl83), (44, (nI fd)), (49, (nI md)), (73, (nI (sc + 1))), (74, (nI k9)), (75, (nI rs)), (76, (nI il)), (77, dn84), (78, wt85), (79, wf86), (80, ab), (81, ac)]) (V := [(nI fa82), pl83, (nI fd), (nI md), (nI (sc + 1)), (nI k9), (nI rs), (nI il), dn84, wt85, wf86, ab, ac, (nI fa82), pl83, (nI fd), (nI md), (nI (sc + 1)), (nI k9), (nI rs), (nI il), dn84, wt85, wf86, ab, ac]) rfl rfl (show (updA (updA (updA (updA (updA B 14 nc) 17 ty87) 18 mn88) 48 vn31) 49 (upd vt sc (nI x15))) = (updA (updA (updA (updA (updA (updA B 14 nc) 17 ty87) 18 mn88) 48 vn31) 49 (upd vt sc (nI x15))) 31 (B 31)) from updsA_eq2 (F := B) (l1 := [(14, nc), (17, ty87), (18, mn88), (48, vn31), (49, (upd vt sc (nI x15)))]) (l2 := [(14, nc), (17, ty87), (18, mn88), (48, vn31), (49, (upd vt sc (nI x15))), (31, (B 31))]) (V := [nc, ty87, mn88, vn31, (upd vt sc (nI x15)), nc, ty87, mn88, vn31, (upd vt sc (nI x15)), (B 31)]) rfl rfl) hP
      have hD : va_D A (mW G h0 a (upd (upd (upd (upd (upd (upd (upd (upd (upd (upd (upd (upd (upd F 15 (nI fa82)) 16 pl83) 44 (nI fd)) 49 (nI md)) 73 (nI (sc + 1))) 74 (nI k9)) 75 (nI rs)) 76 (nI il)) 77 dn84) 78 wt85) 79 wf86) 80 ab) 81 ac) (updA (updA (updA (updA (updA (updA B 14 nc) 17 ty87) 18 mn88) 48 vn31) 49 (upd vt sc (nI x15))) 31 (B 31))) := mW_D hD
      refine pc_V0 (G := G) (As := [.int (nI r81), .int (nI x15)]) (rest := [.ref h0]) hx hb hml hown hq hE hX pX0_al hP hD hS hA hl.1 (R_fits l G h0 a (upd (upd (upd (upd (upd (upd (upd (upd (upd (upd (upd (upd (upd F 15 (nI fa82)) 16 pl83) 44 (nI fd)) 49 (nI md)) 73 (nI (sc + 1))) 74 (nI k9)) 75 (nI rs)) 76 (nI il)) 77 dn84) 78 wt85) 79 wf86) 80 ab) 81 ac) (updA (updA (updA (updA (updA B 14 nc) 17 ty87) 18 mn88) 48 vn31) 49 (upd vt sc (nI x15))) r81 x15 dc (B 31) h91 h17 (by omega) hBI) (gV pw_1790 pw_1791 pw_1792 pw_1523 pw_1782) hV_X12_fits 0 9 rfl rfl rfl rfl (Nat.le_of_ble_eq_true rfl) dX12_lookLocal_71 ⟨Nat.le_of_ble_eq_true rfl, Nat.le_of_ble_eq_true rfl⟩ ⟨(by show 4 + 1 ≤ (4 * z9 + 13); omega), (by show 8 + (3 + 11) + 104 ≤ (160 * z9 + 1660); omega)⟩ (fun v105 u103 H locs hw104 hP hD hS => ?_)
      obtain rfl : v105 = some (.int (fitF (B 31) r81 x15)) := hw104
      have hP : va_P G.1 pCl (mW G h0 a (upd (upd (upd (upd (upd (upd (upd (upd (upd (upd (upd (upd (upd F 15 (nI fa82)) 16 pl83) 44 (nI fd)) 49 (nI md)) 73 (nI (sc + 1))) 74 (nI k9)) 75 (nI rs)) 76 (nI il)) 77 dn84) 78 wt85) 79 wf86) 80 ab) 81 ac) (updA (updA (updA (updA (updA B 14 nc) 17 ty87) 18 mn88) 48 vn31) 49 (upd vt sc (nI x15)))) _ := mW_to (F := F) (l1 := [(15, (nI fa82)), (16, pl83), (44, (nI fd)), (49, (nI md)), (73, (nI (sc + 1))), (74, (nI k9)), (75, (nI rs)), (76, (nI il)), (77, dn84), (78, wt85), (79, wf86), (80, ab), (81, ac)]) (l2 := [(15, (nI fa82)), (16, pl83), (44, (nI fd)), (49, (nI md)), (73, (nI (sc + 1))), (74, (nI k9)), (75, (nI rs)), (76, (nI il)), (77, dn84), (78, wt85), (79, wf86), (80, ab), (81, ac)]) (V := [(nI fa82), pl83, (nI fd), (nI md), (nI (sc + 1)), (nI k9), (nI rs), (nI il), dn84, wt85, wf86, ab, ac, (nI fa82), pl83, (nI fd), (nI md), (nI (sc + 1)), (nI k9), (nI rs), (nI il), dn84, wt85, wf86, ab, ac]) rfl rfl (show (updA (updA (updA (updA (updA (updA B 14 nc) 17 ty87) 18 mn88) 48 vn31) 49 (upd vt sc (nI x15))) 31 (B 31)) = (updA (updA (updA (updA (updA B 14 nc) 17 ty87) 18 mn88) 48 vn31) 49 (upd vt sc (nI x15))) from updsA_eq2 (F := B) (l1 := [(14, nc), (17, ty87), (18, mn88), (48, vn31), (49, (upd vt sc (nI x15))), (31, (B 31))]) (l2 := [(14, nc), (17, ty87), (18, mn88), (48, vn31), (49, (upd vt sc (nI x15)))]) (V := [nc, ty87, mn88, vn31, (upd vt sc (nI x15)), (B 31), nc, ty87, mn88, vn31, (upd vt sc (nI x15))]) rfl rfl) hP
      have hD : va_D A (mW G h0 a (upd (upd (upd (upd (upd (upd (upd (upd (upd (upd (upd (upd (upd F 15 (nI fa82)) 16 pl83) 44 (nI fd)) 49 (nI md)) 73 (nI (sc + 1))) 74 (nI k9)) 75 (nI rs)) 76 (nI il)) 77 dn84) 78 wt85) 79 wf86) 80 ab) 81 ac) (updA (updA (updA (updA (updA B 14 nc) 17 ty87) 18 mn88) 48 vn31) 49 (upd vt sc (nI x15)))) := mW_D hD
      refine W.widen (k := 0) (n := 0) (Nat.le_of_ble_eq_true rfl) (Nat.le_of_ble_eq_true rfl) ?_
      refine W.eq (g2 := F0 m 74 ls [.int (fitF (B 31) r81 x15), .ref h0]) rfl ?_
      obtain ⟨b106, e107, h108⟩ : ∃ b : Nat, fitF (B 31) r81 x15 = nI b ∧ b ≤ 1 := by rcases fit_bit (da := B 31) hBI (show r81 ≤ 2050 by omega) (show x15 ≤ 2050 by omega) (TyC.rg h91 (by omega)) (TyC.rg h17 (by omega)) with z | z; exact ⟨0, z, by omega⟩; exact ⟨1, z, by omega⟩
      refine lv_topi (fun x109 e110 => ?_)
      obtain rfl : x109 = nI b106 := e110.trans e107
      refine lv_bipush (v := 11) hx hb dX12_lookLocal_74 (by decide) ?_
      refine lv_aload_n hx hb dX12_lookLocal_76 rfl (lv_at hl 1 rfl) ?_
      refine r_get (v := .ref (a 10)) hx hb hown hq hE hP 18 41 tFX12_18 (by decide) pw_1440 rfl dX12_lookLocal_77 ?_
      refine lv_aload_n hx hb dX12_lookLocal_80 rfl (lv_at hl 1 rfl) ?_
      refine r_get (v := .ref (a 13)) hx hb hown hq hE hP 21 50 tFX12_21 (by decide) pw_1443 rfl dX12_lookLocal_81 ?_
      refine lv_iload_n hx hb dX12_lookLocal_84 rfl (lv_at hl 2 rfl) ?_
      refine r_ldi (f := (B 13)) (j := n9) hx hb hE hP 13 (ma_13 G a _) rfl (by omega) (by decide) dX12_lookLocal_85 ?_
      refine lv_topi (fun x111 e112 => ?_)
      obtain rfl : x111 = nI c42 := e112.trans e43
      refine r_ldi (f := (B 10)) (j := c42) hx hb hE hP 10 (ma_10 G a _) rfl (by omega) (by decide) dX12_lookLocal_86 ?_
      obtain ⟨⟨t113, e114, h115⟩, -⟩ := hF c42 h44
      refine lv_topi (fun x116 e117 => ?_)
      obtain rfl : x116 = nI t113 := e117.trans e114
      have hP : va_P G.1 pCl (mW G h0 a (upd (upd (upd (upd (upd (upd (upd (upd (upd (upd (upd (upd (upd (upd F 15 (nI fa82)) 16 pl83) 44 (nI fd)) 49 (nI md)) 73 (nI (sc + 1))) 74 (nI k9)) 75 (nI rs)) 76 (nI il)) 77 dn84) 78 wt85) 79 wf86) 80 ab) 81 ac) 15 (nI fa82)) (updA (updA (updA (updA (updA B 14 nc) 17 ty87) 18 mn88) 48 vn31) 49 (upd vt sc (nI x15)))) _ := mW_to (F := F) (l1 := [(15, (nI fa82)), (16, pl83), (44, (nI fd)), (49, (nI md)), (73, (nI (sc + 1))), (74, (nI k9)), (75, (nI rs)), (76, (nI il)), (77, dn84), (78, wt85), (79, wf86), (80, ab), (81, ac)]) (l2 := [(15, (nI fa82)), (16, pl83), (44, (nI fd)), (49, (nI md)), (73, (nI (sc + 1))), (74, (nI k9)), (75, (nI rs)), (76, (nI il)), (77, dn84), (78, wt85), (79, wf86), (80, ab), (81, ac), (15, (nI fa82))]) (V := [(nI fa82), pl83, (nI fd), (nI md), (nI (sc + 1)), (nI k9), (nI rs), (nI il), dn84, wt85, wf86, ab, ac, (nI fa82), pl83, (nI fd), (nI md), (nI (sc + 1)), (nI k9), (nI rs), (nI il), dn84, wt85, wf86, ab, ac, (nI fa82)]) rfl rfl rfl hP
      have hD : va_D A (mW G h0 a (upd (upd (upd (upd (upd (upd (upd (upd (upd (upd (upd (upd (upd (upd F 15 (nI fa82)) 16 pl83) 44 (nI fd)) 49 (nI md)) 73 (nI (sc + 1))) 74 (nI k9)) 75 (nI rs)) 76 (nI il)) 77 dn84) 78 wt85) 79 wf86) 80 ab) 81 ac) 15 (nI fa82)) (updA (updA (updA (updA (updA B 14 nc) 17 ty87) 18 mn88) 48 vn31) 49 (upd vt sc (nI x15)))) := mW_D hD
      refine pc_V0 (G := G) (As := [.int (nI b106), .int (nI 11), .int (nI t113)]) (rest := []) hx hb hml hown hq hE hX pX0_al hP hD hS hA hl.1 (R_judgeL l G h0 a (upd (upd (upd (upd (upd (upd (upd (upd (upd (upd (upd (upd (upd F 15 (nI fa82)) 16 pl83) 44 (nI fd)) 49 (nI md)) 73 (nI (sc + 1))) 74 (nI k9)) 75 (nI rs)) 76 (nI il)) 77 dn84) 78 wt85) 79 wf86) 80 ab) 81 ac) (updA (updA (updA (updA (updA B 14 nc) 17 ty87) 18 mn88) 48 vn31) 49 (upd vt sc (nI x15))) b106 11 t113 fa82 (by omega) (by omega) (by omega) (by omega)) (gV pw_1798 pw_1799 pw_1800 pw_1523 pw_1793) hV_X12_judge 0 9 rfl rfl rfl rfl (Nat.le_of_ble_eq_true rfl) dX12_lookLocal_87 ⟨Nat.le_of_ble_eq_true rfl, Nat.le_of_ble_eq_true rfl⟩ ⟨(by show 3 + 1 ≤ (4 * z9 + 13); omega), (by show 8 + (4 + 11) + 82 ≤ (160 * z9 + 1660); omega)⟩ (fun v120 u118 H locs hw119 hP hD hS => ?_)
      obtain ⟨r121, fa122, pl123⟩ := u118
      obtain ⟨hw119, h124, h125, h126, h127, h128, h129, h130⟩ := hw119
      replace h124 : r121 ≤ 1 := h124
      replace h125 : fa82 ≤ fa122 := h125
      replace h126 : fa122 ≤ 15 := h126
      replace h127 : fa122 + 15 * r121 ≤ 15 := h127
      replace h128 : 1 ≤ r121 + fa122 := h128
      replace h129 : 1 ≤ b106 + fa122 := h129
      replace h130 : fa122 ≤ fa82 + 15 * (1 - b106) := h130
      obtain rfl : v120 = some (.int (nI r121)) := hw119
      have hP : va_P G.1 pCl (mW G h0 a (upd (upd (upd (upd (upd (upd (upd (upd (upd (upd (upd (upd (upd F 15 (nI fa122)) 16 pl123) 44 (nI fd)) 49 (nI md)) 73 (nI (sc + 1))) 74 (nI k9)) 75 (nI rs)) 76 (nI il)) 77 dn84) 78 wt85) 79 wf86) 80 ab) 81 ac) (updA (updA (updA (updA (updA B 14 nc) 17 ty87) 18 mn88) 48 vn31) 49 (upd vt sc (nI x15)))) _ := mW_to (F := F) (l1 := [(15, (nI fa82)), (16, pl83), (44, (nI fd)), (49, (nI md)), (73, (nI (sc + 1))), (74, (nI k9)), (75, (nI rs)), (76, (nI il)), (77, dn84), (78, wt85), (79, wf86), (80, ab), (81, ac), (15, (nI fa122)), (16, pl123)]) (l2 := [(15, (nI fa122)), (16, pl123), (44, (nI fd)), (49, (nI md)), (73, (nI (sc + 1))), (74, (nI k9)), (75, (nI rs)), (76, (nI il)), (77, dn84), (78, wt85), (79, wf86), (80, ab), (81, ac)]) (V := [(nI fa122), pl123, (nI fd), (nI md), (nI (sc + 1)), (nI k9), (nI rs), (nI il), dn84, wt85, wf86, ab, ac, (nI fa122), pl123, (nI fa122), pl123, (nI fd), (nI md), (nI (sc + 1)), (nI k9), (nI rs), (nI il), dn84, wt85, wf86, ab, ac]) rfl rfl rfl hP
      have hD : va_D A (mW G h0 a (upd (upd (upd (upd (upd (upd (upd (upd (upd (upd (upd (upd (upd F 15 (nI fa122)) 16 pl123) 44 (nI fd)) 49 (nI md)) 73 (nI (sc + 1))) 74 (nI k9)) 75 (nI rs)) 76 (nI il)) 77 dn84) 78 wt85) 79 wf86) 80 ab) 81 ac) (updA (updA (updA (updA (updA B 14 nc) 17 ty87) 18 mn88) 48 vn31) 49 (upd vt sc (nI x15)))) := mW_D hD
      refine W.widen (k := 0) (n := 0) (Nat.le_of_ble_eq_true rfl) (Nat.le_of_ble_eq_true rfl) ?_
      refine W.eq (g2 := F0 m 90 ls [.int (nI r121)]) rfl ?_
      refine lv_pop hx hb dX12_lookLocal_90 rfl ?_
      refine lv_aload_n hx hb dX12_lookLocal_91 rfl (lv_at hl 1 rfl) ?_
      refine lv_dup hx hb dX12_lookLocal_92 rfl ?_
      refine r_get (v := .int dn84) hx hb hown hq hE hP 77 544 tFX12_77 (by decide) pw_1796 rfl dX12_lookLocal_93 ?_
      refine lv_iconst (v := 1) hx hb dX12_lookLocal_96 (by decide) ?_
      refine lv_aload_n hx hb dX12_lookLocal_97 rfl (lv_at hl 1 rfl) ?_
      refine r_get (v := .ref (a 18)) hx hb hown hq hE hP 26 65 tFX12_26 (by decide) pw_1448 rfl dX12_lookLocal_98 ?_
      refine lv_iload_n hx hb dX12_lookLocal_101 rfl (lv_at hl 2 rfl) ?_
      refine r_ldi (f := mn88) (j := n9) hx hb hE hP 18 (ma_18 G a _) rfl (by omega) (by decide) dX12_lookLocal_102 ?_
      refine lv_ishl hx hb dX12_lookLocal_103 ?_
      refine lv_topi (fun x131 e132 => ?_)
      refine lv_ior hx hb dX12_lookLocal_104 ?_
      refine lv_topi (fun x133 e134 => ?_)
      refine r_put (v := x133) (ty := .int) hx hb hown hq hE hP hD hS 77 544 tFX12_77 (by decide) pw_1796 (by decide) rfl rfl (ms_77 a _ _) dX12_lookLocal_105 (fun H locs hP hD hS => ?_)
      have hz135 : fa ≤ fa122 := (by omega)
      have hz136 : fa122 ≤ 15 := (by omega)
      have hz137 : sc ≤ (sc + 1) := (by omega)
      have hz138 : (sc + 1) ≤ 30 := (by omega)
      have hz139 : ChS B nd n9 ty ty87 mn mn88 nc nc := hch97
      have hz140 : mnN B nd mn88 := h94
      have hz141 : ∀ i : Nat, i < nd → ¬ (B) 9 i = 44 → nc i = (B) 14 i := hnc
      have hz142 : ∀ i : Nat, i < sc → (upd vt sc (nI x15)) i = vt i := (fun i h => upd_lt i h)
      have hz143 : If (fa122 = 0) (TyS B dc fd md nd ty87 mn88 nc k9 rs n9 (sc, il, ev) ∧ (sc + 1) = (aft B n9 (sc, il, ev)).1 ∧ ∀ i : Nat, i < (sc + 1) → (upd vt sc (nI x15)) i = (aft B n9 (sc, il, ev)).2.2 i ∧ tyOK dc ((upd vt sc (nI x15)) i)) := (fun e => ⟨TyS.of (steps (kk := 30) hkd (by decide) (slP.no (by decide)) (hsl98 (by omega)) (slP.no (by decide)) (slP.no (by decide))) (LTX.st hkd (by decide) (by decide) (show LSk B dc ty87 mn88 nc rs n9 (sc, il, ev) 30 from ⟨((ChS.own hF (by omega) hn9 h44 hp45 (ChS.ofE (nc := nc) h93)).1.trans upd_eq), e71, fun c hc q => by have z : c = c42 := (nI_eq (by omega) (by omega)).mp (q.symm.trans e43); rw [z, h96, (show B 21 (chN B 1 n9) = nI x15 from by rw [chN_1 e7 (by omega)]; exact e16)]; exact (Fit.of (e107.trans (by rw [show b106 = 1 by omega]; rfl)) (by omega) (by omega))⟩)), by rw [(aft_y (X := B) (e := (sc, il, ev)) hkd)], fun i h => by rw [(aft_y (X := B) (e := (sc, il, ev)) hkd), (show B 21 (chN B 1 n9) = nI x15 from by rw [chN_1 e7 (by omega)]; exact e16)]; exact ⟨hve73 i h, hvt72 i h⟩⟩)
      have hP : va_P G.1 pCl (mW G h0 a (upd (upd (upd (upd (upd (upd (upd (upd (upd (upd (upd (upd (upd F 15 (nI fa122)) 16 pl123) 44 (nI fd)) 49 (nI md)) 73 (nI (sc + 1))) 74 (nI k9)) 75 (nI rs)) 76 (nI il)) 77 x133) 78 wt85) 79 wf86) 80 ab) 81 ac) (updA (updA (updA (updA (updA B 14 nc) 17 ty87) 18 mn88) 48 vn31) 49 (upd vt sc (nI x15)))) _ := mW_to (F := F) (l1 := [(15, (nI fa122)), (16, pl123), (44, (nI fd)), (49, (nI md)), (73, (nI (sc + 1))), (74, (nI k9)), (75, (nI rs)), (76, (nI il)), (77, dn84), (78, wt85), (79, wf86), (80, ab), (81, ac), (77, x133)]) (l2 := [(15, (nI fa122)), (16, pl123), (44, (nI fd)), (49, (nI md)), (73, (nI (sc + 1))), (74, (nI k9)), (75, (nI rs)), (76, (nI il)), (77, x133), (78, wt85), (79, wf86), (80, ab), (81, ac)]) (V := [(nI fa122), pl123, (nI fd), (nI md), (nI (sc + 1)), (nI k9), (nI rs), (nI il), x133, wt85, wf86, ab, ac, x133, (nI fa122), pl123, (nI fd), (nI md), (nI (sc + 1)), (nI k9), (nI rs), (nI il), x133, wt85, wf86, ab, ac]) rfl rfl rfl hP
      have hD : va_D A (mW G h0 a (upd (upd (upd (upd (upd (upd (upd (upd (upd (upd (upd (upd (upd F 15 (nI fa122)) 16 pl123) 44 (nI fd)) 49 (nI md)) 73 (nI (sc + 1))) 74 (nI k9)) 75 (nI rs)) 76 (nI il)) 77 x133) 78 wt85) 79 wf86) 80 ab) 81 ac) (updA (updA (updA (updA (updA B 14 nc) 17 ty87) 18 mn88) 48 vn31) 49 (upd vt sc (nI x15)))) := mW_D hD
      exact W.vret hx hb hr (fun t9 ht9 hW9 => ⟨⟨_, (fa122, (sc + 1), pl123, x133, wt85, wf86, ab, ac, nc, ty87, mn88, vn31, (upd vt sc (nI x15))), rfl, ⟨rfl, hz135, hz136, hz137, hz138, hz139, hz140, hz141, hz142, hz143⟩, by rw [ht9]; exact hP, hD⟩, hS.F ht9⟩) hS.2.2 dX12_lookLocal_108
    · have n144 : ¬ (fa27 ≤ 0) := fun h9 => c66 ((nI_leI (a := fa27) (b := 0) (by omega) (by omega)).mpr h9)
      have hz145 : fa ≤ fa27 := (by omega)
      have hz146 : fa27 ≤ 15 := (by omega)
      have hz147 : sc ≤ sc28 := (by omega)
      have hz148 : sc28 ≤ 30 := (by omega)
      have hz149 : ChS B nd n9 ty ty mn (upd mn n9 (nI r26)) nc nc := hch40
      have hz150 : mnN B nd (upd mn n9 (nI r26)) := hmn41
      have hz151 : ∀ i : Nat, i < nd → ¬ (B) 9 i = 44 → nc i = (B) 14 i := hnc
      have hz152 : ∀ i : Nat, i < sc → vt32 i = vt i := h39
      have hz153 : If (fa27 = 0) (TyS B dc fd md nd ty (upd mn n9 (nI r26)) nc k9 rs n9 (sc, il, ev) ∧ sc28 = (aft B n9 (sc, il, ev)).1 ∧ ∀ i : Nat, i < sc28 → vt32 i = (aft B n9 (sc, il, ev)).2.2 i ∧ tyOK dc (vt32 i)) := (fun e => absurd e (by omega))
      have hP : va_P G.1 pCl (mW G h0 a (upd (upd (upd (upd (upd (upd (upd (upd (upd (upd (upd (upd (upd F 15 (nI fa27)) 16 pl29) 44 (nI fd)) 49 (nI md)) 73 (nI sc28)) 74 (nI k9)) 75 (nI rs)) 76 (nI il)) 77 dn30) 78 wt) 79 wf) 80 ab) 81 ac) (updA (updA (updA (updA (updA B 14 nc) 17 ty) 18 (upd mn n9 (nI r26))) 48 vn31) 49 vt32)) _ := mW_to (F := F) (l1 := [(15, (nI fa27)), (16, pl29), (44, (nI fd)), (49, (nI md)), (73, (nI sc28)), (74, (nI k9)), (75, (nI rs)), (76, (nI il)), (77, dn30), (78, wt), (79, wf), (80, ab), (81, ac)]) (l2 := [(15, (nI fa27)), (16, pl29), (44, (nI fd)), (49, (nI md)), (73, (nI sc28)), (74, (nI k9)), (75, (nI rs)), (76, (nI il)), (77, dn30), (78, wt), (79, wf), (80, ab), (81, ac)]) (V := [(nI fa27), pl29, (nI fd), (nI md), (nI sc28), (nI k9), (nI rs), (nI il), dn30, wt, wf, ab, ac, (nI fa27), pl29, (nI fd), (nI md), (nI sc28), (nI k9), (nI rs), (nI il), dn30, wt, wf, ab, ac]) rfl rfl (show (updA (updA (updA (updA (updA (updA B 14 nc) 17 ty) 18 mn) 48 vn31) 49 vt32) 18 (upd mn n9 (nI r26))) = (updA (updA (updA (updA (updA B 14 nc) 17 ty) 18 (upd mn n9 (nI r26))) 48 vn31) 49 vt32) from updsA_eq2 (F := B) (l1 := [(14, nc), (17, ty), (18, mn), (48, vn31), (49, vt32), (18, (upd mn n9 (nI r26)))]) (l2 := [(14, nc), (17, ty), (18, (upd mn n9 (nI r26))), (48, vn31), (49, vt32)]) (V := [nc, ty, (upd mn n9 (nI r26)), vn31, vt32, (upd mn n9 (nI r26)), nc, ty, (upd mn n9 (nI r26)), vn31, vt32]) rfl rfl) hP
      have hD : va_D A (mW G h0 a (upd (upd (upd (upd (upd (upd (upd (upd (upd (upd (upd (upd (upd F 15 (nI fa27)) 16 pl29) 44 (nI fd)) 49 (nI md)) 73 (nI sc28)) 74 (nI k9)) 75 (nI rs)) 76 (nI il)) 77 dn30) 78 wt) 79 wf) 80 ab) 81 ac) (updA (updA (updA (updA (updA B 14 nc) 17 ty) 18 (upd mn n9 (nI r26))) 48 vn31) 49 vt32)) := mW_D hD
      exact W.vret hx hb hr (fun t9 ht9 hW9 => ⟨⟨_, (fa27, sc28, pl29, dn30, wt, wf, ab, ac, nc, ty, (upd mn n9 (nI r26)), vn31, vt32), rfl, ⟨rfl, hz145, hz146, hz147, hz148, hz149, hz150, hz151, hz152, hz153⟩, by rw [ht9]; exact hP, hD⟩, hS.F ht9⟩) hS.2.2 dX12_lookLocal_45

/-- a member of an attempt's list is a catch -/
theorem lst_ct {K : Nat → Int32} {T wr nd n c z : Nat} {X : Nat → Nat → Int32} {gh : Nat → Nat → Nat} (hF : Fs2 K T wr X gh nd) (hnd : nd ≤ 12000) (hn : n < nd) (e : X 9 n = nI 41) (hz : c < 20000) (w : itr (X 16) (X 13 n) z = nI c) : c < nd ∧ gh 0 c = 8 * n + 5 ∧ gh 1 c < gh 1 n ∧ pch X n c ∧ X 9 c = nI 44 := by
  obtain ⟨a1, a2, a3, a4⟩ := list_par2 hF hnd hn e (by omega) (s := 2) (by omega) (by omega) (by decide) hz w
  obtain ⟨d, d1, d2, d3⟩ := list_lcl hF hnd hn e (by omega) (s := 2) (by omega) (by omega) (by decide) hz w
  refine ⟨a1, a2, a3, a4, ?_⟩
  obtain ⟨k1, x1, x2, x3, _⟩ := hF.knd a1
  obtain ⟨k2, y1, y2, y3, _⟩ := hF.knd d1
  rw [y1] at d2 d3
  rw [x1] at d3 ⊢
  have dec : ∀ q : Nat, q ≤ 44 → kcl (cdOf 41 2 % 100) (nI q) = true → lcl (nI q) = 3 := by decide
  have dec2 : ∀ q : Nat, q ≤ 44 → lcl (nI q) = 3 → q = 44 := by decide
  rw [dec2 k1 x3 (d3.trans (dec k2 y3 d2))]
theorem mnC.self {X : Nat → Nat → Int32} {nd n : Nat} {mn : Nat → Int32} {v : Int32} (h : mnC X nd n mn) (e : ¬ X 9 n = 44) : mnC X nd n (upd mn n v) := fun i hi q w => by
  rw [show upd mn n v i = mn i from if_neg (fun z => e (by rw [← z]; exact w))]; exact h i hi q w
theorem dX12_comesAs_0 : decode cX12_comesAs 0 = .ok (.aload_n 0, 1) := by decide +kernel
theorem dX12_comesAs_1 : decode cX12_comesAs 1 = .ok (.getfield 53, 3) := by decide +kernel
theorem dX12_comesAs_4 : decode cX12_comesAs 4 = .ok (.iload_n 1, 1) := by decide +kernel
theorem dX12_comesAs_5 : decode cX12_comesAs 5 = .ok (.aload_n 0, 1) := by decide +kernel
theorem dX12_comesAs_6 : decode cX12_comesAs 6 = .ok (.getfield 65, 3) := by decide +kernel
theorem dX12_comesAs_9 : decode cX12_comesAs 9 = .ok (.iload_n 1, 1) := by decide +kernel
theorem dX12_comesAs_10 : decode cX12_comesAs 10 = .ok (.iaload, 1) := by decide +kernel
theorem dX12_comesAs_11 : decode cX12_comesAs 11 = .ok (.iastore, 1) := by decide +kernel
theorem dX12_comesAs_12 : decode cX12_comesAs 12 = .ok (.aload_n 0, 1) := by decide +kernel
theorem dX12_comesAs_13 : decode cX12_comesAs 13 = .ok (.aload_n 0, 1) := by decide +kernel
theorem dX12_comesAs_14 : decode cX12_comesAs 14 = .ok (.getfield 44, 3) := by decide +kernel
theorem dX12_comesAs_17 : decode cX12_comesAs 17 = .ok (.iload_n 1, 1) := by decide +kernel
theorem dX12_comesAs_18 : decode cX12_comesAs 18 = .ok (.iaload, 1) := by decide +kernel
theorem dX12_comesAs_19 : decode cX12_comesAs 19 = .ok (.bipush 10, 2) := by decide +kernel
theorem dX12_comesAs_21 : decode cX12_comesAs 21 = .ok (.aload_n 0, 1) := by decide +kernel
theorem dX12_comesAs_22 : decode cX12_comesAs 22 = .ok (.getfield 53, 3) := by decide +kernel
theorem dX12_comesAs_25 : decode cX12_comesAs 25 = .ok (.iload_n 1, 1) := by decide +kernel
theorem dX12_comesAs_26 : decode cX12_comesAs 26 = .ok (.iaload, 1) := by decide +kernel
theorem dX12_comesAs_27 : decode cX12_comesAs 27 = .ok (.iadd, 1) := by decide +kernel
theorem dX12_comesAs_28 : decode cX12_comesAs 28 = .ok (.iconst 1, 1) := by decide +kernel
theorem dX12_comesAs_29 : decode cX12_comesAs 29 = .ok (.invokevirtual 642, 3) := by decide +kernel
theorem dX12_comesAs_32 : decode cX12_comesAs 32 = .ok (.ireturn, 1) := by decide +kernel
set_option maxHeartbeats 2000000 in
set_option maxRecDepth 100000 in
/-- comesAs(c) -/
theorem R_comesAs (l : Launch) (G : pT) (h0 : Nat) (a : Nat → Nat) (F : Nat → Int32) (B : Nat → Nat → Int32) (c9 : Nat) (d9 : Nat) (tk : Nat) (sc : Nat) (fa : Nat) (dn : Int32) (nc : Nat → Int32) (mn : Nat → Int32) (vt : Nat → Int32) (hc9 : c9 < 12000) (hmd : mn c9 = nI d9) (hd9 : d9 < 40) (htk : B 11 c9 = nI tk) (htk5 : tk ≤ 5000) (hsc : sc ≤ 30) (hfa : fa ≤ 15) : PM l G pX0 yX12_comesAs cX12_comesAs 2 (some .int) ({ frames := 6, cells := 0, slots := 0, locals := 300 }) [.ref h0, .int (nI c9)] (mW G h0 a (upd (upd (upd F 15 (nI fa)) 73 (nI sc)) 77 dn) (updA (updA (updA B 14 nc) 18 mn) 49 vt)) (fun (v : Option Value) (u : Nat × Nat × Nat × Int32 × Int32 × (Nat → Int32) × (Nat → Int32)) => v = some (.int (nI u.1)) ∧ (u.1 ≤ 30) ∧ (fa ≤ u.2.1) ∧ (u.2.1 ≤ 15) ∧ (sc ≤ u.2.2.1) ∧ (u.2.2.1 ≤ 30) ∧ (If (u.2.1 = 0) (u.2.2.1 = sc + 1 ∧ u.1 = sc ∧ u.2.2.2.2.2.2 = upd vt sc (nI (10 + d9)) ∧ sc < 30)) ∧ (∀ i : Nat, i < sc → u.2.2.2.2.2.2 i = vt i)) (fun u => (mW G h0 a (upd (upd (upd (upd F 15 (nI u.2.1)) 16 u.2.2.2.1) 73 (nI u.2.2.1)) 77 u.2.2.2.2.1) (updA (updA (updA (updA B 14 (upd nc c9 (nI d9))) 18 mn) 48 u.2.2.2.2.2.1) 49 u.2.2.2.2.2.2))) := by
  intro sz
  refine Met.ofW (cc := cX12_comesAs) (maxL := 2) (ret := (some .int)) (by decide) rfl ?_
  intro p e s m args below meth c s₁ B9 hml hv
  obtain ⟨rfl, hsz, hP, hD0, hE, hX⟩ := hv
  have hx := B9.exec
  have hb := B9.bytes
  have hr := B9.returns
  have hts := atoms_spec (ws := Cond.code yX12_comesAs cX12_comesAs 2 (some .int) :: pw) B9.pre
  have hq : ∀ w ∈ pw, w.before _ s = true := fun w h => hts w (List.mem_cons_of_mem _ h)
  have hown : s.vm.findClass RX12 = some m.cls := findClass_of_methodNamed B9.named
  have hlocks := B9.notSynchronized
  subst hsz
  have hD := hD0.self (sz := s.heap.size)
  have hA : ∀ q : Nat, s.heap.size ≤ q → va_A (mW G h0 a (upd (upd (upd F 15 (nI fa)) 73 (nI sc)) 77 dn) (updA (updA (updA B 14 nc) 18 mn) 49 vt)) s.heap.size q := fun q h => Or.inr h
  have hP : va_P G.1 pCl (mW G h0 a (upd (upd (upd F 15 (nI fa)) 73 (nI sc)) 77 dn) (updA (updA (updA B 14 nc) 18 mn) 49 vt)) s.heap := hP
  generalize va_A (mW G h0 a (upd (upd (upd F 15 (nI fa)) 73 (nI sc)) 77 dn) (updA (updA (updA B 14 nc) 18 mn) 49 vt)) s.heap.size = A at hD hE hA ⊢
  have hS : va_S A s.heap s.heap [] := va_S.rf
  have hl := lv_entry ([.ref h0, .int (nI c9)]) (n := 2) (Nat.le_of_ble_eq_true rfl)
  rw [lg_entry_eq]
  generalize (lg_sl ([.ref h0, .int (nI c9)]) ++ List.replicate (2 - (lg_sl ([.ref h0, .int (nI c9)])).length) Slot.unset).toArray = ls at hl ⊢
  have hl : lv_has ls 2 [(0, .ref h0), (1, .int (nI c9))] := hl
  refine lv_aload_n hx hb dX12_comesAs_0 rfl (lv_at hl 0 rfl) ?_
  refine r_get (v := .ref (a 14)) hx hb hown hq hE hP 22 53 tFX12_22 (by decide) pw_1444 rfl dX12_comesAs_1 ?_
  refine lv_iload_n hx hb dX12_comesAs_4 rfl (lv_at hl 1 rfl) ?_
  refine lv_aload_n hx hb dX12_comesAs_5 rfl (lv_at hl 0 rfl) ?_
  refine r_get (v := .ref (a 18)) hx hb hown hq hE hP 26 65 tFX12_26 (by decide) pw_1448 rfl dX12_comesAs_6 ?_
  refine lv_iload_n hx hb dX12_comesAs_9 rfl (lv_at hl 1 rfl) ?_
  refine r_ldi (f := mn) (j := c9) hx hb hE hP 18 (ma_18 G a _) rfl (by omega) (by decide) dX12_comesAs_10 ?_
  refine lv_topi (fun x1 e2 => ?_)
  obtain rfl : x1 = nI d9 := e2.trans hmd
  refine r_sti (f := nc) (j := c9) hx hb hE hP hD hS 14 (ma_14 G a _) rfl (mas_14 G a _) (by omega) (by decide) dX12_comesAs_11 (fun H locs hP hD hS => ?_)
  refine lv_aload_n hx hb dX12_comesAs_12 rfl (lv_at hl 0 rfl) ?_
  refine lv_aload_n hx hb dX12_comesAs_13 rfl (lv_at hl 0 rfl) ?_
  refine r_get (v := .ref (a 11)) hx hb hown hq hE hP 19 44 tFX12_19 (by decide) pw_1441 rfl dX12_comesAs_14 ?_
  refine lv_iload_n hx hb dX12_comesAs_17 rfl (lv_at hl 1 rfl) ?_
  refine r_ldi (f := (B 11)) (j := c9) hx hb hE hP 11 (ma_11 G a _) rfl (by omega) (by decide) dX12_comesAs_18 ?_
  refine lv_topi (fun x3 e4 => ?_)
  obtain rfl : x3 = nI tk := e4.trans htk
  refine lv_bipush (v := 10) hx hb dX12_comesAs_19 (by decide) ?_
  refine lv_aload_n hx hb dX12_comesAs_21 rfl (lv_at hl 0 rfl) ?_
  refine r_get (v := .ref (a 14)) hx hb hown hq hE hP 22 53 tFX12_22 (by decide) pw_1444 rfl dX12_comesAs_22 ?_
  refine lv_iload_n hx hb dX12_comesAs_25 rfl (lv_at hl 1 rfl) ?_
  refine r_ldi (f := (upd nc c9 (nI d9))) (j := c9) hx hb hE hP 14 (ma_14 G a _) rfl (by omega) (by decide) dX12_comesAs_26 ?_
  refine lv_topi (fun x5 e6 => ?_)
  obtain rfl : x5 = nI d9 := e6.trans upd_eq
  refine lv_iadd hx hb dX12_comesAs_27 ?_
  refine lv_topi (fun x7 e8 => ?_)
  obtain rfl : x7 = nI (10 + d9) := e8.trans (nI_add (10) (d9))
  refine lv_iconst (v := 1) hx hb dX12_comesAs_28 (by decide) ?_
  have hP : va_P G.1 pCl (mW G h0 a (upd (upd (upd (upd (upd (upd F 15 (nI fa)) 73 (nI sc)) 77 dn) 15 (nI fa)) 73 (nI sc)) 77 dn) (updA (updA (updA (updA B 14 (upd nc c9 (nI d9))) 18 mn) 49 vt) 49 vt)) _ := mW_to (F := F) (l1 := [(15, (nI fa)), (73, (nI sc)), (77, dn)]) (l2 := [(15, (nI fa)), (73, (nI sc)), (77, dn), (15, (nI fa)), (73, (nI sc)), (77, dn)]) (V := [(nI fa), (nI sc), dn, (nI fa), (nI sc), dn, (nI fa), (nI sc), dn]) rfl rfl (show (updA (updA (updA (updA B 14 nc) 18 mn) 49 vt) 14 (upd nc c9 (nI d9))) = (updA (updA (updA (updA B 14 (upd nc c9 (nI d9))) 18 mn) 49 vt) 49 vt) from updsA_eq2 (F := B) (l1 := [(14, nc), (18, mn), (49, vt), (14, (upd nc c9 (nI d9)))]) (l2 := [(14, (upd nc c9 (nI d9))), (18, mn), (49, vt), (49, vt)]) (V := [(upd nc c9 (nI d9)), mn, vt, (upd nc c9 (nI d9)), (upd nc c9 (nI d9)), mn, vt, vt]) rfl rfl) hP
  have hD : va_D A (mW G h0 a (upd (upd (upd (upd (upd (upd F 15 (nI fa)) 73 (nI sc)) 77 dn) 15 (nI fa)) 73 (nI sc)) 77 dn) (updA (updA (updA (updA B 14 (upd nc c9 (nI d9))) 18 mn) 49 vt) 49 vt)) := mW_D hD
  refine pc_V0 (G := G) (As := [.int (nI tk), .int (nI (10 + d9)), .int (nI 1)]) (rest := []) hx hb hml hown hq hE hX pX0_al hP hD hS hA hl.1 (R_comesL l G h0 a (upd (upd (upd F 15 (nI fa)) 73 (nI sc)) 77 dn) (updA (updA (updA B 14 (upd nc c9 (nI d9))) 18 mn) 49 vt) tk 1 sc fa (nI (10 + d9)) dn vt (by omega) (by omega) (by omega) (by omega)) (gV pw_1868 pw_1869 pw_1870 pw_1523 pw_1794) hV_X12_comes 0 9 rfl rfl rfl rfl (Nat.le_of_ble_eq_true rfl) dX12_comesAs_29 ⟨Nat.le_of_ble_eq_true rfl, Nat.le_of_ble_eq_true rfl⟩ ⟨Nat.le_of_ble_eq_true rfl, Nat.le_of_ble_eq_true rfl⟩ (fun v11 u9 H locs hw10 hP hD hS => ?_)
  obtain ⟨r12, fa13, sc14, pl15, dn16, vn17, vt18⟩ := u9
  obtain ⟨hw10, h19, h20, h21, h22, h23, h24, h25⟩ := hw10
  replace h19 : r12 ≤ 30 := h19
  replace h20 : fa ≤ fa13 := h20
  replace h21 : fa13 ≤ 15 := h21
  replace h22 : sc ≤ sc14 := h22
  replace h23 : sc14 ≤ 30 := h23
  replace h24 : If (fa13 = 0) (sc14 = sc + 1 ∧ r12 = sc ∧ vt18 = upd vt sc (nI (10 + d9)) ∧ sc < 30) := h24
  replace h25 : ∀ i : Nat, i < sc → vt18 i = vt i := h25
  obtain rfl : v11 = some (.int (nI r12)) := hw10
  have hP : va_P G.1 pCl (mW G h0 a (upd (upd (upd (upd F 15 (nI fa13)) 16 pl15) 73 (nI sc14)) 77 dn16) (updA (updA (updA (updA B 14 (upd nc c9 (nI d9))) 18 mn) 48 vn17) 49 vt18)) _ := mW_to (F := F) (l1 := [(15, (nI fa)), (73, (nI sc)), (77, dn), (15, (nI fa13)), (16, pl15), (73, (nI sc14)), (77, dn16)]) (l2 := [(15, (nI fa13)), (16, pl15), (73, (nI sc14)), (77, dn16)]) (V := [(nI fa13), (nI sc14), dn16, (nI fa13), pl15, (nI sc14), dn16, (nI fa13), pl15, (nI sc14), dn16]) rfl rfl (show (updA (updA (updA (updA (updA B 14 (upd nc c9 (nI d9))) 18 mn) 49 vt) 48 vn17) 49 vt18) = (updA (updA (updA (updA B 14 (upd nc c9 (nI d9))) 18 mn) 48 vn17) 49 vt18) from updsA_eq2 (F := B) (l1 := [(14, (upd nc c9 (nI d9))), (18, mn), (49, vt), (48, vn17), (49, vt18)]) (l2 := [(14, (upd nc c9 (nI d9))), (18, mn), (48, vn17), (49, vt18)]) (V := [(upd nc c9 (nI d9)), mn, vt18, vn17, vt18, (upd nc c9 (nI d9)), mn, vn17, vt18]) rfl rfl) hP
  have hD : va_D A (mW G h0 a (upd (upd (upd (upd F 15 (nI fa13)) 16 pl15) 73 (nI sc14)) 77 dn16) (updA (updA (updA (updA B 14 (upd nc c9 (nI d9))) 18 mn) 48 vn17) 49 vt18)) := mW_D hD
  refine W.widen (k := 0) (n := 0) (Nat.le_of_ble_eq_true rfl) (Nat.le_of_ble_eq_true rfl) ?_
  refine W.eq (g2 := F0 m 32 ls [.int (nI r12)]) rfl ?_
  have hz26 : r12 ≤ 30 := (by omega)
  have hz27 : fa ≤ fa13 := (by omega)
  have hz28 : fa13 ≤ 15 := (by omega)
  have hz29 : sc ≤ sc14 := (by omega)
  have hz30 : sc14 ≤ 30 := (by omega)
  have hz31 : If (fa13 = 0) (sc14 = sc + 1 ∧ r12 = sc ∧ vt18 = upd vt sc (nI (10 + d9)) ∧ sc < 30) := h24
  have hz32 : ∀ i : Nat, i < sc → vt18 i = vt i := h25
  have hP : va_P G.1 pCl (mW G h0 a (upd (upd (upd (upd F 15 (nI fa13)) 16 pl15) 73 (nI sc14)) 77 dn16) (updA (updA (updA (updA B 14 (upd nc c9 (nI d9))) 18 mn) 48 vn17) 49 vt18)) _ := hP
  have hD : va_D A (mW G h0 a (upd (upd (upd (upd F 15 (nI fa13)) 16 pl15) 73 (nI sc14)) 77 dn16) (updA (updA (updA (updA B 14 (upd nc c9 (nI d9))) 18 mn) 48 vn17) 49 vt18)) := mW_D hD
  exact W.iret (v := (nI r12)) hx hb hr (fun t9 ht9 hW9 => ⟨⟨_, (r12, fa13, sc14, pl15, dn16, vn17, vt18), rfl, ⟨rfl, hz26, hz27, hz28, hz29, hz30, hz31, hz32⟩, by rw [ht9]; exact hP, hD⟩, hS.F ht9⟩) hS.2.2 dX12_comesAs_32
theorem dX12_lookTry_0 : decode cX12_lookTry 0 = .ok (.aload_n 0, 1) := by decide +kernel
theorem dX12_lookTry_1 : decode cX12_lookTry 1 = .ok (.getfield 65, 3) := by decide +kernel
theorem dX12_lookTry_4 : decode cX12_lookTry 4 = .ok (.iload_n 1, 1) := by decide +kernel
theorem dX12_lookTry_5 : decode cX12_lookTry 5 = .ok (.aload_n 0, 1) := by decide +kernel
theorem dX12_lookTry_6 : decode cX12_lookTry 6 = .ok (.getfield 537, 3) := by decide +kernel
theorem dX12_lookTry_9 : decode cX12_lookTry 9 = .ok (.iastore, 1) := by decide +kernel
theorem dX12_lookTry_10 : decode cX12_lookTry 10 = .ok (.aload_n 0, 1) := by decide +kernel
theorem dX12_lookTry_11 : decode cX12_lookTry 11 = .ok (.getfield 544, 3) := by decide +kernel
theorem dX12_lookTry_14 : decode cX12_lookTry 14 = .ok (.istore_n 2, 1) := by decide +kernel
theorem dX12_lookTry_15 : decode cX12_lookTry 15 = .ok (.aload_n 0, 1) := by decide +kernel
theorem dX12_lookTry_16 : decode cX12_lookTry 16 = .ok (.aload_n 0, 1) := by decide +kernel
theorem dX12_lookTry_17 : decode cX12_lookTry 17 = .ok (.getfield 47, 3) := by decide +kernel
theorem dX12_lookTry_20 : decode cX12_lookTry 20 = .ok (.iload_n 1, 1) := by decide +kernel
theorem dX12_lookTry_21 : decode cX12_lookTry 21 = .ok (.iaload, 1) := by decide +kernel
theorem dX12_lookTry_22 : decode cX12_lookTry 22 = .ok (.invokevirtual 606, 3) := by decide +kernel
theorem dX12_lookTry_25 : decode cX12_lookTry 25 = .ok (.aload_n 0, 1) := by decide +kernel
theorem dX12_lookTry_26 : decode cX12_lookTry 26 = .ok (.getfield 544, 3) := by decide +kernel
theorem dX12_lookTry_29 : decode cX12_lookTry 29 = .ok (.istore_n 3, 1) := by decide +kernel
theorem dX12_lookTry_30 : decode cX12_lookTry 30 = .ok (.aload_n 0, 1) := by decide +kernel
theorem dX12_lookTry_31 : decode cX12_lookTry 31 = .ok (.getfield 50, 3) := by decide +kernel
theorem dX12_lookTry_34 : decode cX12_lookTry 34 = .ok (.iload_n 1, 1) := by decide +kernel
theorem dX12_lookTry_35 : decode cX12_lookTry 35 = .ok (.iaload, 1) := by decide +kernel
theorem dX12_lookTry_36 : decode cX12_lookTry 36 = .ok (.istore 4, 2) := by decide +kernel
theorem dX12_lookTry_38 : decode cX12_lookTry 38 = .ok (.iload 4, 2) := by decide +kernel
theorem dX12_lookTry_40 : decode cX12_lookTry 40 = .ok (.iconst (-1), 1) := by decide +kernel
theorem dX12_lookTry_41 : decode cX12_lookTry 41 = .ok (.if_icmp .eq 77, 3) := by decide +kernel
theorem dX12_lookTry_118 : decode cX12_lookTry 118 = .ok (.aload_n 0, 1) := by decide +kernel
theorem dX12_lookTry_119 : decode cX12_lookTry 119 = .ok (.getfield 53, 3) := by decide +kernel
theorem dX12_lookTry_122 : decode cX12_lookTry 122 = .ok (.iload_n 1, 1) := by decide +kernel
theorem dX12_lookTry_123 : decode cX12_lookTry 123 = .ok (.iaload, 1) := by decide +kernel
theorem dX12_lookTry_124 : decode cX12_lookTry 124 = .ok (.iconst (-1), 1) := by decide +kernel
theorem dX12_lookTry_125 : decode cX12_lookTry 125 = .ok (.if_icmp .eq 32, 3) := by decide +kernel
theorem dX12_lookTry_157 : decode cX12_lookTry 157 = .ok (.aload_n 0, 1) := by decide +kernel
theorem dX12_lookTry_158 : decode cX12_lookTry 158 = .ok (.iload_n 3, 1) := by decide +kernel
theorem dX12_lookTry_159 : decode cX12_lookTry 159 = .ok (.putfield 544, 3) := by decide +kernel
theorem dX12_lookTry_162 : decode cX12_lookTry 162 = .ok (.return_, 1) := by decide +kernel
theorem dX12_lookTry_128 : decode cX12_lookTry 128 = .ok (.aload_n 0, 1) := by decide +kernel
theorem dX12_lookTry_129 : decode cX12_lookTry 129 = .ok (.getfield 350, 3) := by decide +kernel
theorem dX12_lookTry_132 : decode cX12_lookTry 132 = .ok (.ifCond .ne 25, 3) := by decide +kernel
theorem dX12_lookTry_135 : decode cX12_lookTry 135 = .ok (.aload_n 0, 1) := by decide +kernel
theorem dX12_lookTry_136 : decode cX12_lookTry 136 = .ok (.iload_n 2, 1) := by decide +kernel
theorem dX12_lookTry_137 : decode cX12_lookTry 137 = .ok (.putfield 544, 3) := by decide +kernel
theorem dX12_lookTry_140 : decode cX12_lookTry 140 = .ok (.aload_n 0, 1) := by decide +kernel
theorem dX12_lookTry_141 : decode cX12_lookTry 141 = .ok (.aload_n 0, 1) := by decide +kernel
theorem dX12_lookTry_142 : decode cX12_lookTry 142 = .ok (.getfield 53, 3) := by decide +kernel
theorem dX12_lookTry_145 : decode cX12_lookTry 145 = .ok (.iload_n 1, 1) := by decide +kernel
theorem dX12_lookTry_146 : decode cX12_lookTry 146 = .ok (.iaload, 1) := by decide +kernel
theorem dX12_lookTry_147 : decode cX12_lookTry 147 = .ok (.invokevirtual 606, 3) := by decide +kernel
theorem dX12_lookTry_150 : decode cX12_lookTry 150 = .ok (.iload_n 3, 1) := by decide +kernel
theorem dX12_lookTry_151 : decode cX12_lookTry 151 = .ok (.aload_n 0, 1) := by decide +kernel
theorem dX12_lookTry_152 : decode cX12_lookTry 152 = .ok (.getfield 544, 3) := by decide +kernel
theorem dX12_lookTry_155 : decode cX12_lookTry 155 = .ok (.ior, 1) := by decide +kernel
theorem dX12_lookTry_156 : decode cX12_lookTry 156 = .ok (.istore_n 3, 1) := by decide +kernel
theorem dX12_lookTry_44 : decode cX12_lookTry 44 = .ok (.aload_n 0, 1) := by decide +kernel
theorem dX12_lookTry_45 : decode cX12_lookTry 45 = .ok (.getfield 350, 3) := by decide +kernel
theorem dX12_lookTry_48 : decode cX12_lookTry 48 = .ok (.ifCond .ne 70, 3) := by decide +kernel
theorem dX12_lookTry_51 : decode cX12_lookTry 51 = .ok (.aload_n 0, 1) := by decide +kernel
theorem dX12_lookTry_52 : decode cX12_lookTry 52 = .ok (.getfield 537, 3) := by decide +kernel
theorem dX12_lookTry_55 : decode cX12_lookTry 55 = .ok (.istore 5, 2) := by decide +kernel
theorem dX12_lookTry_57 : decode cX12_lookTry 57 = .ok (.aload_n 0, 1) := by decide +kernel
theorem dX12_lookTry_58 : decode cX12_lookTry 58 = .ok (.iload_n 2, 1) := by decide +kernel
theorem dX12_lookTry_59 : decode cX12_lookTry 59 = .ok (.putfield 544, 3) := by decide +kernel
theorem dX12_lookTry_62 : decode cX12_lookTry 62 = .ok (.aload_n 0, 1) := by decide +kernel
theorem dX12_lookTry_63 : decode cX12_lookTry 63 = .ok (.getfield 65, 3) := by decide +kernel
theorem dX12_lookTry_66 : decode cX12_lookTry 66 = .ok (.iload 4, 2) := by decide +kernel
theorem dX12_lookTry_68 : decode cX12_lookTry 68 = .ok (.aload_n 0, 1) := by decide +kernel
theorem dX12_lookTry_69 : decode cX12_lookTry 69 = .ok (.iload 4, 2) := by decide +kernel
theorem dX12_lookTry_71 : decode cX12_lookTry 71 = .ok (.invokevirtual 646, 3) := by decide +kernel
theorem dX12_lookTry_74 : decode cX12_lookTry 74 = .ok (.iastore, 1) := by decide +kernel
theorem dX12_lookTry_75 : decode cX12_lookTry 75 = .ok (.aload_n 0, 1) := by decide +kernel
theorem dX12_lookTry_76 : decode cX12_lookTry 76 = .ok (.getfield 350, 3) := by decide +kernel
theorem dX12_lookTry_79 : decode cX12_lookTry 79 = .ok (.ifCond .ne 14, 3) := by decide +kernel
theorem dX12_lookTry_93 : decode cX12_lookTry 93 = .ok (.aload_n 0, 1) := by decide +kernel
theorem dX12_lookTry_94 : decode cX12_lookTry 94 = .ok (.iload 5, 2) := by decide +kernel
theorem dX12_lookTry_96 : decode cX12_lookTry 96 = .ok (.putfield 537, 3) := by decide +kernel
theorem dX12_lookTry_99 : decode cX12_lookTry 99 = .ok (.iload_n 3, 1) := by decide +kernel
theorem dX12_lookTry_100 : decode cX12_lookTry 100 = .ok (.aload_n 0, 1) := by decide +kernel
theorem dX12_lookTry_101 : decode cX12_lookTry 101 = .ok (.getfield 544, 3) := by decide +kernel
theorem dX12_lookTry_104 : decode cX12_lookTry 104 = .ok (.iand, 1) := by decide +kernel
theorem dX12_lookTry_105 : decode cX12_lookTry 105 = .ok (.istore_n 3, 1) := by decide +kernel
theorem dX12_lookTry_106 : decode cX12_lookTry 106 = .ok (.aload_n 0, 1) := by decide +kernel
theorem dX12_lookTry_107 : decode cX12_lookTry 107 = .ok (.getfield 59, 3) := by decide +kernel
theorem dX12_lookTry_110 : decode cX12_lookTry 110 = .ok (.iload 4, 2) := by decide +kernel
theorem dX12_lookTry_112 : decode cX12_lookTry 112 = .ok (.iaload, 1) := by decide +kernel
theorem dX12_lookTry_113 : decode cX12_lookTry 113 = .ok (.istore 4, 2) := by decide +kernel
theorem dX12_lookTry_115 : decode cX12_lookTry 115 = .ok (.goto (-77), 3) := by decide +kernel
theorem dX12_lookTry_82 : decode cX12_lookTry 82 = .ok (.aload_n 0, 1) := by decide +kernel
theorem dX12_lookTry_83 : decode cX12_lookTry 83 = .ok (.aload_n 0, 1) := by decide +kernel
theorem dX12_lookTry_84 : decode cX12_lookTry 84 = .ok (.getfield 50, 3) := by decide +kernel
theorem dX12_lookTry_87 : decode cX12_lookTry 87 = .ok (.iload 4, 2) := by decide +kernel
theorem dX12_lookTry_89 : decode cX12_lookTry 89 = .ok (.iaload, 1) := by decide +kernel
theorem dX12_lookTry_90 : decode cX12_lookTry 90 = .ok (.invokevirtual 606, 3) := by decide +kernel
theorem hV_X12_comesAs : yX12_comesAs.cls = RX12 ∧ yX12_comesAs.cls ≠ "java/lang/invoke/MethodHandle" ∧ yX12_comesAs.cls ≠ "java/lang/invoke/VarHandle" ∧ (parseMethodDescriptor yX12_comesAs.desc).map (fun d => d.parameters.length) = some 1 := by decide +kernel
set_option maxHeartbeats 16000000 in
set_option maxRecDepth 100000 in
/-- lookTry(n) -/
theorem L_lookTry (l : Launch) (G : pT) (h0 : Nat) (a : Nat → Nat) (F : Nat → Int32) (B : Nat → Nat → Int32) (n9 : Nat) (z9 : Nat) (fa : Nat) (sc : Nat) (il : Nat) (k9 : Nat) (rs : Nat) (nd : Nat) (T : Nat) (nm : Nat) (wr : Nat) (lz : Nat) (dc : Nat) (fd : Nat) (md : Nat) (pr : Nat) (bk : Nat) (gh : Nat → Nat → Nat) (dn : Int32) (wt : Int32) (wf : Int32) (ab : Int32) (ac : Int32) (nc : Nat → Int32) (ty : Nat → Int32) (mn : Nat → Int32) (vn : Nat → Int32) (vt : Nat → Int32) (ev : Nat → Int32) (hst : St B gh nd T nm wr lz dc fd md pr bk) (hnm : nd ≤ 12000 ∧ T ≤ 5000 ∧ wr ≤ 5000 ∧ 7 ≤ dc ∧ dc ≤ 37 ∧ fd ≤ 620 ∧ md ≤ 920 ∧ pr ≤ 5000) (hn9 : n9 < nd) (hz : gh 1 n9 < z9) (hfa : fa ≤ 15) (hsc : sc ≤ 30) (hk9 : 7 ≤ k9 ∧ k9 < dc) (hnc : ∀ i : Nat, i < nd → ¬ B 9 i = 44 → nc i = B 14 i) (hmn : mnN B nd mn) (hil : il + z9 ≤ 1000) (hrs : TyC dc rs) (hrs5 : rs ≤ 2050) (hmc : mnC B nd n9 mn) (hvt : ∀ i : Nat, i < sc → tyOK dc (vt i)) (hve : ∀ i : Nat, i < sc → vt i = ev i) (hkd : B 9 n9 = nI 41) (ihS : PlookStatement l G (z9 - 1)) : PM l G pX0 yX12_lookTry cX12_lookTry 6 none ({ frames := (4 * z9 + 13), cells := 0, slots := 0, locals := (160 * z9 + 1660) }) [.ref h0, .int (nI n9)] (mW G h0 a (upd (upd (upd (upd (upd (upd (upd (upd (upd (upd (upd (upd F 15 (nI fa)) 44 (nI fd)) 49 (nI md)) 73 (nI sc)) 74 (nI k9)) 75 (nI rs)) 76 (nI il)) 77 dn) 78 wt) 79 wf) 80 ab) 81 ac) (updA (updA (updA (updA (updA B 14 nc) 17 ty) 18 mn) 48 vn) 49 vt)) (fun (v : Option Value) (u : Nat × Nat × Int32 × Int32 × Int32 × Int32 × Int32 × Int32 × (Nat → Int32) × (Nat → Int32) × (Nat → Int32) × (Nat → Int32) × (Nat → Int32)) => v = none ∧ (fa ≤ u.1) ∧ (u.1 ≤ 15) ∧ (sc ≤ u.2.1) ∧ (u.2.1 ≤ 30) ∧ (ChS B nd n9 ty u.2.2.2.2.2.2.2.2.2.1 mn u.2.2.2.2.2.2.2.2.2.2.1 nc u.2.2.2.2.2.2.2.2.1) ∧ (mnN B nd u.2.2.2.2.2.2.2.2.2.2.1) ∧ (∀ i : Nat, i < nd → ¬ (B) 9 i = 44 → u.2.2.2.2.2.2.2.2.1 i = (B) 14 i) ∧ (∀ i : Nat, i < sc → u.2.2.2.2.2.2.2.2.2.2.2.2 i = vt i) ∧ (If (u.1 = 0) (TyS B dc fd md nd u.2.2.2.2.2.2.2.2.2.1 u.2.2.2.2.2.2.2.2.2.2.1 u.2.2.2.2.2.2.2.2.1 k9 rs n9 (sc, il, ev) ∧ u.2.1 = (aft B n9 (sc, il, ev)).1 ∧ ∀ i : Nat, i < u.2.1 → u.2.2.2.2.2.2.2.2.2.2.2.2 i = (aft B n9 (sc, il, ev)).2.2 i ∧ tyOK dc (u.2.2.2.2.2.2.2.2.2.2.2.2 i)))) (fun u => (mW G h0 a (upd (upd (upd (upd (upd (upd (upd (upd (upd (upd (upd (upd (upd F 15 (nI u.1)) 16 u.2.2.1) 44 (nI fd)) 49 (nI md)) 73 (nI u.2.1)) 74 (nI k9)) 75 (nI rs)) 76 (nI il)) 77 u.2.2.2.1) 78 u.2.2.2.2.1) 79 u.2.2.2.2.2.1) 80 u.2.2.2.2.2.2.1) 81 u.2.2.2.2.2.2.2.1) (updA (updA (updA (updA (updA B 14 u.2.2.2.2.2.2.2.2.1) 17 u.2.2.2.2.2.2.2.2.2.1) 18 u.2.2.2.2.2.2.2.2.2.2.1) 48 u.2.2.2.2.2.2.2.2.2.2.2.1) 49 u.2.2.2.2.2.2.2.2.2.2.2.2))) := by
  intro sz
  refine Met.ofW (cc := cX12_lookTry) (maxL := 6) (ret := none) (by decide) rfl ?_
  intro p e s m args below meth c s₁ B9 hml hv
  obtain ⟨rfl, hsz, hP, hD0, hE, hX⟩ := hv
  have hx := B9.exec
  have hb := B9.bytes
  have hr := B9.returns
  have hts := atoms_spec (ws := Cond.code yX12_lookTry cX12_lookTry 6 none :: pw) B9.pre
  have hq : ∀ w ∈ pw, w.before _ s = true := fun w h => hts w (List.mem_cons_of_mem _ h)
  have hown : s.vm.findClass RX12 = some m.cls := findClass_of_methodNamed B9.named
  have hlocks := B9.notSynchronized
  subst hsz
  have hD := hD0.self (sz := s.heap.size)
  have hA : ∀ q : Nat, s.heap.size ≤ q → va_A (mW G h0 a (upd (upd (upd (upd (upd (upd (upd (upd (upd (upd (upd (upd F 15 (nI fa)) 44 (nI fd)) 49 (nI md)) 73 (nI sc)) 74 (nI k9)) 75 (nI rs)) 76 (nI il)) 77 dn) 78 wt) 79 wf) 80 ab) 81 ac) (updA (updA (updA (updA (updA B 14 nc) 17 ty) 18 mn) 48 vn) 49 vt)) s.heap.size q := fun q h => Or.inr h
  have hP : va_P G.1 pCl (mW G h0 a (upd (upd (upd (upd (upd (upd (upd (upd (upd (upd (upd (upd F 15 (nI fa)) 44 (nI fd)) 49 (nI md)) 73 (nI sc)) 74 (nI k9)) 75 (nI rs)) 76 (nI il)) 77 dn) 78 wt) 79 wf) 80 ab) 81 ac) (updA (updA (updA (updA (updA B 14 nc) 17 ty) 18 mn) 48 vn) 49 vt)) s.heap := hP
  generalize va_A (mW G h0 a (upd (upd (upd (upd (upd (upd (upd (upd (upd (upd (upd (upd F 15 (nI fa)) 44 (nI fd)) 49 (nI md)) 73 (nI sc)) 74 (nI k9)) 75 (nI rs)) 76 (nI il)) 77 dn) 78 wt) 79 wf) 80 ab) 81 ac) (updA (updA (updA (updA (updA B 14 nc) 17 ty) 18 mn) 48 vn) 49 vt)) s.heap.size = A at hD hE hA ⊢
  have hS : va_S A s.heap s.heap [] := va_S.rf
  have hl := lv_entry ([.ref h0, .int (nI n9)]) (n := 6) (Nat.le_of_ble_eq_true rfl)
  rw [lg_entry_eq]
  generalize (lg_sl ([.ref h0, .int (nI n9)]) ++ List.replicate (6 - (lg_sl ([.ref h0, .int (nI n9)])).length) Slot.unset).toArray = ls at hl ⊢
  have hl : lv_has ls 6 [(0, .ref h0), (1, .int (nI n9))] := hl
  have hF := hst.1
  have hPS := hst.2.1
  have hBI := hst.2.2.1
  have hRK := hst.2.2.2.1
  have hTY := hst.2.2.2.2.1
  have hNW := hst.2.2.2.2.2.1
  have hTK := hst.2.2.2.2.2.2
  have hv13 : B 13 n9 = -1 ∨ ∃ q : Nat, B 13 n9 = nI q ∧ q < nd := by
    obtain ⟨k2, e2, _, k24, hs⟩ := hF.knd hn9
    have ek : k2 = 41 := (nI_eq (by omega) (by omega)).mp (e2.symm.trans hkd)
    subst ek
    exact sok.or (hs 2 (by omega) (by omega)) (by decide)
  refine lv_aload_n hx hb dX12_lookTry_0 rfl (lv_at hl 0 rfl) ?_
  refine r_get (v := .ref (a 18)) hx hb hown hq hE hP 26 65 tFX12_26 (by decide) pw_1448 rfl dX12_lookTry_1 ?_
  refine lv_iload_n hx hb dX12_lookTry_4 rfl (lv_at hl 1 rfl) ?_
  refine lv_aload_n hx hb dX12_lookTry_5 rfl (lv_at hl 0 rfl) ?_
  refine r_get (v := .int (nI sc)) hx hb hown hq hE hP 73 537 tFX12_73 (by decide) pw_1795 rfl dX12_lookTry_6 ?_
  refine r_sti (f := mn) (j := n9) hx hb hE hP hD hS 18 (ma_18 G a _) rfl (mas_18 G a _) (by omega) (by decide) dX12_lookTry_9 (fun H locs hP hD hS => ?_)
  have hch1 : ChS B nd n9 ty ty mn (upd mn n9 (nI sc)) nc nc := (ChS.trans ChS.rfl (ChS.setM sub.rfl))
  have hmn2 : mnN B nd (upd mn n9 (nI sc)) := (mnN.up hmn (by rw [hkd]; decide))
  refine lv_aload_n hx hb dX12_lookTry_10 rfl (lv_at hl 0 rfl) ?_
  refine r_get (v := .int dn) hx hb hown hq hE hP 77 544 tFX12_77 (by decide) pw_1796 rfl dX12_lookTry_11 ?_
  refine lv_istore_n (lv' := [(2, .int dn), (0, .ref h0), (1, .int (nI n9))]) hx hb dX12_lookTry_14 rfl hl (by decide) rfl (fun ls hl => ?_)
  refine lv_aload_n hx hb dX12_lookTry_15 rfl (lv_at hl 1 rfl) ?_
  refine lv_aload_n hx hb dX12_lookTry_16 rfl (lv_at hl 1 rfl) ?_
  refine r_get (v := .ref (a 12)) hx hb hown hq hE hP 20 47 tFX12_20 (by decide) pw_1442 rfl dX12_lookTry_17 ?_
  refine lv_iload_n hx hb dX12_lookTry_20 rfl (lv_at hl 2 rfl) ?_
  refine r_ldi (f := (B 12)) (j := n9) hx hb hE hP 12 (ma_12 G a _) rfl (by omega) (by decide) dX12_lookTry_21 ?_
  obtain ⟨c3, e4, h5, hp6, h7, hc8, hh9, hg10⟩ := Fs2.kid (kk := 41) (s := 1) hF hn9 hkd (by decide) (by decide) (by decide) (by decide) (by omega)
  refine lv_topi (fun x11 e12 => ?_)
  obtain rfl : x11 = nI c3 := e12.trans e4
  have hP : va_P G.1 pCl (mW G h0 a (upd (upd (upd (upd (upd (upd (upd (upd (upd (upd (upd (upd (upd (upd (upd (upd (upd (upd (upd (upd (upd (upd (upd (upd F 15 (nI fa)) 44 (nI fd)) 49 (nI md)) 73 (nI sc)) 74 (nI k9)) 75 (nI rs)) 76 (nI il)) 77 dn) 78 wt) 79 wf) 80 ab) 81 ac) 15 (nI fa)) 44 (nI fd)) 49 (nI md)) 73 (nI sc)) 74 (nI k9)) 75 (nI rs)) 76 (nI il)) 77 dn) 78 wt) 79 wf) 80 ab) 81 ac) (updA (updA (updA (updA (updA B 14 nc) 17 ty) 18 (upd mn n9 (nI sc))) 48 vn) 49 vt)) _ := hP
  have hD : va_D A (mW G h0 a (upd (upd (upd (upd (upd (upd (upd (upd (upd (upd (upd (upd (upd (upd (upd (upd (upd (upd (upd (upd (upd (upd (upd (upd F 15 (nI fa)) 44 (nI fd)) 49 (nI md)) 73 (nI sc)) 74 (nI k9)) 75 (nI rs)) 76 (nI il)) 77 dn) 78 wt) 79 wf) 80 ab) 81 ac) 15 (nI fa)) 44 (nI fd)) 49 (nI md)) 73 (nI sc)) 74 (nI k9)) 75 (nI rs)) 76 (nI il)) 77 dn) 78 wt) 79 wf) 80 ab) 81 ac) (updA (updA (updA (updA (updA B 14 nc) 17 ty) 18 (upd mn n9 (nI sc))) 48 vn) 49 vt)) := mW_D hD
  refine pc_V0 (G := G) (As := [.int (nI c3)]) (rest := []) hx hb hml hown hq hE hX pX0_al hP hD hS hA hl.1 (ihS h0 a (upd (upd (upd (upd (upd (upd (upd (upd (upd (upd (upd (upd F 15 (nI fa)) 44 (nI fd)) 49 (nI md)) 73 (nI sc)) 74 (nI k9)) 75 (nI rs)) 76 (nI il)) 77 dn) 78 wt) 79 wf) 80 ab) 81 ac) B c3 fa sc il k9 rs nd T nm wr lz dc fd md pr bk gh dn wt wf ab ac nc ty (upd mn n9 (nI sc)) vn vt ev hst hnm h5 (by omega) (by omega) (by omega) hk9 hnc hmn2 (by omega) hrs (by omega) (mnC.own hF (by omega) hn9 (mnC.kid hmc (by omega) hp6) h5 hp6) hvt hve (kcl_3_7 (kcl_10_3 hc8))) (gV pw_1874 pw_1875 pw_1876 pw_1523 pw_1884) hV_X12_lookStatement 0 9 rfl rfl rfl rfl (Nat.le_of_ble_eq_true rfl) dX12_lookTry_22 ⟨Nat.le_of_ble_eq_true rfl, Nat.le_of_ble_eq_true rfl⟩ ⟨(by show (4 * (z9 - 1) + 14) + 1 ≤ (4 * z9 + 13); omega), (by show 8 + (4 + 11) + (160 * (z9 - 1) + 1700) ≤ (160 * z9 + 1660); omega)⟩ (fun v15 u13 H locs hw14 hP hD hS => ?_)
  obtain ⟨fa16, sc17, pl18, dn19, wt20, wf21, ab22, ac23, nc24, ty25, mn26, vn27, vt28⟩ := u13
  obtain ⟨hw14, h29, h30, h31, h32, h33, h34, h35, h36, h37⟩ := hw14
  replace h29 : fa ≤ fa16 := h29
  replace h30 : fa16 ≤ 15 := h30
  replace h31 : sc ≤ sc17 := h31
  replace h32 : sc17 ≤ 30 := h32
  replace h33 : ChS B nd c3 ty ty25 (upd mn n9 (nI sc)) mn26 nc nc24 := h33
  replace h34 : mnN B nd mn26 := h34
  replace h35 : ∀ i : Nat, i < nd → ¬ (B) 9 i = 44 → nc24 i = (B) 14 i := h35
  replace h36 : ∀ i : Nat, i < sc → vt28 i = vt i := h36
  replace h37 : If (fa16 = 0) (TyS B dc fd md nd ty25 mn26 nc24 k9 rs c3 (sc, il, ev) ∧ sc17 = (aft B c3 (sc, il, ev)).1 ∧ ∀ i : Nat, i < sc17 → vt28 i = (aft B c3 (sc, il, ev)).2.2 i ∧ tyOK dc (vt28 i)) := h37
  obtain rfl : v15 = none := hw14
  have hP : va_P G.1 pCl (mW G h0 a (upd (upd (upd (upd (upd (upd (upd (upd (upd (upd (upd (upd (upd F 15 (nI fa16)) 16 pl18) 44 (nI fd)) 49 (nI md)) 73 (nI sc17)) 74 (nI k9)) 75 (nI rs)) 76 (nI il)) 77 dn19) 78 wt20) 79 wf21) 80 ab22) 81 ac23) (updA (updA (updA (updA (updA B 14 nc24) 17 ty25) 18 mn26) 48 vn27) 49 vt28)) _ := mW_to (F := F) (l1 := [(15, (nI fa)), (44, (nI fd)), (49, (nI md)), (73, (nI sc)), (74, (nI k9)), (75, (nI rs)), (76, (nI il)), (77, dn), (78, wt), (79, wf), (80, ab), (81, ac), (15, (nI fa16)), (16, pl18), (44, (nI fd)), (49, (nI md)), (73, (nI sc17)), (74, (nI k9)), (75, (nI rs)), (76, (nI il)), (77, dn19), (78, wt20), (79, wf21), (80, ab22), (81, ac23)]) (l2 := [(15, (nI fa16)), (16, pl18), (44, (nI fd)), (49, (nI md)), (73, (nI sc17)), (74, (nI k9)), (75, (nI rs)), (76, (nI il)), (77, dn19), (78, wt20), (79, wf21), (80, ab22), (81, ac23)]) (V := [(nI fa16), (nI fd), (nI md), (nI sc17), (nI k9), (nI rs), (nI il), dn19, wt20, wf21, ab22, ac23, (nI fa16), pl18, (nI fd), (nI md), (nI sc17), (nI k9), (nI rs), (nI il), dn19, wt20, wf21, ab22, ac23, (nI fa16), pl18, (nI fd), (nI md), (nI sc17), (nI k9), (nI rs), (nI il), dn19, wt20, wf21, ab22, ac23]) rfl rfl rfl hP
  have hD : va_D A (mW G h0 a (upd (upd (upd (upd (upd (upd (upd (upd (upd (upd (upd (upd (upd F 15 (nI fa16)) 16 pl18) 44 (nI fd)) 49 (nI md)) 73 (nI sc17)) 74 (nI k9)) 75 (nI rs)) 76 (nI il)) 77 dn19) 78 wt20) 79 wf21) 80 ab22) 81 ac23) (updA (updA (updA (updA (updA B 14 nc24) 17 ty25) 18 mn26) 48 vn27) 49 vt28)) := mW_D hD
  refine W.widen (k := 0) (n := 0) (Nat.le_of_ble_eq_true rfl) (Nat.le_of_ble_eq_true rfl) ?_
  refine W.eq (g2 := F0 m 25 ls []) rfl ?_
  have hch38 : ChS B nd n9 ty ty25 mn mn26 nc nc24 := (ChS.trans hch1 (ChS.kid h33 (by omega) hp6))
  have ho39 : mn26 n9 = nI sc := ((ChS.own hF (by omega) hn9 h5 hp6 h33).1.trans upd_eq)
  have hq840 : ∀ i : Nat, i < sc → vt28 i = vt i := (fun i h => (h36 i (by omega)).trans ((fun i h => rfl) i h))
  have hvt41 : ∀ i : Nat, i < sc → tyOK dc (vt28 i) := (fun i h => by rw [h36 i h]; exact hvt i h)
  have hve42 : ∀ i : Nat, i < sc → vt28 i = ev i := (fun i h => (h36 i h).trans (hve i h))
  have hsl43 : If (fa16 = 0) (slP B n9 (sc, il, ev) (fun c e9 => TyS B dc fd md nd ty25 mn26 nc24 k9 rs c e9) 41 1) := (fun e => slP.one (by decide) (by omega) e4 (h37 e).1)
  refine lv_aload_n hx hb dX12_lookTry_25 rfl (lv_at hl 1 rfl) ?_
  refine r_get (v := .int dn19) hx hb hown hq hE hP 77 544 tFX12_77 (by decide) pw_1796 rfl dX12_lookTry_26 ?_
  refine lv_istore_n (lv' := [(3, .int dn19), (2, .int dn), (0, .ref h0), (1, .int (nI n9))]) hx hb dX12_lookTry_29 rfl hl (by decide) rfl (fun ls hl => ?_)
  refine lv_aload_n hx hb dX12_lookTry_30 rfl (lv_at hl 2 rfl) ?_
  refine r_get (v := .ref (a 13)) hx hb hown hq hE hP 21 50 tFX12_21 (by decide) pw_1443 rfl dX12_lookTry_31 ?_
  refine lv_iload_n hx hb dX12_lookTry_34 rfl (lv_at hl 3 rfl) ?_
  refine r_ldi (f := (B 13)) (j := n9) hx hb hE hP 13 (ma_13 G a _) rfl (by omega) (by decide) dX12_lookTry_35 ?_
  refine lv_istore (lv' := [(4, .int ((B 13) n9)), (3, .int dn19), (2, .int dn), (0, .ref h0), (1, .int (nI n9))]) hx hb dX12_lookTry_36 hl (by decide) rfl (fun ls hl => ?_)
  have loop_o : ∀ (n_o : Nat) (i2 : Nat) (fa2 : Nat) (sc2 : Nat) (pl2 : Int32) (dn2 : Int32) (wt2 : Int32) (wf2 : Int32) (ab2 : Int32) (ac2 : Int32) (nc2 : Nat → Int32) (ty2 : Nat → Int32) (mn2 : Nat → Int32) (vn2 : Nat → Int32) (vt2 : Nat → Int32) (all2 : Int32) (H : Heap) (locs : List Loc) (ls : Array Slot), i2 ≤ nd → nd + 1 ≤ i2 + n_o → (fa ≤ fa2) → (fa2 ≤ 15) → (sc ≤ sc2) → (sc2 ≤ 30) → (ChS B nd n9 ty ty2 mn mn2 nc nc2) → (mnN B nd mn2) → (∀ i : Nat, i < nd → ¬ B 9 i = 44 → nc2 i = B 14 i) → (∀ i : Nat, i < sc → vt2 i = vt i) → (mn2 n9 = nI sc) → (If (fa2 = 0) (slP B n9 (sc, il, ev) (fun c e9 => TyS B dc fd md nd ty2 mn2 nc2 k9 rs c e9) 41 1)) → (If (fa2 = 0) (sc2 = sc)) → (If (fa2 = 0) (TsL B dc fd md nd ty2 mn2 nc2 k9 rs (B 13 n9) (fun _ => (sc, il, ev)) i2)) → (mnL B nd (B 13 n9) i2 mn2) → (∀ c : Nat, c < nd → pch B n9 c → gh 0 c = 8 * n9 + 3 → mnC B nd c mn2) → va_P G.1 pCl (mW G h0 a (upd (upd (upd (upd (upd (upd (upd (upd (upd (upd (upd (upd (upd F 15 (nI fa2)) 16 pl2) 44 (nI fd)) 49 (nI md)) 73 (nI sc2)) 74 (nI k9)) 75 (nI rs)) 76 (nI il)) 77 dn2) 78 wt2) 79 wf2) 80 ab2) 81 ac2) (updA (updA (updA (updA (updA B 14 nc2) 17 ty2) 18 mn2) 48 vn2) 49 vt2)) H → va_D A (mW G h0 a (upd (upd (upd (upd (upd (upd (upd (upd (upd (upd (upd (upd (upd F 15 (nI fa2)) 16 pl2) 44 (nI fd)) 49 (nI md)) 73 (nI sc2)) 74 (nI k9)) 75 (nI rs)) 76 (nI il)) 77 dn2) 78 wt2) 79 wf2) 80 ab2) 81 ac2) (updA (updA (updA (updA (updA B 14 nc2) 17 ty2) 18 mn2) 48 vn2) 49 vt2)) → va_S A s.heap H locs → lv_has ls 6 [(4, .int (itr (B 16) (B 13 n9) i2)), (3, .int all2), (2, .int dn), (1, .int (nI n9)), (0, .ref h0)] → W p l e (headSpec (Cond.code yX12_lookTry cX12_lookTry 6 none :: pw) ({ frames := (4 * z9 + 13), cells := 0, slots := 0, locals := (160 * z9 + 1660) } : Room)).room s m ([.ref h0, .int (nI n9)] : List Value).toArray below meth c H locs 0 0 (MQ below (pQ G A (fun (v : Option Value) (u : Nat × Nat × Int32 × Int32 × Int32 × Int32 × Int32 × Int32 × (Nat → Int32) × (Nat → Int32) × (Nat → Int32) × (Nat → Int32) × (Nat → Int32)) => v = none ∧ (fa ≤ u.1) ∧ (u.1 ≤ 15) ∧ (sc ≤ u.2.1) ∧ (u.2.1 ≤ 30) ∧ (ChS B nd n9 ty u.2.2.2.2.2.2.2.2.2.1 mn u.2.2.2.2.2.2.2.2.2.2.1 nc u.2.2.2.2.2.2.2.2.1) ∧ (mnN B nd u.2.2.2.2.2.2.2.2.2.2.1) ∧ (∀ i : Nat, i < nd → ¬ (B) 9 i = 44 → u.2.2.2.2.2.2.2.2.1 i = (B) 14 i) ∧ (∀ i : Nat, i < sc → u.2.2.2.2.2.2.2.2.2.2.2.2 i = vt i) ∧ (If (u.1 = 0) (TyS B dc fd md nd u.2.2.2.2.2.2.2.2.2.1 u.2.2.2.2.2.2.2.2.2.2.1 u.2.2.2.2.2.2.2.2.1 k9 rs n9 (sc, il, ev) ∧ u.2.1 = (aft B n9 (sc, il, ev)).1 ∧ ∀ i : Nat, i < u.2.1 → u.2.2.2.2.2.2.2.2.2.2.2.2 i = (aft B n9 (sc, il, ev)).2.2 i ∧ tyOK dc (u.2.2.2.2.2.2.2.2.2.2.2.2 i)))) (fun u => (mW G h0 a (upd (upd (upd (upd (upd (upd (upd (upd (upd (upd (upd (upd (upd F 15 (nI u.1)) 16 u.2.2.1) 44 (nI fd)) 49 (nI md)) 73 (nI u.2.1)) 74 (nI k9)) 75 (nI rs)) 76 (nI il)) 77 u.2.2.2.1) 78 u.2.2.2.2.1) 79 u.2.2.2.2.2.1) 80 u.2.2.2.2.2.2.1) 81 u.2.2.2.2.2.2.2.1) (updA (updA (updA (updA (updA B 14 u.2.2.2.2.2.2.2.2.1) 17 u.2.2.2.2.2.2.2.2.2.1) 18 u.2.2.2.2.2.2.2.2.2.2.1) 48 u.2.2.2.2.2.2.2.2.2.2.2.1) 49 u.2.2.2.2.2.2.2.2.2.2.2.2)))) ([.ref h0, .int (nI n9)] : List Value).toArray s ({ frames := (4 * z9 + 13), cells := 0, slots := 0, locals := (160 * z9 + 1660) } : Room).cells ({ frames := (4 * z9 + 13), cells := 0, slots := 0, locals := (160 * z9 + 1660) } : Room).slots A) (F0 m 38 ls []) := by
    intro n_o
    induction n_o with
    | zero => intro i2 fa2 sc2 pl2 dn2 wt2 wf2 ab2 ac2 nc2 ty2 mn2 vn2 vt2 all2 H locs ls hk_o hn_o; omega
    | succ n_o ih_o =>
      intro i2 fa2 sc2 pl2 dn2 wt2 wf2 ab2 ac2 nc2 ty2 mn2 vn2 vt2 all2 H locs ls hk_o hn_o hl1 hl2 hl3 hl4 hch2 hmn2 hnc2 hq82 hown2 hs1 hscq hcs hmcl hmcC hP hD hS hl
      refine lv_iload hx hb dX12_lookTry_38 (lv_at hl 0 rfl) ?_
      refine lv_iconst (v := (-1)) hx hb dX12_lookTry_40 (by decide) ?_
      refine lv_icmp_eq (tgt := 118) hx hb dX12_lookTry_41 (by decide) (fun c44 => ?_) (fun c44 => ?_)
      · have hsl45 : If (fa2 = 0) (slP B n9 (sc, il, ev) (fun c e9 => TyS B dc fd md nd ty2 mn2 nc2 k9 rs c e9) 41 2) := (fun e => slP.list (by decide) (TsL.all (hcs e) c44))
        refine lv_aload_n hx hb dX12_lookTry_118 rfl (lv_at hl 4 rfl) ?_
        refine r_get (v := .ref (a 14)) hx hb hown hq hE hP 22 53 tFX12_22 (by decide) pw_1444 rfl dX12_lookTry_119 ?_
        refine lv_iload_n hx hb dX12_lookTry_122 rfl (lv_at hl 3 rfl) ?_
        refine r_ldi (f := nc2) (j := n9) hx hb hE hP 14 (ma_14 G a _) rfl (by omega) (by decide) dX12_lookTry_123 ?_
        rcases Fs2.kidO (kk := 41) (s := 3) hF hn9 hkd (by decide) (by decide) (by decide) (by decide) (by omega) with e54 | ⟨c46, e47, h48, hp49, h50, hc51, hh52, hg53⟩
        · refine lv_topi (fun x55 e56 => ?_)
          obtain rfl : x55 = (-1) := e56.trans ((hnc2 n9 hn9 (by rw [hkd]; decide)).trans e54)
          refine lv_iconst (v := (-1)) hx hb dX12_lookTry_124 (by decide) ?_
          refine lv_icmp_eq (tgt := 157) hx hb dX12_lookTry_125 (by decide) (fun c57 => ?_) (fun c57 => absurd c57 (by decide))
          refine lv_aload_n hx hb dX12_lookTry_157 rfl (lv_at hl 4 rfl) ?_
          refine lv_iload_n hx hb dX12_lookTry_158 rfl (lv_at hl 1 rfl) ?_
          refine r_put (v := all2) (ty := .int) hx hb hown hq hE hP hD hS 77 544 tFX12_77 (by decide) pw_1796 (by decide) rfl rfl (ms_77 a _ _) dX12_lookTry_159 (fun H locs hP hD hS => ?_)
          have hve58 : ∀ i : Nat, i < sc → vt2 i = ev i := (fun i h => (hq82 i h).trans (hve i h))
          have hvt59 : ∀ i : Nat, i < sc → tyOK dc (vt2 i) := (fun i h => by rw [hq82 i h]; exact hvt i h)
          have hz60 : fa ≤ fa2 := (by omega)
          have hz61 : fa2 ≤ 15 := (by omega)
          have hz62 : sc ≤ sc2 := (by omega)
          have hz63 : sc2 ≤ 30 := (by omega)
          have hz64 : ChS B nd n9 ty ty2 mn mn2 nc nc2 := hch2
          have hz65 : mnN B nd mn2 := hmn2
          have hz66 : ∀ i : Nat, i < nd → ¬ (B) 9 i = 44 → nc2 i = (B) 14 i := hnc2
          have hz67 : ∀ i : Nat, i < sc → vt2 i = vt i := hq82
          have hz68 : If (fa2 = 0) (TyS B dc fd md nd ty2 mn2 nc2 k9 rs n9 (sc, il, ev) ∧ sc2 = (aft B n9 (sc, il, ev)).1 ∧ ∀ i : Nat, i < sc2 → vt2 i = (aft B n9 (sc, il, ev)).2.2 i ∧ tyOK dc (vt2 i)) := (fun e => ⟨TyS.of (steps (kk := 41) hkd (by decide) (hs1 (by omega)) (hsl45 (by omega)) ((fun _ => slP.none (by decide) e54) (by omega)) (slP.no (by decide))) (LTX.st hkd (by decide) (by decide) (show LSk B dc ty2 mn2 nc2 rs n9 (sc, il, ev) 41 from hown2)), (by rw [(aft_no (by rw [hkd]; decide))]; exact hscq (by omega)), (fun i h => by rw [(aft_no (by rw [hkd]; decide))]; have z := hscq (by omega); exact ⟨hve58 i (by omega), hvt59 i (by omega)⟩)⟩)
          have hP : va_P G.1 pCl (mW G h0 a (upd (upd (upd (upd (upd (upd (upd (upd (upd (upd (upd (upd (upd F 15 (nI fa2)) 16 pl2) 44 (nI fd)) 49 (nI md)) 73 (nI sc2)) 74 (nI k9)) 75 (nI rs)) 76 (nI il)) 77 all2) 78 wt2) 79 wf2) 80 ab2) 81 ac2) (updA (updA (updA (updA (updA B 14 nc2) 17 ty2) 18 mn2) 48 vn2) 49 vt2)) _ := mW_to (F := F) (l1 := [(15, (nI fa2)), (16, pl2), (44, (nI fd)), (49, (nI md)), (73, (nI sc2)), (74, (nI k9)), (75, (nI rs)), (76, (nI il)), (77, dn2), (78, wt2), (79, wf2), (80, ab2), (81, ac2), (77, all2)]) (l2 := [(15, (nI fa2)), (16, pl2), (44, (nI fd)), (49, (nI md)), (73, (nI sc2)), (74, (nI k9)), (75, (nI rs)), (76, (nI il)), (77, all2), (78, wt2), (79, wf2), (80, ab2), (81, ac2)]) (V := [(nI fa2), pl2, (nI fd), (nI md), (nI sc2), (nI k9), (nI rs), (nI il), all2, wt2, wf2, ab2, ac2, all2, (nI fa2), pl2, (nI fd), (nI md), (nI sc2), (nI k9), (nI rs), (nI il), all2, wt2, wf2, ab2, ac2]) rfl rfl rfl hP
          have hD : va_D A (mW G h0 a (upd (upd (upd (upd (upd (upd (upd (upd (upd (upd (upd (upd (upd F 15 (nI fa2)) 16 pl2) 44 (nI fd)) 49 (nI md)) 73 (nI sc2)) 74 (nI k9)) 75 (nI rs)) 76 (nI il)) 77 all2) 78 wt2) 79 wf2) 80 ab2) 81 ac2) (updA (updA (updA (updA (updA B 14 nc2) 17 ty2) 18 mn2) 48 vn2) 49 vt2)) := mW_D hD
          exact W.vret hx hb hr (fun t9 ht9 hW9 => ⟨⟨_, (fa2, sc2, pl2, all2, wt2, wf2, ab2, ac2, nc2, ty2, mn2, vn2, vt2), rfl, ⟨rfl, hz60, hz61, hz62, hz63, hz64, hz65, hz66, hz67, hz68⟩, by rw [ht9]; exact hP, hD⟩, hS.F ht9⟩) hS.2.2 dX12_lookTry_162
        · refine lv_topi (fun x69 e70 => ?_)
          obtain rfl : x69 = nI c46 := e70.trans ((hnc2 n9 hn9 (by rw [hkd]; decide)).trans e47)
          refine lv_iconst (v := (-1)) hx hb dX12_lookTry_124 (by decide) ?_
          refine lv_icmp_eq (tgt := 157) hx hb dX12_lookTry_125 (by decide) (fun c71 => absurd c71 (nI_m1 (by omega))) (fun c71 => ?_)
          refine lv_aload_n hx hb dX12_lookTry_128 rfl (lv_at hl 4 rfl) ?_
          refine r_get (v := .int (nI fa2)) hx hb hown hq hE hP 15 350 tFX12_15 (by decide) pw_1594 rfl dX12_lookTry_129 ?_
          refine lv_if_ne (tgt := 157) hx hb dX12_lookTry_132 (by decide) (fun c72 => ?_) (fun c72 => ?_)
          · have n73 : ¬ (fa2 = 0) := fun h9 => c72 ((nI_eq (a := fa2) (b := 0) (by omega) (by omega)).mpr h9)
            refine lv_aload_n hx hb dX12_lookTry_157 rfl (lv_at hl 4 rfl) ?_
            refine lv_iload_n hx hb dX12_lookTry_158 rfl (lv_at hl 1 rfl) ?_
            refine r_put (v := all2) (ty := .int) hx hb hown hq hE hP hD hS 77 544 tFX12_77 (by decide) pw_1796 (by decide) rfl rfl (ms_77 a _ _) dX12_lookTry_159 (fun H locs hP hD hS => ?_)
            have hz74 : fa ≤ fa2 := (by omega)
            have hz75 : fa2 ≤ 15 := (by omega)
            have hz76 : sc ≤ sc2 := (by omega)
            have hz77 : sc2 ≤ 30 := (by omega)
            have hz78 : ChS B nd n9 ty ty2 mn mn2 nc nc2 := hch2
            have hz79 : mnN B nd mn2 := hmn2
            have hz80 : ∀ i : Nat, i < nd → ¬ (B) 9 i = 44 → nc2 i = (B) 14 i := hnc2
            have hz81 : ∀ i : Nat, i < sc → vt2 i = vt i := hq82
            have hz82 : If (fa2 = 0) (TyS B dc fd md nd ty2 mn2 nc2 k9 rs n9 (sc, il, ev) ∧ sc2 = (aft B n9 (sc, il, ev)).1 ∧ ∀ i : Nat, i < sc2 → vt2 i = (aft B n9 (sc, il, ev)).2.2 i ∧ tyOK dc (vt2 i)) := (fun e => absurd e (by omega))
            have hP : va_P G.1 pCl (mW G h0 a (upd (upd (upd (upd (upd (upd (upd (upd (upd (upd (upd (upd (upd F 15 (nI fa2)) 16 pl2) 44 (nI fd)) 49 (nI md)) 73 (nI sc2)) 74 (nI k9)) 75 (nI rs)) 76 (nI il)) 77 all2) 78 wt2) 79 wf2) 80 ab2) 81 ac2) (updA (updA (updA (updA (updA B 14 nc2) 17 ty2) 18 mn2) 48 vn2) 49 vt2)) _ := mW_to (F := F) (l1 := [(15, (nI fa2)), (16, pl2), (44, (nI fd)), (49, (nI md)), (73, (nI sc2)), (74, (nI k9)), (75, (nI rs)), (76, (nI il)), (77, dn2), (78, wt2), (79, wf2), (80, ab2), (81, ac2), (77, all2)]) (l2 := [(15, (nI fa2)), (16, pl2), (44, (nI fd)), (49, (nI md)), (73, (nI sc2)), (74, (nI k9)), (75, (nI rs)), (76, (nI il)), (77, all2), (78, wt2), (79, wf2), (80, ab2), (81, ac2)]) (V := [(nI fa2), pl2, (nI fd), (nI md), (nI sc2), (nI k9), (nI rs), (nI il), all2, wt2, wf2, ab2, ac2, all2, (nI fa2), pl2, (nI fd), (nI md), (nI sc2), (nI k9), (nI rs), (nI il), all2, wt2, wf2, ab2, ac2]) rfl rfl rfl hP
            have hD : va_D A (mW G h0 a (upd (upd (upd (upd (upd (upd (upd (upd (upd (upd (upd (upd (upd F 15 (nI fa2)) 16 pl2) 44 (nI fd)) 49 (nI md)) 73 (nI sc2)) 74 (nI k9)) 75 (nI rs)) 76 (nI il)) 77 all2) 78 wt2) 79 wf2) 80 ab2) 81 ac2) (updA (updA (updA (updA (updA B 14 nc2) 17 ty2) 18 mn2) 48 vn2) 49 vt2)) := mW_D hD
            exact W.vret hx hb hr (fun t9 ht9 hW9 => ⟨⟨_, (fa2, sc2, pl2, all2, wt2, wf2, ab2, ac2, nc2, ty2, mn2, vn2, vt2), rfl, ⟨rfl, hz74, hz75, hz76, hz77, hz78, hz79, hz80, hz81, hz82⟩, by rw [ht9]; exact hP, hD⟩, hS.F ht9⟩) hS.2.2 dX12_lookTry_162
          · have n83 : fa2 = 0 := (nI_eq (a := fa2) (b := 0) (by omega) (by omega)).mp c72
            obtain rfl : sc = sc2 := (hscq (by omega)).symm
            have hP : va_P G.1 pCl (mW G h0 a (upd (upd (upd (upd (upd (upd (upd (upd (upd (upd (upd (upd (upd F 15 (nI fa2)) 16 pl2) 44 (nI fd)) 49 (nI md)) 73 (nI sc)) 74 (nI k9)) 75 (nI rs)) 76 (nI il)) 77 dn2) 78 wt2) 79 wf2) 80 ab2) 81 ac2) (updA (updA (updA (updA (updA B 14 nc2) 17 ty2) 18 mn2) 48 vn2) 49 vt2)) _ := hP
            have hD : va_D A (mW G h0 a (upd (upd (upd (upd (upd (upd (upd (upd (upd (upd (upd (upd (upd F 15 (nI fa2)) 16 pl2) 44 (nI fd)) 49 (nI md)) 73 (nI sc)) 74 (nI k9)) 75 (nI rs)) 76 (nI il)) 77 dn2) 78 wt2) 79 wf2) 80 ab2) 81 ac2) (updA (updA (updA (updA (updA B 14 nc2) 17 ty2) 18 mn2) 48 vn2) 49 vt2)) := mW_D hD
            have hve84 : ∀ i : Nat, i < sc → vt2 i = ev i := (fun i h => (hq82 i h).trans (hve i h))
            have hvt85 : ∀ i : Nat, i < sc → tyOK dc (vt2 i) := (fun i h => by rw [hq82 i h]; exact hvt i h)
            refine lv_aload_n hx hb dX12_lookTry_135 rfl (lv_at hl 4 rfl) ?_
            refine lv_iload_n hx hb dX12_lookTry_136 rfl (lv_at hl 2 rfl) ?_
            refine r_put (v := dn) (ty := .int) hx hb hown hq hE hP hD hS 77 544 tFX12_77 (by decide) pw_1796 (by decide) rfl rfl (ms_77 a _ _) dX12_lookTry_137 (fun H locs hP hD hS => ?_)
            refine lv_aload_n hx hb dX12_lookTry_140 rfl (lv_at hl 4 rfl) ?_
            refine lv_aload_n hx hb dX12_lookTry_141 rfl (lv_at hl 4 rfl) ?_
            refine r_get (v := .ref (a 14)) hx hb hown hq hE hP 22 53 tFX12_22 (by decide) pw_1444 rfl dX12_lookTry_142 ?_
            refine lv_iload_n hx hb dX12_lookTry_145 rfl (lv_at hl 3 rfl) ?_
            refine r_ldi (f := nc2) (j := n9) hx hb hE hP 14 (ma_14 G a _) rfl (by omega) (by decide) dX12_lookTry_146 ?_
            refine lv_topi (fun x86 e87 => ?_)
            obtain rfl : x86 = nI c46 := e87.trans ((hnc2 n9 hn9 (by rw [hkd]; decide)).trans e47)
            have hP : va_P G.1 pCl (mW G h0 a (upd (upd (upd (upd (upd (upd (upd (upd (upd (upd (upd (upd (upd (upd (upd (upd (upd (upd (upd (upd (upd (upd (upd (upd (upd F 15 (nI fa2)) 16 pl2) 44 (nI fd)) 49 (nI md)) 73 (nI sc)) 74 (nI k9)) 75 (nI rs)) 76 (nI il)) 77 dn) 78 wt2) 79 wf2) 80 ab2) 81 ac2) 15 (nI fa2)) 44 (nI fd)) 49 (nI md)) 73 (nI sc)) 74 (nI k9)) 75 (nI rs)) 76 (nI il)) 77 dn) 78 wt2) 79 wf2) 80 ab2) 81 ac2) (updA (updA (updA (updA (updA B 14 nc2) 17 ty2) 18 mn2) 48 vn2) 49 vt2)) _ := mW_to (F := F) (l1 := [(15, (nI fa2)), (16, pl2), (44, (nI fd)), (49, (nI md)), (73, (nI sc)), (74, (nI k9)), (75, (nI rs)), (76, (nI il)), (77, dn2), (78, wt2), (79, wf2), (80, ab2), (81, ac2), (77, dn)]) (l2 := [(15, (nI fa2)), (16, pl2), (44, (nI fd)), (49, (nI md)), (73, (nI sc)), (74, (nI k9)), (75, (nI rs)), (76, (nI il)), (77, dn), (78, wt2), (79, wf2), (80, ab2), (81, ac2), (15, (nI fa2)), (44, (nI fd)), (49, (nI md)), (73, (nI sc)), (74, (nI k9)), (75, (nI rs)), (76, (nI il)), (77, dn), (78, wt2), (79, wf2), (80, ab2), (81, ac2)]) (V := [(nI fa2), pl2, (nI fd), (nI md), (nI sc), (nI k9), (nI rs), (nI il), dn, wt2, wf2, ab2, ac2, dn, (nI fa2), pl2, (nI fd), (nI md), (nI sc), (nI k9), (nI rs), (nI il), dn, wt2, wf2, ab2, ac2, (nI fa2), (nI fd), (nI md), (nI sc), (nI k9), (nI rs), (nI il), dn, wt2, wf2, ab2, ac2]) rfl rfl rfl hP
            have hD : va_D A (mW G h0 a (upd (upd (upd (upd (upd (upd (upd (upd (upd (upd (upd (upd (upd (upd (upd (upd (upd (upd (upd (upd (upd (upd (upd (upd (upd F 15 (nI fa2)) 16 pl2) 44 (nI fd)) 49 (nI md)) 73 (nI sc)) 74 (nI k9)) 75 (nI rs)) 76 (nI il)) 77 dn) 78 wt2) 79 wf2) 80 ab2) 81 ac2) 15 (nI fa2)) 44 (nI fd)) 49 (nI md)) 73 (nI sc)) 74 (nI k9)) 75 (nI rs)) 76 (nI il)) 77 dn) 78 wt2) 79 wf2) 80 ab2) 81 ac2) (updA (updA (updA (updA (updA B 14 nc2) 17 ty2) 18 mn2) 48 vn2) 49 vt2)) := mW_D hD
            refine pc_V0 (G := G) (As := [.int (nI c46)]) (rest := []) hx hb hml hown hq hE hX pX0_al hP hD hS hA hl.1 (ihS h0 a (upd (upd (upd (upd (upd (upd (upd (upd (upd (upd (upd (upd (upd F 15 (nI fa2)) 16 pl2) 44 (nI fd)) 49 (nI md)) 73 (nI sc)) 74 (nI k9)) 75 (nI rs)) 76 (nI il)) 77 dn) 78 wt2) 79 wf2) 80 ab2) 81 ac2) B c46 fa2 sc il k9 rs nd T nm wr lz dc fd md pr bk gh dn wt2 wf2 ab2 ac2 nc2 ty2 mn2 vn2 vt2 ev hst hnm h48 (by omega) (by omega) (by omega) hk9 hnc2 hmn2 (by omega) hrs (by omega) (hmcC c46 h48 hp49 hg53) hvt85 hve84 (kcl_3_7 (kcl_10_3 hc51))) (gV pw_1874 pw_1875 pw_1876 pw_1523 pw_1884) hV_X12_lookStatement 0 9 rfl rfl rfl rfl (Nat.le_of_ble_eq_true rfl) dX12_lookTry_147 ⟨Nat.le_of_ble_eq_true rfl, Nat.le_of_ble_eq_true rfl⟩ ⟨(by show (4 * (z9 - 1) + 14) + 1 ≤ (4 * z9 + 13); omega), (by show 8 + (4 + 11) + (160 * (z9 - 1) + 1700) ≤ (160 * z9 + 1660); omega)⟩ (fun v90 u88 H locs hw89 hP hD hS => ?_)
            obtain ⟨fa91, sc92, pl93, dn94, wt95, wf96, ab97, ac98, nc99, ty100, mn101, vn102, vt103⟩ := u88
            obtain ⟨hw89, h104, h105, h106, h107, h108, h109, h110, h111, h112⟩ := hw89
            replace h104 : fa2 ≤ fa91 := h104
            replace h105 : fa91 ≤ 15 := h105
            replace h106 : sc ≤ sc92 := h106
            replace h107 : sc92 ≤ 30 := h107
            replace h108 : ChS B nd c46 ty2 ty100 mn2 mn101 nc2 nc99 := h108
            replace h109 : mnN B nd mn101 := h109
            replace h110 : ∀ i : Nat, i < nd → ¬ (B) 9 i = 44 → nc99 i = (B) 14 i := h110
            replace h111 : ∀ i : Nat, i < sc → vt103 i = vt2 i := h111
            replace h112 : If (fa91 = 0) (TyS B dc fd md nd ty100 mn101 nc99 k9 rs c46 (sc, il, ev) ∧ sc92 = (aft B c46 (sc, il, ev)).1 ∧ ∀ i : Nat, i < sc92 → vt103 i = (aft B c46 (sc, il, ev)).2.2 i ∧ tyOK dc (vt103 i)) := h112
            obtain rfl : v90 = none := hw89
            have hP : va_P G.1 pCl (mW G h0 a (upd (upd (upd (upd (upd (upd (upd (upd (upd (upd (upd (upd (upd F 15 (nI fa91)) 16 pl93) 44 (nI fd)) 49 (nI md)) 73 (nI sc92)) 74 (nI k9)) 75 (nI rs)) 76 (nI il)) 77 dn94) 78 wt95) 79 wf96) 80 ab97) 81 ac98) (updA (updA (updA (updA (updA B 14 nc99) 17 ty100) 18 mn101) 48 vn102) 49 vt103)) _ := mW_to (F := F) (l1 := [(15, (nI fa2)), (16, pl2), (44, (nI fd)), (49, (nI md)), (73, (nI sc)), (74, (nI k9)), (75, (nI rs)), (76, (nI il)), (77, dn), (78, wt2), (79, wf2), (80, ab2), (81, ac2), (15, (nI fa91)), (16, pl93), (44, (nI fd)), (49, (nI md)), (73, (nI sc92)), (74, (nI k9)), (75, (nI rs)), (76, (nI il)), (77, dn94), (78, wt95), (79, wf96), (80, ab97), (81, ac98)]) (l2 := [(15, (nI fa91)), (16, pl93), (44, (nI fd)), (49, (nI md)), (73, (nI sc92)), (74, (nI k9)), (75, (nI rs)), (76, (nI il)), (77, dn94), (78, wt95), (79, wf96), (80, ab97), (81, ac98)]) (V := [(nI fa91), pl93, (nI fd), (nI md), (nI sc92), (nI k9), (nI rs), (nI il), dn94, wt95, wf96, ab97, ac98, (nI fa91), pl93, (nI fd), (nI md), (nI sc92), (nI k9), (nI rs), (nI il), dn94, wt95, wf96, ab97, ac98, (nI fa91), pl93, (nI fd), (nI md), (nI sc92), (nI k9), (nI rs), (nI il), dn94, wt95, wf96, ab97, ac98]) rfl rfl rfl hP
            have hD : va_D A (mW G h0 a (upd (upd (upd (upd (upd (upd (upd (upd (upd (upd (upd (upd (upd F 15 (nI fa91)) 16 pl93) 44 (nI fd)) 49 (nI md)) 73 (nI sc92)) 74 (nI k9)) 75 (nI rs)) 76 (nI il)) 77 dn94) 78 wt95) 79 wf96) 80 ab97) 81 ac98) (updA (updA (updA (updA (updA B 14 nc99) 17 ty100) 18 mn101) 48 vn102) 49 vt103)) := mW_D hD
            refine W.widen (k := 0) (n := 0) (Nat.le_of_ble_eq_true rfl) (Nat.le_of_ble_eq_true rfl) ?_
            refine W.eq (g2 := F0 m 150 ls []) rfl ?_
            have hch113 : ChS B nd n9 ty ty100 mn mn101 nc nc99 := (ChS.trans hch2 (ChS.kid h108 (by omega) hp49))
            have hsl114 : If (fa2 = 0) (slP B n9 (sc, il, ev) (fun c e9 => TyS B dc fd md nd ty100 mn101 nc99 k9 rs c e9) 41 1) := (fun e => slP.beside (kk := 41) (s := 1) hF (by omega) hn9 hkd (by decide) (by decide) (by decide) h48 hp49 hg53 (by decide) h108 (hs1 e))
            have hsl115 : If (fa2 = 0) (slP B n9 (sc, il, ev) (fun c e9 => TyS B dc fd md nd ty100 mn101 nc99 k9 rs c e9) 41 2) := (fun e => slP.beside (kk := 41) (s := 2) hF (by omega) hn9 hkd (by decide) (by decide) (by decide) h48 hp49 hg53 (by decide) h108 (hsl45 e))
            have ho116 : mn101 n9 = nI sc := ((ChS.own hF (by omega) hn9 h48 hp49 h108).1.trans hown2)
            have hq8117 : ∀ i : Nat, i < sc → vt103 i = vt i := (fun i h => (h111 i (by omega)).trans (hq82 i h))
            have hvt118 : ∀ i : Nat, i < sc → tyOK dc (vt103 i) := (fun i h => by rw [h111 i h]; exact hvt85 i h)
            have hve119 : ∀ i : Nat, i < sc → vt103 i = ev i := (fun i h => (h111 i h).trans (hve84 i h))
            have hsl120 : If (fa91 = 0) (slP B n9 (sc, il, ev) (fun c e9 => TyS B dc fd md nd ty100 mn101 nc99 k9 rs c e9) 41 3) := (fun e => slP.one (by decide) (by omega) e47 (h112 e).1)
            refine lv_iload_n hx hb dX12_lookTry_150 rfl (lv_at hl 1 rfl) ?_
            refine lv_aload_n hx hb dX12_lookTry_151 rfl (lv_at hl 4 rfl) ?_
            refine r_get (v := .int dn94) hx hb hown hq hE hP 77 544 tFX12_77 (by decide) pw_1796 rfl dX12_lookTry_152 ?_
            refine lv_ior hx hb dX12_lookTry_155 ?_
            refine lv_topi (fun x121 e122 => ?_)
            refine lv_istore_n (lv' := [(3, .int x121), (4, .int (itr (B 16) (B 13 n9) i2)), (2, .int dn), (1, .int (nI n9)), (0, .ref h0)]) hx hb dX12_lookTry_156 rfl hl (by decide) rfl (fun ls hl => ?_)
            refine lv_aload_n hx hb dX12_lookTry_157 rfl (lv_at hl 4 rfl) ?_
            refine lv_iload_n hx hb dX12_lookTry_158 rfl (lv_at hl 0 rfl) ?_
            refine r_put (v := x121) (ty := .int) hx hb hown hq hE hP hD hS 77 544 tFX12_77 (by decide) pw_1796 (by decide) rfl rfl (ms_77 a _ _) dX12_lookTry_159 (fun H locs hP hD hS => ?_)
            have hse123 : If (fa91 = 0) (sc92 = sc) := (fun e => by have z := (h112 e).2.1; rw [aft_no (kcl_no30 (q := 10) (by omega) hc51)] at z; exact z)
            have hz124 : fa ≤ fa91 := (by omega)
            have hz125 : fa91 ≤ 15 := (by omega)
            have hz126 : sc ≤ sc92 := (by omega)
            have hz127 : sc92 ≤ 30 := (by omega)
            have hz128 : ChS B nd n9 ty ty100 mn mn101 nc nc99 := hch113
            have hz129 : mnN B nd mn101 := h109
            have hz130 : ∀ i : Nat, i < nd → ¬ (B) 9 i = 44 → nc99 i = (B) 14 i := h110
            have hz131 : ∀ i : Nat, i < sc → vt103 i = vt i := hq8117
            have hz132 : If (fa91 = 0) (TyS B dc fd md nd ty100 mn101 nc99 k9 rs n9 (sc, il, ev) ∧ sc92 = (aft B n9 (sc, il, ev)).1 ∧ ∀ i : Nat, i < sc92 → vt103 i = (aft B n9 (sc, il, ev)).2.2 i ∧ tyOK dc (vt103 i)) := (fun e => ⟨TyS.of (steps (kk := 41) hkd (by decide) (hsl114 (by omega)) (hsl115 (by omega)) (hsl120 (by omega)) (slP.no (by decide))) (LTX.st hkd (by decide) (by decide) (show LSk B dc ty100 mn101 nc99 rs n9 (sc, il, ev) 41 from ho116)), (by rw [(aft_no (by rw [hkd]; decide))]; exact hse123 (by omega)), (fun i h => by rw [(aft_no (by rw [hkd]; decide))]; have z := hse123 (by omega); exact ⟨hve119 i (by omega), hvt118 i (by omega)⟩)⟩)
            have hP : va_P G.1 pCl (mW G h0 a (upd (upd (upd (upd (upd (upd (upd (upd (upd (upd (upd (upd (upd F 15 (nI fa91)) 16 pl93) 44 (nI fd)) 49 (nI md)) 73 (nI sc92)) 74 (nI k9)) 75 (nI rs)) 76 (nI il)) 77 x121) 78 wt95) 79 wf96) 80 ab97) 81 ac98) (updA (updA (updA (updA (updA B 14 nc99) 17 ty100) 18 mn101) 48 vn102) 49 vt103)) _ := mW_to (F := F) (l1 := [(15, (nI fa91)), (16, pl93), (44, (nI fd)), (49, (nI md)), (73, (nI sc92)), (74, (nI k9)), (75, (nI rs)), (76, (nI il)), (77, dn94), (78, wt95), (79, wf96), (80, ab97), (81, ac98), (77, x121)]) (l2 := [(15, (nI fa91)), (16, pl93), (44, (nI fd)), (49, (nI md)), (73, (nI sc92)), (74, (nI k9)), (75, (nI rs)), (76, (nI il)), (77, x121), (78, wt95), (79, wf96), (80, ab97), (81, ac98)]) (V := [(nI fa91), pl93, (nI fd), (nI md), (nI sc92), (nI k9), (nI rs), (nI il), x121, wt95, wf96, ab97, ac98, x121, (nI fa91), pl93, (nI fd), (nI md), (nI sc92), (nI k9), (nI rs), (nI il), x121, wt95, wf96, ab97, ac98]) rfl rfl rfl hP
            have hD : va_D A (mW G h0 a (upd (upd (upd (upd (upd (upd (upd (upd (upd (upd (upd (upd (upd F 15 (nI fa91)) 16 pl93) 44 (nI fd)) 49 (nI md)) 73 (nI sc92)) 74 (nI k9)) 75 (nI rs)) 76 (nI il)) 77 x121) 78 wt95) 79 wf96) 80 ab97) 81 ac98) (updA (updA (updA (updA (updA B 14 nc99) 17 ty100) 18 mn101) 48 vn102) 49 vt103)) := mW_D hD
            exact W.vret hx hb hr (fun t9 ht9 hW9 => ⟨⟨_, (fa91, sc92, pl93, x121, wt95, wf96, ab97, ac98, nc99, ty100, mn101, vn102, vt103), rfl, ⟨rfl, hz124, hz125, hz126, hz127, hz128, hz129, hz130, hz131, hz132⟩, by rw [ht9]; exact hP, hD⟩, hS.F ht9⟩) hS.2.2 dX12_lookTry_162
      · obtain ⟨c133, e134, h135, h136⟩ := (itr_ln hF.lnr hv13 (by omega) i2).resolve_left c44
        obtain ⟨h137, hg138, h139, hp140, ek141⟩ := lst_ct hF (by omega) hn9 hkd (by omega) e134
        rw [e134] at hl
        refine lv_aload_n hx hb dX12_lookTry_44 rfl (lv_at hl 4 rfl) ?_
        refine r_get (v := .int (nI fa2)) hx hb hown hq hE hP 15 350 tFX12_15 (by decide) pw_1594 rfl dX12_lookTry_45 ?_
        refine lv_if_ne (tgt := 118) hx hb dX12_lookTry_48 (by decide) (fun c142 => ?_) (fun c142 => ?_)
        · have n143 : ¬ (fa2 = 0) := fun h9 => c142 ((nI_eq (a := fa2) (b := 0) (by omega) (by omega)).mpr h9)
          refine lv_aload_n hx hb dX12_lookTry_118 rfl (lv_at hl 4 rfl) ?_
          refine r_get (v := .ref (a 14)) hx hb hown hq hE hP 22 53 tFX12_22 (by decide) pw_1444 rfl dX12_lookTry_119 ?_
          refine lv_iload_n hx hb dX12_lookTry_122 rfl (lv_at hl 3 rfl) ?_
          refine r_ldi (f := nc2) (j := n9) hx hb hE hP 14 (ma_14 G a _) rfl (by omega) (by decide) dX12_lookTry_123 ?_
          rcases Fs2.kidO (kk := 41) (s := 3) hF hn9 hkd (by decide) (by decide) (by decide) (by decide) (by omega) with e152 | ⟨c144, e145, h146, hp147, h148, hc149, hh150, hg151⟩
          · refine lv_topi (fun x153 e154 => ?_)
            obtain rfl : x153 = (-1) := e154.trans ((hnc2 n9 hn9 (by rw [hkd]; decide)).trans e152)
            refine lv_iconst (v := (-1)) hx hb dX12_lookTry_124 (by decide) ?_
            refine lv_icmp_eq (tgt := 157) hx hb dX12_lookTry_125 (by decide) (fun c155 => ?_) (fun c155 => absurd c155 (by decide))
            refine lv_aload_n hx hb dX12_lookTry_157 rfl (lv_at hl 4 rfl) ?_
            refine lv_iload_n hx hb dX12_lookTry_158 rfl (lv_at hl 1 rfl) ?_
            refine r_put (v := all2) (ty := .int) hx hb hown hq hE hP hD hS 77 544 tFX12_77 (by decide) pw_1796 (by decide) rfl rfl (ms_77 a _ _) dX12_lookTry_159 (fun H locs hP hD hS => ?_)
            have hz156 : fa ≤ fa2 := (by omega)
            have hz157 : fa2 ≤ 15 := (by omega)
            have hz158 : sc ≤ sc2 := (by omega)
            have hz159 : sc2 ≤ 30 := (by omega)
            have hz160 : ChS B nd n9 ty ty2 mn mn2 nc nc2 := hch2
            have hz161 : mnN B nd mn2 := hmn2
            have hz162 : ∀ i : Nat, i < nd → ¬ (B) 9 i = 44 → nc2 i = (B) 14 i := hnc2
            have hz163 : ∀ i : Nat, i < sc → vt2 i = vt i := hq82
            have hz164 : If (fa2 = 0) (TyS B dc fd md nd ty2 mn2 nc2 k9 rs n9 (sc, il, ev) ∧ sc2 = (aft B n9 (sc, il, ev)).1 ∧ ∀ i : Nat, i < sc2 → vt2 i = (aft B n9 (sc, il, ev)).2.2 i ∧ tyOK dc (vt2 i)) := (fun e => absurd e (by omega))
            have hP : va_P G.1 pCl (mW G h0 a (upd (upd (upd (upd (upd (upd (upd (upd (upd (upd (upd (upd (upd F 15 (nI fa2)) 16 pl2) 44 (nI fd)) 49 (nI md)) 73 (nI sc2)) 74 (nI k9)) 75 (nI rs)) 76 (nI il)) 77 all2) 78 wt2) 79 wf2) 80 ab2) 81 ac2) (updA (updA (updA (updA (updA B 14 nc2) 17 ty2) 18 mn2) 48 vn2) 49 vt2)) _ := mW_to (F := F) (l1 := [(15, (nI fa2)), (16, pl2), (44, (nI fd)), (49, (nI md)), (73, (nI sc2)), (74, (nI k9)), (75, (nI rs)), (76, (nI il)), (77, dn2), (78, wt2), (79, wf2), (80, ab2), (81, ac2), (77, all2)]) (l2 := [(15, (nI fa2)), (16, pl2), (44, (nI fd)), (49, (nI md)), (73, (nI sc2)), (74, (nI k9)), (75, (nI rs)), (76, (nI il)), (77, all2), (78, wt2), (79, wf2), (80, ab2), (81, ac2)]) (V := [(nI fa2), pl2, (nI fd), (nI md), (nI sc2), (nI k9), (nI rs), (nI il), all2, wt2, wf2, ab2, ac2, all2, (nI fa2), pl2, (nI fd), (nI md), (nI sc2), (nI k9), (nI rs), (nI il), all2, wt2, wf2, ab2, ac2]) rfl rfl rfl hP
            have hD : va_D A (mW G h0 a (upd (upd (upd (upd (upd (upd (upd (upd (upd (upd (upd (upd (upd F 15 (nI fa2)) 16 pl2) 44 (nI fd)) 49 (nI md)) 73 (nI sc2)) 74 (nI k9)) 75 (nI rs)) 76 (nI il)) 77 all2) 78 wt2) 79 wf2) 80 ab2) 81 ac2) (updA (updA (updA (updA (updA B 14 nc2) 17 ty2) 18 mn2) 48 vn2) 49 vt2)) := mW_D hD
            exact W.vret hx hb hr (fun t9 ht9 hW9 => ⟨⟨_, (fa2, sc2, pl2, all2, wt2, wf2, ab2, ac2, nc2, ty2, mn2, vn2, vt2), rfl, ⟨rfl, hz156, hz157, hz158, hz159, hz160, hz161, hz162, hz163, hz164⟩, by rw [ht9]; exact hP, hD⟩, hS.F ht9⟩) hS.2.2 dX12_lookTry_162
          · refine lv_topi (fun x165 e166 => ?_)
            obtain rfl : x165 = nI c144 := e166.trans ((hnc2 n9 hn9 (by rw [hkd]; decide)).trans e145)
            refine lv_iconst (v := (-1)) hx hb dX12_lookTry_124 (by decide) ?_
            refine lv_icmp_eq (tgt := 157) hx hb dX12_lookTry_125 (by decide) (fun c167 => absurd c167 (nI_m1 (by omega))) (fun c167 => ?_)
            refine lv_aload_n hx hb dX12_lookTry_128 rfl (lv_at hl 4 rfl) ?_
            refine r_get (v := .int (nI fa2)) hx hb hown hq hE hP 15 350 tFX12_15 (by decide) pw_1594 rfl dX12_lookTry_129 ?_
            refine lv_if_ne (tgt := 157) hx hb dX12_lookTry_132 (by decide) (fun c168 => ?_) (fun c168 => ?_)
            · have n169 : ¬ (fa2 = 0) := fun h9 => c168 ((nI_eq (a := fa2) (b := 0) (by omega) (by omega)).mpr h9)
              refine lv_aload_n hx hb dX12_lookTry_157 rfl (lv_at hl 4 rfl) ?_
              refine lv_iload_n hx hb dX12_lookTry_158 rfl (lv_at hl 1 rfl) ?_
              refine r_put (v := all2) (ty := .int) hx hb hown hq hE hP hD hS 77 544 tFX12_77 (by decide) pw_1796 (by decide) rfl rfl (ms_77 a _ _) dX12_lookTry_159 (fun H locs hP hD hS => ?_)
              have hz170 : fa ≤ fa2 := (by omega)
              have hz171 : fa2 ≤ 15 := (by omega)
              have hz172 : sc ≤ sc2 := (by omega)
              have hz173 : sc2 ≤ 30 := (by omega)
              have hz174 : ChS B nd n9 ty ty2 mn mn2 nc nc2 := hch2
              have hz175 : mnN B nd mn2 := hmn2
              have hz176 : ∀ i : Nat, i < nd → ¬ (B) 9 i = 44 → nc2 i = (B) 14 i := hnc2
              have hz177 : ∀ i : Nat, i < sc → vt2 i = vt i := hq82
              have hz178 : If (fa2 = 0) (TyS B dc fd md nd ty2 mn2 nc2 k9 rs n9 (sc, il, ev) ∧ sc2 = (aft B n9 (sc, il, ev)).1 ∧ ∀ i : Nat, i < sc2 → vt2 i = (aft B n9 (sc, il, ev)).2.2 i ∧ tyOK dc (vt2 i)) := (fun e => absurd e (by omega))
              have hP : va_P G.1 pCl (mW G h0 a (upd (upd (upd (upd (upd (upd (upd (upd (upd (upd (upd (upd (upd F 15 (nI fa2)) 16 pl2) 44 (nI fd)) 49 (nI md)) 73 (nI sc2)) 74 (nI k9)) 75 (nI rs)) 76 (nI il)) 77 all2) 78 wt2) 79 wf2) 80 ab2) 81 ac2) (updA (updA (updA (updA (updA B 14 nc2) 17 ty2) 18 mn2) 48 vn2) 49 vt2)) _ := mW_to (F := F) (l1 := [(15, (nI fa2)), (16, pl2), (44, (nI fd)), (49, (nI md)), (73, (nI sc2)), (74, (nI k9)), (75, (nI rs)), (76, (nI il)), (77, dn2), (78, wt2), (79, wf2), (80, ab2), (81, ac2), (77, all2)]) (l2 := [(15, (nI fa2)), (16, pl2), (44, (nI fd)), (49, (nI md)), (73, (nI sc2)), (74, (nI k9)), (75, (nI rs)), (76, (nI il)), (77, all2), (78, wt2), (79, wf2), (80, ab2), (81, ac2)]) (V := [(nI fa2), pl2, (nI fd), (nI md), (nI sc2), (nI k9), (nI rs), (nI il), all2, wt2, wf2, ab2, ac2, all2, (nI fa2), pl2, (nI fd), (nI md), (nI sc2), (nI k9), (nI rs), (nI il), all2, wt2, wf2, ab2, ac2]) rfl rfl rfl hP
              have hD : va_D A (mW G h0 a (upd (upd (upd (upd (upd (upd (upd (upd (upd (upd (upd (upd (upd F 15 (nI fa2)) 16 pl2) 44 (nI fd)) 49 (nI md)) 73 (nI sc2)) 74 (nI k9)) 75 (nI rs)) 76 (nI il)) 77 all2) 78 wt2) 79 wf2) 80 ab2) 81 ac2) (updA (updA (updA (updA (updA B 14 nc2) 17 ty2) 18 mn2) 48 vn2) 49 vt2)) := mW_D hD
              exact W.vret hx hb hr (fun t9 ht9 hW9 => ⟨⟨_, (fa2, sc2, pl2, all2, wt2, wf2, ab2, ac2, nc2, ty2, mn2, vn2, vt2), rfl, ⟨rfl, hz170, hz171, hz172, hz173, hz174, hz175, hz176, hz177, hz178⟩, by rw [ht9]; exact hP, hD⟩, hS.F ht9⟩) hS.2.2 dX12_lookTry_162
            · have n179 : fa2 = 0 := (nI_eq (a := fa2) (b := 0) (by omega) (by omega)).mp c168
              obtain rfl : sc = sc2 := (hscq (by omega)).symm
              have hP : va_P G.1 pCl (mW G h0 a (upd (upd (upd (upd (upd (upd (upd (upd (upd (upd (upd (upd (upd F 15 (nI fa2)) 16 pl2) 44 (nI fd)) 49 (nI md)) 73 (nI sc)) 74 (nI k9)) 75 (nI rs)) 76 (nI il)) 77 dn2) 78 wt2) 79 wf2) 80 ab2) 81 ac2) (updA (updA (updA (updA (updA B 14 nc2) 17 ty2) 18 mn2) 48 vn2) 49 vt2)) _ := hP
              have hD : va_D A (mW G h0 a (upd (upd (upd (upd (upd (upd (upd (upd (upd (upd (upd (upd (upd F 15 (nI fa2)) 16 pl2) 44 (nI fd)) 49 (nI md)) 73 (nI sc)) 74 (nI k9)) 75 (nI rs)) 76 (nI il)) 77 dn2) 78 wt2) 79 wf2) 80 ab2) 81 ac2) (updA (updA (updA (updA (updA B 14 nc2) 17 ty2) 18 mn2) 48 vn2) 49 vt2)) := mW_D hD
              have hve180 : ∀ i : Nat, i < sc → vt2 i = ev i := (fun i h => (hq82 i h).trans (hve i h))
              have hvt181 : ∀ i : Nat, i < sc → tyOK dc (vt2 i) := (fun i h => by rw [hq82 i h]; exact hvt i h)
              refine lv_aload_n hx hb dX12_lookTry_135 rfl (lv_at hl 4 rfl) ?_
              refine lv_iload_n hx hb dX12_lookTry_136 rfl (lv_at hl 2 rfl) ?_
              refine r_put (v := dn) (ty := .int) hx hb hown hq hE hP hD hS 77 544 tFX12_77 (by decide) pw_1796 (by decide) rfl rfl (ms_77 a _ _) dX12_lookTry_137 (fun H locs hP hD hS => ?_)
              refine lv_aload_n hx hb dX12_lookTry_140 rfl (lv_at hl 4 rfl) ?_
              refine lv_aload_n hx hb dX12_lookTry_141 rfl (lv_at hl 4 rfl) ?_
              refine r_get (v := .ref (a 14)) hx hb hown hq hE hP 22 53 tFX12_22 (by decide) pw_1444 rfl dX12_lookTry_142 ?_
              refine lv_iload_n hx hb dX12_lookTry_145 rfl (lv_at hl 3 rfl) ?_
              refine r_ldi (f := nc2) (j := n9) hx hb hE hP 14 (ma_14 G a _) rfl (by omega) (by decide) dX12_lookTry_146 ?_
              refine lv_topi (fun x182 e183 => ?_)
              obtain rfl : x182 = nI c144 := e183.trans ((hnc2 n9 hn9 (by rw [hkd]; decide)).trans e145)
              have hP : va_P G.1 pCl (mW G h0 a (upd (upd (upd (upd (upd (upd (upd (upd (upd (upd (upd (upd (upd (upd (upd (upd (upd (upd (upd (upd (upd (upd (upd (upd (upd F 15 (nI fa2)) 16 pl2) 44 (nI fd)) 49 (nI md)) 73 (nI sc)) 74 (nI k9)) 75 (nI rs)) 76 (nI il)) 77 dn) 78 wt2) 79 wf2) 80 ab2) 81 ac2) 15 (nI fa2)) 44 (nI fd)) 49 (nI md)) 73 (nI sc)) 74 (nI k9)) 75 (nI rs)) 76 (nI il)) 77 dn) 78 wt2) 79 wf2) 80 ab2) 81 ac2) (updA (updA (updA (updA (updA B 14 nc2) 17 ty2) 18 mn2) 48 vn2) 49 vt2)) _ := mW_to (F := F) (l1 := [(15, (nI fa2)), (16, pl2), (44, (nI fd)), (49, (nI md)), (73, (nI sc)), (74, (nI k9)), (75, (nI rs)), (76, (nI il)), (77, dn2), (78, wt2), (79, wf2), (80, ab2), (81, ac2), (77, dn)]) (l2 := [(15, (nI fa2)), (16, pl2), (44, (nI fd)), (49, (nI md)), (73, (nI sc)), (74, (nI k9)), (75, (nI rs)), (76, (nI il)), (77, dn), (78, wt2), (79, wf2), (80, ab2), (81, ac2), (15, (nI fa2)), (44, (nI fd)), (49, (nI md)), (73, (nI sc)), (74, (nI k9)), (75, (nI rs)), (76, (nI il)), (77, dn), (78, wt2), (79, wf2), (80, ab2), (81, ac2)]) (V := [(nI fa2), pl2, (nI fd), (nI md), (nI sc), (nI k9), (nI rs), (nI il), dn, wt2, wf2, ab2, ac2, dn, (nI fa2), pl2, (nI fd), (nI md), (nI sc), (nI k9), (nI rs), (nI il), dn, wt2, wf2, ab2, ac2, (nI fa2), (nI fd), (nI md), (nI sc), (nI k9), (nI rs), (nI il), dn, wt2, wf2, ab2, ac2]) rfl rfl rfl hP
              have hD : va_D A (mW G h0 a (upd (upd (upd (upd (upd (upd (upd (upd (upd (upd (upd (upd (upd (upd (upd (upd (upd (upd (upd (upd (upd (upd (upd (upd (upd F 15 (nI fa2)) 16 pl2) 44 (nI fd)) 49 (nI md)) 73 (nI sc)) 74 (nI k9)) 75 (nI rs)) 76 (nI il)) 77 dn) 78 wt2) 79 wf2) 80 ab2) 81 ac2) 15 (nI fa2)) 44 (nI fd)) 49 (nI md)) 73 (nI sc)) 74 (nI k9)) 75 (nI rs)) 76 (nI il)) 77 dn) 78 wt2) 79 wf2) 80 ab2) 81 ac2) (updA (updA (updA (updA (updA B 14 nc2) 17 ty2) 18 mn2) 48 vn2) 49 vt2)) := mW_D hD
              refine pc_V0 (G := G) (As := [.int (nI c144)]) (rest := []) hx hb hml hown hq hE hX pX0_al hP hD hS hA hl.1 (ihS h0 a (upd (upd (upd (upd (upd (upd (upd (upd (upd (upd (upd (upd (upd F 15 (nI fa2)) 16 pl2) 44 (nI fd)) 49 (nI md)) 73 (nI sc)) 74 (nI k9)) 75 (nI rs)) 76 (nI il)) 77 dn) 78 wt2) 79 wf2) 80 ab2) 81 ac2) B c144 fa2 sc il k9 rs nd T nm wr lz dc fd md pr bk gh dn wt2 wf2 ab2 ac2 nc2 ty2 mn2 vn2 vt2 ev hst hnm h146 (by omega) (by omega) (by omega) hk9 hnc2 hmn2 (by omega) hrs (by omega) (hmcC c144 h146 hp147 hg151) hvt181 hve180 (kcl_3_7 (kcl_10_3 hc149))) (gV pw_1874 pw_1875 pw_1876 pw_1523 pw_1884) hV_X12_lookStatement 0 9 rfl rfl rfl rfl (Nat.le_of_ble_eq_true rfl) dX12_lookTry_147 ⟨Nat.le_of_ble_eq_true rfl, Nat.le_of_ble_eq_true rfl⟩ ⟨(by show (4 * (z9 - 1) + 14) + 1 ≤ (4 * z9 + 13); omega), (by show 8 + (4 + 11) + (160 * (z9 - 1) + 1700) ≤ (160 * z9 + 1660); omega)⟩ (fun v186 u184 H locs hw185 hP hD hS => ?_)
              obtain ⟨fa187, sc188, pl189, dn190, wt191, wf192, ab193, ac194, nc195, ty196, mn197, vn198, vt199⟩ := u184
              obtain ⟨hw185, h200, h201, h202, h203, h204, h205, h206, h207, h208⟩ := hw185
              replace h200 : fa2 ≤ fa187 := h200
              replace h201 : fa187 ≤ 15 := h201
              replace h202 : sc ≤ sc188 := h202
              replace h203 : sc188 ≤ 30 := h203
              replace h204 : ChS B nd c144 ty2 ty196 mn2 mn197 nc2 nc195 := h204
              replace h205 : mnN B nd mn197 := h205
              replace h206 : ∀ i : Nat, i < nd → ¬ (B) 9 i = 44 → nc195 i = (B) 14 i := h206
              replace h207 : ∀ i : Nat, i < sc → vt199 i = vt2 i := h207
              replace h208 : If (fa187 = 0) (TyS B dc fd md nd ty196 mn197 nc195 k9 rs c144 (sc, il, ev) ∧ sc188 = (aft B c144 (sc, il, ev)).1 ∧ ∀ i : Nat, i < sc188 → vt199 i = (aft B c144 (sc, il, ev)).2.2 i ∧ tyOK dc (vt199 i)) := h208
              obtain rfl : v186 = none := hw185
              have hP : va_P G.1 pCl (mW G h0 a (upd (upd (upd (upd (upd (upd (upd (upd (upd (upd (upd (upd (upd F 15 (nI fa187)) 16 pl189) 44 (nI fd)) 49 (nI md)) 73 (nI sc188)) 74 (nI k9)) 75 (nI rs)) 76 (nI il)) 77 dn190) 78 wt191) 79 wf192) 80 ab193) 81 ac194) (updA (updA (updA (updA (updA B 14 nc195) 17 ty196) 18 mn197) 48 vn198) 49 vt199)) _ := mW_to (F := F) (l1 := [(15, (nI fa2)), (16, pl2), (44, (nI fd)), (49, (nI md)), (73, (nI sc)), (74, (nI k9)), (75, (nI rs)), (76, (nI il)), (77, dn), (78, wt2), (79, wf2), (80, ab2), (81, ac2), (15, (nI fa187)), (16, pl189), (44, (nI fd)), (49, (nI md)), (73, (nI sc188)), (74, (nI k9)), (75, (nI rs)), (76, (nI il)), (77, dn190), (78, wt191), (79, wf192), (80, ab193), (81, ac194)]) (l2 := [(15, (nI fa187)), (16, pl189), (44, (nI fd)), (49, (nI md)), (73, (nI sc188)), (74, (nI k9)), (75, (nI rs)), (76, (nI il)), (77, dn190), (78, wt191), (79, wf192), (80, ab193), (81, ac194)]) (V := [(nI fa187), pl189, (nI fd), (nI md), (nI sc188), (nI k9), (nI rs), (nI il), dn190, wt191, wf192, ab193, ac194, (nI fa187), pl189, (nI fd), (nI md), (nI sc188), (nI k9), (nI rs), (nI il), dn190, wt191, wf192, ab193, ac194, (nI fa187), pl189, (nI fd), (nI md), (nI sc188), (nI k9), (nI rs), (nI il), dn190, wt191, wf192, ab193, ac194]) rfl rfl rfl hP
              have hD : va_D A (mW G h0 a (upd (upd (upd (upd (upd (upd (upd (upd (upd (upd (upd (upd (upd F 15 (nI fa187)) 16 pl189) 44 (nI fd)) 49 (nI md)) 73 (nI sc188)) 74 (nI k9)) 75 (nI rs)) 76 (nI il)) 77 dn190) 78 wt191) 79 wf192) 80 ab193) 81 ac194) (updA (updA (updA (updA (updA B 14 nc195) 17 ty196) 18 mn197) 48 vn198) 49 vt199)) := mW_D hD
              refine W.widen (k := 0) (n := 0) (Nat.le_of_ble_eq_true rfl) (Nat.le_of_ble_eq_true rfl) ?_
              refine W.eq (g2 := F0 m 150 ls []) rfl ?_
              have hch209 : ChS B nd n9 ty ty196 mn mn197 nc nc195 := (ChS.trans hch2 (ChS.kid h204 (by omega) hp147))
              have hsl210 : If (fa2 = 0) (slP B n9 (sc, il, ev) (fun c e9 => TyS B dc fd md nd ty196 mn197 nc195 k9 rs c e9) 41 1) := (fun e => slP.beside (kk := 41) (s := 1) hF (by omega) hn9 hkd (by decide) (by decide) (by decide) h146 hp147 hg151 (by decide) h204 (hs1 e))
              have ho211 : mn197 n9 = nI sc := ((ChS.own hF (by omega) hn9 h146 hp147 h204).1.trans hown2)
              have hq8212 : ∀ i : Nat, i < sc → vt199 i = vt i := (fun i h => (h207 i (by omega)).trans (hq82 i h))
              have hvt213 : ∀ i : Nat, i < sc → tyOK dc (vt199 i) := (fun i h => by rw [h207 i h]; exact hvt181 i h)
              have hve214 : ∀ i : Nat, i < sc → vt199 i = ev i := (fun i h => (h207 i h).trans (hve180 i h))
              have hsl215 : If (fa187 = 0) (slP B n9 (sc, il, ev) (fun c e9 => TyS B dc fd md nd ty196 mn197 nc195 k9 rs c e9) 41 3) := (fun e => slP.one (by decide) (by omega) e145 (h208 e).1)
              refine lv_iload_n hx hb dX12_lookTry_150 rfl (lv_at hl 1 rfl) ?_
              refine lv_aload_n hx hb dX12_lookTry_151 rfl (lv_at hl 4 rfl) ?_
              refine r_get (v := .int dn190) hx hb hown hq hE hP 77 544 tFX12_77 (by decide) pw_1796 rfl dX12_lookTry_152 ?_
              refine lv_ior hx hb dX12_lookTry_155 ?_
              refine lv_topi (fun x216 e217 => ?_)
              refine lv_istore_n (lv' := [(3, .int x216), (4, .int (nI c133)), (2, .int dn), (1, .int (nI n9)), (0, .ref h0)]) hx hb dX12_lookTry_156 rfl hl (by decide) rfl (fun ls hl => ?_)
              refine lv_aload_n hx hb dX12_lookTry_157 rfl (lv_at hl 4 rfl) ?_
              refine lv_iload_n hx hb dX12_lookTry_158 rfl (lv_at hl 0 rfl) ?_
              refine r_put (v := x216) (ty := .int) hx hb hown hq hE hP hD hS 77 544 tFX12_77 (by decide) pw_1796 (by decide) rfl rfl (ms_77 a _ _) dX12_lookTry_159 (fun H locs hP hD hS => ?_)
              have hz218 : fa ≤ fa187 := (by omega)
              have hz219 : fa187 ≤ 15 := (by omega)
              have hz220 : sc ≤ sc188 := (by omega)
              have hz221 : sc188 ≤ 30 := (by omega)
              have hz222 : ChS B nd n9 ty ty196 mn mn197 nc nc195 := hch209
              have hz223 : mnN B nd mn197 := h205
              have hz224 : ∀ i : Nat, i < nd → ¬ (B) 9 i = 44 → nc195 i = (B) 14 i := h206
              have hz225 : ∀ i : Nat, i < sc → vt199 i = vt i := hq8212
              have hz226 : If (fa187 = 0) (TyS B dc fd md nd ty196 mn197 nc195 k9 rs n9 (sc, il, ev) ∧ sc188 = (aft B n9 (sc, il, ev)).1 ∧ ∀ i : Nat, i < sc188 → vt199 i = (aft B n9 (sc, il, ev)).2.2 i ∧ tyOK dc (vt199 i)) := (fun e => absurd e (by omega))
              have hP : va_P G.1 pCl (mW G h0 a (upd (upd (upd (upd (upd (upd (upd (upd (upd (upd (upd (upd (upd F 15 (nI fa187)) 16 pl189) 44 (nI fd)) 49 (nI md)) 73 (nI sc188)) 74 (nI k9)) 75 (nI rs)) 76 (nI il)) 77 x216) 78 wt191) 79 wf192) 80 ab193) 81 ac194) (updA (updA (updA (updA (updA B 14 nc195) 17 ty196) 18 mn197) 48 vn198) 49 vt199)) _ := mW_to (F := F) (l1 := [(15, (nI fa187)), (16, pl189), (44, (nI fd)), (49, (nI md)), (73, (nI sc188)), (74, (nI k9)), (75, (nI rs)), (76, (nI il)), (77, dn190), (78, wt191), (79, wf192), (80, ab193), (81, ac194), (77, x216)]) (l2 := [(15, (nI fa187)), (16, pl189), (44, (nI fd)), (49, (nI md)), (73, (nI sc188)), (74, (nI k9)), (75, (nI rs)), (76, (nI il)), (77, x216), (78, wt191), (79, wf192), (80, ab193), (81, ac194)]) (V := [(nI fa187), pl189, (nI fd), (nI md), (nI sc188), (nI k9), (nI rs), (nI il), x216, wt191, wf192, ab193, ac194, x216, (nI fa187), pl189, (nI fd), (nI md), (nI sc188), (nI k9), (nI rs), (nI il), x216, wt191, wf192, ab193, ac194]) rfl rfl rfl hP
              have hD : va_D A (mW G h0 a (upd (upd (upd (upd (upd (upd (upd (upd (upd (upd (upd (upd (upd F 15 (nI fa187)) 16 pl189) 44 (nI fd)) 49 (nI md)) 73 (nI sc188)) 74 (nI k9)) 75 (nI rs)) 76 (nI il)) 77 x216) 78 wt191) 79 wf192) 80 ab193) 81 ac194) (updA (updA (updA (updA (updA B 14 nc195) 17 ty196) 18 mn197) 48 vn198) 49 vt199)) := mW_D hD
              exact W.vret hx hb hr (fun t9 ht9 hW9 => ⟨⟨_, (fa187, sc188, pl189, x216, wt191, wf192, ab193, ac194, nc195, ty196, mn197, vn198, vt199), rfl, ⟨rfl, hz218, hz219, hz220, hz221, hz222, hz223, hz224, hz225, hz226⟩, by rw [ht9]; exact hP, hD⟩, hS.F ht9⟩) hS.2.2 dX12_lookTry_162
        · have n227 : fa2 = 0 := (nI_eq (a := fa2) (b := 0) (by omega) (by omega)).mp c142
          obtain rfl : sc = sc2 := (hscq (by omega)).symm
          have hP : va_P G.1 pCl (mW G h0 a (upd (upd (upd (upd (upd (upd (upd (upd (upd (upd (upd (upd (upd F 15 (nI fa2)) 16 pl2) 44 (nI fd)) 49 (nI md)) 73 (nI sc)) 74 (nI k9)) 75 (nI rs)) 76 (nI il)) 77 dn2) 78 wt2) 79 wf2) 80 ab2) 81 ac2) (updA (updA (updA (updA (updA B 14 nc2) 17 ty2) 18 mn2) 48 vn2) 49 vt2)) _ := hP
          have hD : va_D A (mW G h0 a (upd (upd (upd (upd (upd (upd (upd (upd (upd (upd (upd (upd (upd F 15 (nI fa2)) 16 pl2) 44 (nI fd)) 49 (nI md)) 73 (nI sc)) 74 (nI k9)) 75 (nI rs)) 76 (nI il)) 77 dn2) 78 wt2) 79 wf2) 80 ab2) 81 ac2) (updA (updA (updA (updA (updA B 14 nc2) 17 ty2) 18 mn2) 48 vn2) 49 vt2)) := mW_D hD
          have hve228 : ∀ i : Nat, i < sc → vt2 i = ev i := (fun i h => (hq82 i h).trans (hve i h))
          have hvt229 : ∀ i : Nat, i < sc → tyOK dc (vt2 i) := (fun i h => by rw [hq82 i h]; exact hvt i h)
          refine lv_aload_n hx hb dX12_lookTry_51 rfl (lv_at hl 4 rfl) ?_
          refine r_get (v := .int (nI sc)) hx hb hown hq hE hP 73 537 tFX12_73 (by decide) pw_1795 rfl dX12_lookTry_52 ?_
          refine lv_istore (lv' := [(5, .int (nI sc)), (4, .int (nI c133)), (3, .int all2), (2, .int dn), (1, .int (nI n9)), (0, .ref h0)]) hx hb dX12_lookTry_55 hl (by decide) rfl (fun ls hl => ?_)
          refine lv_aload_n hx hb dX12_lookTry_57 rfl (lv_at hl 5 rfl) ?_
          refine lv_iload_n hx hb dX12_lookTry_58 rfl (lv_at hl 3 rfl) ?_
          refine r_put (v := dn) (ty := .int) hx hb hown hq hE hP hD hS 77 544 tFX12_77 (by decide) pw_1796 (by decide) rfl rfl (ms_77 a _ _) dX12_lookTry_59 (fun H locs hP hD hS => ?_)
          refine lv_aload_n hx hb dX12_lookTry_62 rfl (lv_at hl 5 rfl) ?_
          refine r_get (v := .ref (a 18)) hx hb hown hq hE hP 26 65 tFX12_26 (by decide) pw_1448 rfl dX12_lookTry_63 ?_
          refine lv_iload hx hb dX12_lookTry_66 (lv_at hl 1 rfl) ?_
          refine lv_aload_n hx hb dX12_lookTry_68 rfl (lv_at hl 5 rfl) ?_
          refine lv_iload hx hb dX12_lookTry_69 (lv_at hl 1 rfl) ?_
          obtain ⟨d230, e231, h232, h233⟩ := hNW c133 h137 (Or.inr ek141)
          obtain ⟨-, ⟨t234, e235, h236, -⟩, -⟩ := hF c133 h137
          have hP : va_P G.1 pCl (mW G h0 a (upd (upd (upd (upd (upd (upd (upd (upd (upd (upd (upd (upd (upd (upd (upd (upd F 15 (nI fa2)) 16 pl2) 44 (nI fd)) 49 (nI md)) 73 (nI sc)) 74 (nI k9)) 75 (nI rs)) 76 (nI il)) 77 dn) 78 wt2) 79 wf2) 80 ab2) 81 ac2) 15 (nI fa2)) 73 (nI sc)) 77 dn) (updA (updA (updA (updA (updA (updA (updA (updA B 14 nc2) 17 ty2) 18 mn2) 48 vn2) 49 vt2) 14 nc2) 18 mn2) 49 vt2)) _ := mW_to (F := F) (l1 := [(15, (nI fa2)), (16, pl2), (44, (nI fd)), (49, (nI md)), (73, (nI sc)), (74, (nI k9)), (75, (nI rs)), (76, (nI il)), (77, dn2), (78, wt2), (79, wf2), (80, ab2), (81, ac2), (77, dn)]) (l2 := [(15, (nI fa2)), (16, pl2), (44, (nI fd)), (49, (nI md)), (73, (nI sc)), (74, (nI k9)), (75, (nI rs)), (76, (nI il)), (77, dn), (78, wt2), (79, wf2), (80, ab2), (81, ac2), (15, (nI fa2)), (73, (nI sc)), (77, dn)]) (V := [(nI fa2), pl2, (nI fd), (nI md), (nI sc), (nI k9), (nI rs), (nI il), dn, wt2, wf2, ab2, ac2, dn, (nI fa2), pl2, (nI fd), (nI md), (nI sc), (nI k9), (nI rs), (nI il), dn, wt2, wf2, ab2, ac2, (nI fa2), (nI sc), dn]) rfl rfl (show (updA (updA (updA (updA (updA B 14 nc2) 17 ty2) 18 mn2) 48 vn2) 49 vt2) = (updA (updA (updA (updA (updA (updA (updA (updA B 14 nc2) 17 ty2) 18 mn2) 48 vn2) 49 vt2) 14 nc2) 18 mn2) 49 vt2) from updsA_eq2 (F := B) (l1 := [(14, nc2), (17, ty2), (18, mn2), (48, vn2), (49, vt2)]) (l2 := [(14, nc2), (17, ty2), (18, mn2), (48, vn2), (49, vt2), (14, nc2), (18, mn2), (49, vt2)]) (V := [nc2, ty2, mn2, vn2, vt2, nc2, ty2, mn2, vn2, vt2, nc2, mn2, vt2]) rfl rfl) hP
          have hD : va_D A (mW G h0 a (upd (upd (upd (upd (upd (upd (upd (upd (upd (upd (upd (upd (upd (upd (upd (upd F 15 (nI fa2)) 16 pl2) 44 (nI fd)) 49 (nI md)) 73 (nI sc)) 74 (nI k9)) 75 (nI rs)) 76 (nI il)) 77 dn) 78 wt2) 79 wf2) 80 ab2) 81 ac2) 15 (nI fa2)) 73 (nI sc)) 77 dn) (updA (updA (updA (updA (updA (updA (updA (updA B 14 nc2) 17 ty2) 18 mn2) 48 vn2) 49 vt2) 14 nc2) 18 mn2) 49 vt2)) := mW_D hD
          refine pc_V0 (G := G) (As := [.int (nI c133)]) (rest := [.int (nI c133), .ref (a 18)]) hx hb hml hown hq hE hX pX0_al hP hD hS hA hl.1 (R_comesAs l G h0 a (upd (upd (upd (upd (upd (upd (upd (upd (upd (upd (upd (upd (upd F 15 (nI fa2)) 16 pl2) 44 (nI fd)) 49 (nI md)) 73 (nI sc)) 74 (nI k9)) 75 (nI rs)) 76 (nI il)) 77 dn) 78 wt2) 79 wf2) 80 ab2) 81 ac2) (updA (updA (updA (updA (updA B 14 nc2) 17 ty2) 18 mn2) 48 vn2) 49 vt2) c133 d230 t234 sc fa2 dn nc2 mn2 vt2 (by omega) ((hmcl i2 c133 (Nat.le_refl _) (by omega) e134 c133 h137 sub.rfl ek141).trans e231) (by omega) e235 (by omega) (by omega) (by omega)) (gV pw_1905 pw_1906 pw_1907 pw_1523 pw_1873) hV_X12_comesAs 0 9 rfl rfl rfl rfl (Nat.le_of_ble_eq_true rfl) dX12_lookTry_71 ⟨Nat.le_of_ble_eq_true rfl, Nat.le_of_ble_eq_true rfl⟩ ⟨(by show 6 + 1 ≤ (4 * z9 + 13); omega), (by show 8 + (2 + 11) + 300 ≤ (160 * z9 + 1660); omega)⟩ (fun v239 u237 H locs hw238 hP hD hS => ?_)
          obtain ⟨r240, fa241, sc242, pl243, dn244, vn245, vt246⟩ := u237
          obtain ⟨hw238, h247, h248, h249, h250, h251, h252, h253⟩ := hw238
          replace h247 : r240 ≤ 30 := h247
          replace h248 : fa2 ≤ fa241 := h248
          replace h249 : fa241 ≤ 15 := h249
          replace h250 : sc ≤ sc242 := h250
          replace h251 : sc242 ≤ 30 := h251
          replace h252 : If (fa241 = 0) (sc242 = sc + 1 ∧ r240 = sc ∧ vt246 = upd vt2 sc (nI (10 + d230)) ∧ sc < 30) := h252
          replace h253 : ∀ i : Nat, i < sc → vt246 i = vt2 i := h253
          obtain rfl : v239 = some (.int (nI r240)) := hw238
          have hP : va_P G.1 pCl (mW G h0 a (upd (upd (upd (upd (upd (upd (upd (upd (upd (upd (upd (upd (upd F 15 (nI fa241)) 16 pl243) 44 (nI fd)) 49 (nI md)) 73 (nI sc242)) 74 (nI k9)) 75 (nI rs)) 76 (nI il)) 77 dn244) 78 wt2) 79 wf2) 80 ab2) 81 ac2) (updA (updA (updA (updA (updA B 14 (upd nc2 c133 (nI d230))) 17 ty2) 18 mn2) 48 vn245) 49 vt246)) _ := mW_to (F := F) (l1 := [(15, (nI fa2)), (16, pl2), (44, (nI fd)), (49, (nI md)), (73, (nI sc)), (74, (nI k9)), (75, (nI rs)), (76, (nI il)), (77, dn), (78, wt2), (79, wf2), (80, ab2), (81, ac2), (15, (nI fa241)), (16, pl243), (73, (nI sc242)), (77, dn244)]) (l2 := [(15, (nI fa241)), (16, pl243), (44, (nI fd)), (49, (nI md)), (73, (nI sc242)), (74, (nI k9)), (75, (nI rs)), (76, (nI il)), (77, dn244), (78, wt2), (79, wf2), (80, ab2), (81, ac2)]) (V := [(nI fa241), pl243, (nI fd), (nI md), (nI sc242), (nI k9), (nI rs), (nI il), dn244, wt2, wf2, ab2, ac2, (nI fa241), pl243, (nI sc242), dn244, (nI fa241), pl243, (nI fd), (nI md), (nI sc242), (nI k9), (nI rs), (nI il), dn244, wt2, wf2, ab2, ac2]) rfl rfl (show (updA (updA (updA (updA (updA (updA (updA (updA (updA B 14 nc2) 17 ty2) 18 mn2) 48 vn2) 49 vt2) 14 (upd nc2 c133 (nI d230))) 18 mn2) 48 vn245) 49 vt246) = (updA (updA (updA (updA (updA B 14 (upd nc2 c133 (nI d230))) 17 ty2) 18 mn2) 48 vn245) 49 vt246) from updsA_eq2 (F := B) (l1 := [(14, nc2), (17, ty2), (18, mn2), (48, vn2), (49, vt2), (14, (upd nc2 c133 (nI d230))), (18, mn2), (48, vn245), (49, vt246)]) (l2 := [(14, (upd nc2 c133 (nI d230))), (17, ty2), (18, mn2), (48, vn245), (49, vt246)]) (V := [(upd nc2 c133 (nI d230)), ty2, mn2, vn245, vt246, (upd nc2 c133 (nI d230)), mn2, vn245, vt246, (upd nc2 c133 (nI d230)), ty2, mn2, vn245, vt246]) rfl rfl) hP
          have hD : va_D A (mW G h0 a (upd (upd (upd (upd (upd (upd (upd (upd (upd (upd (upd (upd (upd F 15 (nI fa241)) 16 pl243) 44 (nI fd)) 49 (nI md)) 73 (nI sc242)) 74 (nI k9)) 75 (nI rs)) 76 (nI il)) 77 dn244) 78 wt2) 79 wf2) 80 ab2) 81 ac2) (updA (updA (updA (updA (updA B 14 (upd nc2 c133 (nI d230))) 17 ty2) 18 mn2) 48 vn245) 49 vt246)) := mW_D hD
          refine W.widen (k := 0) (n := 0) (Nat.le_of_ble_eq_true rfl) (Nat.le_of_ble_eq_true rfl) ?_
          refine W.eq (g2 := F0 m 74 ls [.int (nI r240), .int (nI c133), .ref (a 18)]) rfl ?_
          have hnc254 : ∀ i : Nat, i < nd → ¬ B 9 i = 44 → (upd nc2 c133 (nI d230)) i = B 14 i := (ncK.up hnc2 ek141)
          have hq8255 : ∀ i : Nat, i < sc → vt246 i = vt i := (fun i h => (h253 i h).trans (hq82 i h))
          refine r_sti (f := mn2) (j := c133) hx hb hE hP hD hS 18 (ma_18 G a _) rfl (mas_18 G a _) (by omega) (by decide) dX12_lookTry_74 (fun H locs hP hD hS => ?_)
          have hmn256 : mnN B nd (upd mn2 c133 (nI r240)) := (mnN.up hmn2 (by rw [ek141]; decide))
          refine lv_aload_n hx hb dX12_lookTry_75 rfl (lv_at hl 5 rfl) ?_
          refine r_get (v := .int (nI fa241)) hx hb hown hq hE hP 15 350 tFX12_15 (by decide) pw_1594 rfl dX12_lookTry_76 ?_
          refine lv_if_ne (tgt := 93) hx hb dX12_lookTry_79 (by decide) (fun c257 => ?_) (fun c257 => ?_)
          · have n258 : ¬ (fa241 = 0) := fun h9 => c257 ((nI_eq (a := fa241) (b := 0) (by omega) (by omega)).mpr h9)
            refine lv_aload_n hx hb dX12_lookTry_93 rfl (lv_at hl 5 rfl) ?_
            refine lv_iload hx hb dX12_lookTry_94 (lv_at hl 0 rfl) ?_
            refine r_put (v := (nI sc)) (ty := .int) hx hb hown hq hE hP hD hS 73 537 tFX12_73 (by decide) pw_1795 (by decide) rfl rfl (ms_73 a _ _) dX12_lookTry_96 (fun H locs hP hD hS => ?_)
            refine lv_iload_n hx hb dX12_lookTry_99 rfl (lv_at hl 2 rfl) ?_
            refine lv_aload_n hx hb dX12_lookTry_100 rfl (lv_at hl 5 rfl) ?_
            refine r_get (v := .int dn244) hx hb hown hq hE hP 77 544 tFX12_77 (by decide) pw_1796 rfl dX12_lookTry_101 ?_
            refine lv_iand hx hb dX12_lookTry_104 ?_
            refine lv_topi (fun x259 e260 => ?_)
            refine lv_istore_n (lv' := [(3, .int x259), (5, .int (nI sc)), (4, .int (nI c133)), (2, .int dn), (1, .int (nI n9)), (0, .ref h0)]) hx hb dX12_lookTry_105 rfl hl (by decide) rfl (fun ls hl => ?_)
            refine lv_aload_n hx hb dX12_lookTry_106 rfl (lv_at hl 5 rfl) ?_
            refine r_get (v := .ref (a 16)) hx hb hown hq hE hP 24 59 tFX12_24 (by decide) pw_1446 rfl dX12_lookTry_107 ?_
            refine lv_iload hx hb dX12_lookTry_110 (lv_at hl 2 rfl) ?_
            refine r_ldi (f := (B 16)) (j := c133) hx hb hE hP 16 (ma_16 G a _) rfl (by omega) (by decide) dX12_lookTry_112 ?_
            refine lv_topi (fun x261 e262 => ?_)
            obtain rfl : x261 = itr (B 16) (B 13 n9) (i2 + 1) := e262.trans (itr_s e134 (by omega)).symm
            refine lv_istore (lv' := [(4, .int (itr (B 16) (B 13 n9) (i2 + 1))), (3, .int x259), (5, .int (nI sc)), (2, .int dn), (1, .int (nI n9)), (0, .ref h0)]) hx hb dX12_lookTry_113 hl (by decide) rfl (fun ls hl => ?_)
            refine lv_goto (tgt := 38) hx hb dX12_lookTry_115 (by decide) ?_
            have hcg263 : ChS B nd c133 ty2 ty2 mn2 (upd mn2 c133 (nI r240)) nc2 (upd nc2 c133 (nI d230)) := (ChS.trans (ChS.setC sub.rfl) (ChS.setM sub.rfl))
            have hch264 : ChS B nd n9 ty ty2 mn (upd mn2 c133 (nI r240)) nc (upd nc2 c133 (nI d230)) := (ChS.trans hch2 (ChS.kid hcg263 (by omega) hp140))
            have hP : va_P G.1 pCl (mW G h0 a (upd (upd (upd (upd (upd (upd (upd (upd (upd (upd (upd (upd (upd F 15 (nI fa241)) 16 pl243) 44 (nI fd)) 49 (nI md)) 73 (nI sc)) 74 (nI k9)) 75 (nI rs)) 76 (nI il)) 77 dn244) 78 wt2) 79 wf2) 80 ab2) 81 ac2) (updA (updA (updA (updA (updA B 14 (upd nc2 c133 (nI d230))) 17 ty2) 18 (upd mn2 c133 (nI r240))) 48 vn245) 49 vt246)) _ := mW_to (F := F) (l1 := [(15, (nI fa241)), (16, pl243), (44, (nI fd)), (49, (nI md)), (73, (nI sc242)), (74, (nI k9)), (75, (nI rs)), (76, (nI il)), (77, dn244), (78, wt2), (79, wf2), (80, ab2), (81, ac2), (73, (nI sc))]) (l2 := [(15, (nI fa241)), (16, pl243), (44, (nI fd)), (49, (nI md)), (73, (nI sc)), (74, (nI k9)), (75, (nI rs)), (76, (nI il)), (77, dn244), (78, wt2), (79, wf2), (80, ab2), (81, ac2)]) (V := [(nI fa241), pl243, (nI fd), (nI md), (nI sc), (nI k9), (nI rs), (nI il), dn244, wt2, wf2, ab2, ac2, (nI sc), (nI fa241), pl243, (nI fd), (nI md), (nI sc), (nI k9), (nI rs), (nI il), dn244, wt2, wf2, ab2, ac2]) rfl rfl (show (updA (updA (updA (updA (updA (updA B 14 (upd nc2 c133 (nI d230))) 17 ty2) 18 mn2) 48 vn245) 49 vt246) 18 (upd mn2 c133 (nI r240))) = (updA (updA (updA (updA (updA B 14 (upd nc2 c133 (nI d230))) 17 ty2) 18 (upd mn2 c133 (nI r240))) 48 vn245) 49 vt246) from updsA_eq2 (F := B) (l1 := [(14, (upd nc2 c133 (nI d230))), (17, ty2), (18, mn2), (48, vn245), (49, vt246), (18, (upd mn2 c133 (nI r240)))]) (l2 := [(14, (upd nc2 c133 (nI d230))), (17, ty2), (18, (upd mn2 c133 (nI r240))), (48, vn245), (49, vt246)]) (V := [(upd nc2 c133 (nI d230)), ty2, (upd mn2 c133 (nI r240)), vn245, vt246, (upd mn2 c133 (nI r240)), (upd nc2 c133 (nI d230)), ty2, (upd mn2 c133 (nI r240)), vn245, vt246]) rfl rfl) hP
            have hD : va_D A (mW G h0 a (upd (upd (upd (upd (upd (upd (upd (upd (upd (upd (upd (upd (upd F 15 (nI fa241)) 16 pl243) 44 (nI fd)) 49 (nI md)) 73 (nI sc)) 74 (nI k9)) 75 (nI rs)) 76 (nI il)) 77 dn244) 78 wt2) 79 wf2) 80 ab2) 81 ac2) (updA (updA (updA (updA (updA B 14 (upd nc2 c133 (nI d230))) 17 ty2) 18 (upd mn2 c133 (nI r240))) 48 vn245) 49 vt246)) := mW_D hD
            exact ih_o (i2 + 1) fa241 sc pl243 dn244 wt2 wf2 ab2 ac2 (upd nc2 c133 (nI d230)) ty2 (upd mn2 c133 (nI r240)) vn245 vt246 x259 _ _ _ (by omega) (by omega) (by omega) (by omega) (by omega) (by omega) hch264 hmn256 hnc254 hq8255 ((ChS.own hF (by omega) hn9 h137 hp140 hcg263).1.trans hown2) (fun e => slP.beside (kk := 41) (s := 1) hF (by omega) hn9 hkd (by decide) (by decide) (by decide) h137 hp140 hg138 (by decide) hcg263 (hs1 (by omega))) (fun _ => rfl) (fun e => absurd e (by omega)) (mnL.succ (kk := 41) (s := 2) hF (by omega) hn9 hkd (by decide) (by decide) (by decide) (by decide) rfl hv13 hmcl (by omega) e134 hcg263) (fun c hc pc hg => mnC.beside hF (by omega) hn9 (hmcC c hc pc hg) hc h137 pc hp140 (fun e => by have y := hg138; rw [← e, hg] at y; omega) hcg263) hP hD hS (lv_sub hl [0, 1, 3, 4, 5] rfl)
          · have n265 : fa241 = 0 := (nI_eq (a := fa241) (b := 0) (by omega) (by omega)).mp c257
            obtain ⟨e266, e267, e268, e269⟩ := h252 (by omega)
            subst e266
            replace e267 := e267.symm
            subst e267
            subst e268
            have hP : va_P G.1 pCl (mW G h0 a (upd (upd (upd (upd (upd (upd (upd (upd (upd (upd (upd (upd (upd F 15 (nI fa241)) 16 pl243) 44 (nI fd)) 49 (nI md)) 73 (nI (sc + 1))) 74 (nI k9)) 75 (nI rs)) 76 (nI il)) 77 dn244) 78 wt2) 79 wf2) 80 ab2) 81 ac2) (updA (updA (updA (updA (updA B 14 (upd nc2 c133 (nI d230))) 17 ty2) 18 (upd mn2 c133 (nI sc))) 48 vn245) 49 (upd vt2 sc (nI (10 + d230))))) _ := hP
            have hD : va_D A (mW G h0 a (upd (upd (upd (upd (upd (upd (upd (upd (upd (upd (upd (upd (upd F 15 (nI fa241)) 16 pl243) 44 (nI fd)) 49 (nI md)) 73 (nI (sc + 1))) 74 (nI k9)) 75 (nI rs)) 76 (nI il)) 77 dn244) 78 wt2) 79 wf2) 80 ab2) 81 ac2) (updA (updA (updA (updA (updA B 14 (upd nc2 c133 (nI d230))) 17 ty2) 18 (upd mn2 c133 (nI sc))) 48 vn245) 49 (upd vt2 sc (nI (10 + d230))))) := mW_D hD
            have hl : lv_has ls 6 [(5, .int (nI sc)), (4, .int (nI c133)), (3, .int all2), (2, .int dn), (1, .int (nI n9)), (0, .ref h0)] := hl
            have hmn270 : mnN B nd (upd mn2 c133 (nI sc)) := hmn256
            have hq8271 : ∀ i : Nat, i < sc → (upd vt2 sc (nI (10 + d230))) i = vt i := hq8255
            have hvt272 : ∀ i : Nat, i < sc + 1 → tyOK dc (upd vt2 sc (nI (10 + d230)) i) := (all_upd (p := fun _ z => tyOK dc z) hvt229 ⟨10 + d230, rfl, Or.inl (baN.cls (by omega))⟩)
            have hve273 : ∀ i : Nat, i < sc + 1 → upd vt2 sc (nI (10 + d230)) i = upd ev sc (nI (10 + d230)) i := (upd_agr hve228)
            refine lv_aload_n hx hb dX12_lookTry_82 rfl (lv_at hl 5 rfl) ?_
            refine lv_aload_n hx hb dX12_lookTry_83 rfl (lv_at hl 5 rfl) ?_
            refine r_get (v := .ref (a 13)) hx hb hown hq hE hP 21 50 tFX12_21 (by decide) pw_1443 rfl dX12_lookTry_84 ?_
            refine lv_iload hx hb dX12_lookTry_87 (lv_at hl 1 rfl) ?_
            refine r_ldi (f := (B 13)) (j := c133) hx hb hE hP 13 (ma_13 G a _) rfl (by omega) (by decide) dX12_lookTry_89 ?_
            obtain ⟨c274, e275, h276, hp277, h278, hc279, hh280, hg281⟩ := Fs2.kid (kk := 44) (s := 2) hF h137 ek141 (by decide) (by decide) (by decide) (by decide) (by omega)
            refine lv_topi (fun x282 e283 => ?_)
            obtain rfl : x282 = nI c274 := e283.trans e275
            have hP : va_P G.1 pCl (mW G h0 a (upd (upd (upd (upd (upd (upd (upd (upd (upd (upd (upd (upd (upd (upd (upd (upd (upd (upd (upd (upd (upd (upd (upd (upd (upd F 15 (nI fa241)) 16 pl243) 44 (nI fd)) 49 (nI md)) 73 (nI (sc + 1))) 74 (nI k9)) 75 (nI rs)) 76 (nI il)) 77 dn244) 78 wt2) 79 wf2) 80 ab2) 81 ac2) 15 (nI fa241)) 44 (nI fd)) 49 (nI md)) 73 (nI (sc + 1))) 74 (nI k9)) 75 (nI rs)) 76 (nI il)) 77 dn244) 78 wt2) 79 wf2) 80 ab2) 81 ac2) (updA (updA (updA (updA (updA B 14 (upd nc2 c133 (nI d230))) 17 ty2) 18 (upd mn2 c133 (nI sc))) 48 vn245) 49 (upd vt2 sc (nI (10 + d230))))) _ := mW_to (F := F) (l1 := [(15, (nI fa241)), (16, pl243), (44, (nI fd)), (49, (nI md)), (73, (nI (sc + 1))), (74, (nI k9)), (75, (nI rs)), (76, (nI il)), (77, dn244), (78, wt2), (79, wf2), (80, ab2), (81, ac2)]) (l2 := [(15, (nI fa241)), (16, pl243), (44, (nI fd)), (49, (nI md)), (73, (nI (sc + 1))), (74, (nI k9)), (75, (nI rs)), (76, (nI il)), (77, dn244), (78, wt2), (79, wf2), (80, ab2), (81, ac2), (15, (nI fa241)), (44, (nI fd)), (49, (nI md)), (73, (nI (sc + 1))), (74, (nI k9)), (75, (nI rs)), (76, (nI il)), (77, dn244), (78, wt2), (79, wf2), (80, ab2), (81, ac2)]) (V := [(nI fa241), pl243, (nI fd), (nI md), (nI (sc + 1)), (nI k9), (nI rs), (nI il), dn244, wt2, wf2, ab2, ac2, (nI fa241), pl243, (nI fd), (nI md), (nI (sc + 1)), (nI k9), (nI rs), (nI il), dn244, wt2, wf2, ab2, ac2, (nI fa241), (nI fd), (nI md), (nI (sc + 1)), (nI k9), (nI rs), (nI il), dn244, wt2, wf2, ab2, ac2]) rfl rfl rfl hP
            have hD : va_D A (mW G h0 a (upd (upd (upd (upd (upd (upd (upd (upd (upd (upd (upd (upd (upd (upd (upd (upd (upd (upd (upd (upd (upd (upd (upd (upd (upd F 15 (nI fa241)) 16 pl243) 44 (nI fd)) 49 (nI md)) 73 (nI (sc + 1))) 74 (nI k9)) 75 (nI rs)) 76 (nI il)) 77 dn244) 78 wt2) 79 wf2) 80 ab2) 81 ac2) 15 (nI fa241)) 44 (nI fd)) 49 (nI md)) 73 (nI (sc + 1))) 74 (nI k9)) 75 (nI rs)) 76 (nI il)) 77 dn244) 78 wt2) 79 wf2) 80 ab2) 81 ac2) (updA (updA (updA (updA (updA B 14 (upd nc2 c133 (nI d230))) 17 ty2) 18 (upd mn2 c133 (nI sc))) 48 vn245) 49 (upd vt2 sc (nI (10 + d230))))) := mW_D hD
            refine pc_V0 (G := G) (As := [.int (nI c274)]) (rest := []) hx hb hml hown hq hE hX pX0_al hP hD hS hA hl.1 (ihS h0 a (upd (upd (upd (upd (upd (upd (upd (upd (upd (upd (upd (upd (upd F 15 (nI fa241)) 16 pl243) 44 (nI fd)) 49 (nI md)) 73 (nI (sc + 1))) 74 (nI k9)) 75 (nI rs)) 76 (nI il)) 77 dn244) 78 wt2) 79 wf2) 80 ab2) 81 ac2) B c274 fa241 (sc + 1) il k9 rs nd T nm wr lz dc fd md pr bk gh dn244 wt2 wf2 ab2 ac2 (upd nc2 c133 (nI d230)) ty2 (upd mn2 c133 (nI sc)) vn245 (upd vt2 sc (nI (10 + d230))) (upd ev sc (nI (10 + d230))) hst hnm h276 (by omega) (by omega) (by omega) hk9 hnc254 hmn270 (by omega) hrs (by omega) (mnC.own hF (by omega) h137 (mnC.kid (hmcl i2 c133 (Nat.le_refl _) (by omega) e134) (by omega) hp277) h276 hp277) hvt272 hve273 (kcl_3_7 (kcl_10_3 hc279))) (gV pw_1874 pw_1875 pw_1876 pw_1523 pw_1884) hV_X12_lookStatement 0 9 rfl rfl rfl rfl (Nat.le_of_ble_eq_true rfl) dX12_lookTry_90 ⟨Nat.le_of_ble_eq_true rfl, Nat.le_of_ble_eq_true rfl⟩ ⟨(by show (4 * (z9 - 1) + 14) + 1 ≤ (4 * z9 + 13); omega), (by show 8 + (4 + 11) + (160 * (z9 - 1) + 1700) ≤ (160 * z9 + 1660); omega)⟩ (fun v286 u284 H locs hw285 hP hD hS => ?_)
            obtain ⟨fa287, sc288, pl289, dn290, wt291, wf292, ab293, ac294, nc295, ty296, mn297, vn298, vt299⟩ := u284
            obtain ⟨hw285, h300, h301, h302, h303, h304, h305, h306, h307, h308⟩ := hw285
            replace h300 : fa241 ≤ fa287 := h300
            replace h301 : fa287 ≤ 15 := h301
            replace h302 : (sc + 1) ≤ sc288 := h302
            replace h303 : sc288 ≤ 30 := h303
            replace h304 : ChS B nd c274 ty2 ty296 (upd mn2 c133 (nI sc)) mn297 (upd nc2 c133 (nI d230)) nc295 := h304
            replace h305 : mnN B nd mn297 := h305
            replace h306 : ∀ i : Nat, i < nd → ¬ (B) 9 i = 44 → nc295 i = (B) 14 i := h306
            replace h307 : ∀ i : Nat, i < (sc + 1) → vt299 i = (upd vt2 sc (nI (10 + d230))) i := h307
            replace h308 : If (fa287 = 0) (TyS B dc fd md nd ty296 mn297 nc295 k9 rs c274 ((sc + 1), il, (upd ev sc (nI (10 + d230)))) ∧ sc288 = (aft B c274 ((sc + 1), il, (upd ev sc (nI (10 + d230))))).1 ∧ ∀ i : Nat, i < sc288 → vt299 i = (aft B c274 ((sc + 1), il, (upd ev sc (nI (10 + d230))))).2.2 i ∧ tyOK dc (vt299 i)) := h308
            obtain rfl : v286 = none := hw285
            have hP : va_P G.1 pCl (mW G h0 a (upd (upd (upd (upd (upd (upd (upd (upd (upd (upd (upd (upd (upd F 15 (nI fa287)) 16 pl289) 44 (nI fd)) 49 (nI md)) 73 (nI sc288)) 74 (nI k9)) 75 (nI rs)) 76 (nI il)) 77 dn290) 78 wt291) 79 wf292) 80 ab293) 81 ac294) (updA (updA (updA (updA (updA B 14 nc295) 17 ty296) 18 mn297) 48 vn298) 49 vt299)) _ := mW_to (F := F) (l1 := [(15, (nI fa241)), (16, pl243), (44, (nI fd)), (49, (nI md)), (73, (nI (sc + 1))), (74, (nI k9)), (75, (nI rs)), (76, (nI il)), (77, dn244), (78, wt2), (79, wf2), (80, ab2), (81, ac2), (15, (nI fa287)), (16, pl289), (44, (nI fd)), (49, (nI md)), (73, (nI sc288)), (74, (nI k9)), (75, (nI rs)), (76, (nI il)), (77, dn290), (78, wt291), (79, wf292), (80, ab293), (81, ac294)]) (l2 := [(15, (nI fa287)), (16, pl289), (44, (nI fd)), (49, (nI md)), (73, (nI sc288)), (74, (nI k9)), (75, (nI rs)), (76, (nI il)), (77, dn290), (78, wt291), (79, wf292), (80, ab293), (81, ac294)]) (V := [(nI fa287), pl289, (nI fd), (nI md), (nI sc288), (nI k9), (nI rs), (nI il), dn290, wt291, wf292, ab293, ac294, (nI fa287), pl289, (nI fd), (nI md), (nI sc288), (nI k9), (nI rs), (nI il), dn290, wt291, wf292, ab293, ac294, (nI fa287), pl289, (nI fd), (nI md), (nI sc288), (nI k9), (nI rs), (nI il), dn290, wt291, wf292, ab293, ac294]) rfl rfl rfl hP
            have hD : va_D A (mW G h0 a (upd (upd (upd (upd (upd (upd (upd (upd (upd (upd (upd (upd (upd F 15 (nI fa287)) 16 pl289) 44 (nI fd)) 49 (nI md)) 73 (nI sc288)) 74 (nI k9)) 75 (nI rs)) 76 (nI il)) 77 dn290) 78 wt291) 79 wf292) 80 ab293) 81 ac294) (updA (updA (updA (updA (updA B 14 nc295) 17 ty296) 18 mn297) 48 vn298) 49 vt299)) := mW_D hD
            refine W.widen (k := 0) (n := 0) (Nat.le_of_ble_eq_true rfl) (Nat.le_of_ble_eq_true rfl) ?_
            refine W.eq (g2 := F0 m 93 ls []) rfl ?_
            have hq8309 : ∀ i : Nat, i < sc → vt299 i = vt i := (fun i h => (h307 i (by omega)).trans (hq8271 i h))
            refine lv_aload_n hx hb dX12_lookTry_93 rfl (lv_at hl 5 rfl) ?_
            refine lv_iload hx hb dX12_lookTry_94 (lv_at hl 0 rfl) ?_
            refine r_put (v := (nI sc)) (ty := .int) hx hb hown hq hE hP hD hS 73 537 tFX12_73 (by decide) pw_1795 (by decide) rfl rfl (ms_73 a _ _) dX12_lookTry_96 (fun H locs hP hD hS => ?_)
            refine lv_iload_n hx hb dX12_lookTry_99 rfl (lv_at hl 2 rfl) ?_
            refine lv_aload_n hx hb dX12_lookTry_100 rfl (lv_at hl 5 rfl) ?_
            refine r_get (v := .int dn290) hx hb hown hq hE hP 77 544 tFX12_77 (by decide) pw_1796 rfl dX12_lookTry_101 ?_
            refine lv_iand hx hb dX12_lookTry_104 ?_
            refine lv_topi (fun x310 e311 => ?_)
            refine lv_istore_n (lv' := [(3, .int x310), (5, .int (nI sc)), (4, .int (nI c133)), (2, .int dn), (1, .int (nI n9)), (0, .ref h0)]) hx hb dX12_lookTry_105 rfl hl (by decide) rfl (fun ls hl => ?_)
            refine lv_aload_n hx hb dX12_lookTry_106 rfl (lv_at hl 5 rfl) ?_
            refine r_get (v := .ref (a 16)) hx hb hown hq hE hP 24 59 tFX12_24 (by decide) pw_1446 rfl dX12_lookTry_107 ?_
            refine lv_iload hx hb dX12_lookTry_110 (lv_at hl 2 rfl) ?_
            refine r_ldi (f := (B 16)) (j := c133) hx hb hE hP 16 (ma_16 G a _) rfl (by omega) (by decide) dX12_lookTry_112 ?_
            refine lv_topi (fun x312 e313 => ?_)
            obtain rfl : x312 = itr (B 16) (B 13 n9) (i2 + 1) := e313.trans (itr_s e134 (by omega)).symm
            refine lv_istore (lv' := [(4, .int (itr (B 16) (B 13 n9) (i2 + 1))), (3, .int x310), (5, .int (nI sc)), (2, .int dn), (1, .int (nI n9)), (0, .ref h0)]) hx hb dX12_lookTry_113 hl (by decide) rfl (fun ls hl => ?_)
            refine lv_goto (tgt := 38) hx hb dX12_lookTry_115 (by decide) ?_
            have hcg314 : ChS B nd c133 ty2 ty296 mn2 mn297 nc2 nc295 := (ChS.trans (ChS.trans (ChS.setC sub.rfl) (ChS.setM sub.rfl)) (ChS.kid h304 (by omega) hp277))
            have hch315 : ChS B nd n9 ty ty296 mn mn297 nc nc295 := (ChS.trans hch2 (ChS.kid hcg314 (by omega) hp140))
            have hP : va_P G.1 pCl (mW G h0 a (upd (upd (upd (upd (upd (upd (upd (upd (upd (upd (upd (upd (upd F 15 (nI fa287)) 16 pl289) 44 (nI fd)) 49 (nI md)) 73 (nI sc)) 74 (nI k9)) 75 (nI rs)) 76 (nI il)) 77 dn290) 78 wt291) 79 wf292) 80 ab293) 81 ac294) (updA (updA (updA (updA (updA B 14 nc295) 17 ty296) 18 mn297) 48 vn298) 49 vt299)) _ := mW_to (F := F) (l1 := [(15, (nI fa287)), (16, pl289), (44, (nI fd)), (49, (nI md)), (73, (nI sc288)), (74, (nI k9)), (75, (nI rs)), (76, (nI il)), (77, dn290), (78, wt291), (79, wf292), (80, ab293), (81, ac294), (73, (nI sc))]) (l2 := [(15, (nI fa287)), (16, pl289), (44, (nI fd)), (49, (nI md)), (73, (nI sc)), (74, (nI k9)), (75, (nI rs)), (76, (nI il)), (77, dn290), (78, wt291), (79, wf292), (80, ab293), (81, ac294)]) (V := [(nI fa287), pl289, (nI fd), (nI md), (nI sc), (nI k9), (nI rs), (nI il), dn290, wt291, wf292, ab293, ac294, (nI sc), (nI fa287), pl289, (nI fd), (nI md), (nI sc), (nI k9), (nI rs), (nI il), dn290, wt291, wf292, ab293, ac294]) rfl rfl rfl hP
            have hD : va_D A (mW G h0 a (upd (upd (upd (upd (upd (upd (upd (upd (upd (upd (upd (upd (upd F 15 (nI fa287)) 16 pl289) 44 (nI fd)) 49 (nI md)) 73 (nI sc)) 74 (nI k9)) 75 (nI rs)) 76 (nI il)) 77 dn290) 78 wt291) 79 wf292) 80 ab293) 81 ac294) (updA (updA (updA (updA (updA B 14 nc295) 17 ty296) 18 mn297) 48 vn298) 49 vt299)) := mW_D hD
            exact ih_o (i2 + 1) fa287 sc pl289 dn290 wt291 wf292 ab293 ac294 nc295 ty296 mn297 vn298 vt299 x310 _ _ _ (by omega) (by omega) (by omega) (by omega) (by omega) (by omega) hch315 h305 h306 hq8309 ((ChS.own hF (by omega) hn9 h137 hp140 hcg314).1.trans hown2) (fun e => slP.beside (kk := 41) (s := 1) hF (by omega) hn9 hkd (by decide) (by decide) (by decide) h137 hp140 hg138 (by decide) hcg314 (hs1 (by omega))) (fun _ => rfl) (fun e => TsL.succ (kk := 41) (s := 2) hF (by omega) hn9 hkd (by decide) (by decide) (by decide) (by decide) rfl hv13 (hcs (by omega)) (by omega) e134 hcg314 (TyS.of (steps (kk := 44) ek141 (by decide) (slP.no (by decide)) (slP.one (by decide) (by omega) e275 (by show TyS B dc fd md nd ty296 mn297 nc295 k9 rs c274 (sc + 1, il, upd ev sc (10 + B 18 c133)); rw [e231, show (10 : Int32) + nI d230 = nI (10 + d230) from nI_add 10 d230]; exact (h308 (by omega)).1)) (slP.no (by decide)) (slP.no (by decide))) (LTX.st ek141 (by decide) (by decide) (show LSk B dc ty296 mn297 nc295 rs c133 (sc, il, ev) 44 from ⟨(ChS.own hF (by omega) h137 h276 hp277 h304).1.trans upd_eq, e269, (ChS.own hF (by omega) h137 h276 hp277 h304).2.trans (upd_eq.trans e231.symm)⟩)))) (mnL.succ (kk := 41) (s := 2) hF (by omega) hn9 hkd (by decide) (by decide) (by decide) (by decide) rfl hv13 hmcl (by omega) e134 hcg314) (fun c hc pc hg => mnC.beside hF (by omega) hn9 (hmcC c hc pc hg) hc h137 pc hp140 (fun e => by have y := hg138; rw [← e, hg] at y; omega) hcg314) hP hD hS (lv_sub hl [0, 1, 3, 4, 5] rfl)
  have hP : va_P G.1 pCl (mW G h0 a (upd (upd (upd (upd (upd (upd (upd (upd (upd (upd (upd (upd (upd F 15 (nI fa16)) 16 pl18) 44 (nI fd)) 49 (nI md)) 73 (nI sc17)) 74 (nI k9)) 75 (nI rs)) 76 (nI il)) 77 dn19) 78 wt20) 79 wf21) 80 ab22) 81 ac23) (updA (updA (updA (updA (updA B 14 nc24) 17 ty25) 18 mn26) 48 vn27) 49 vt28)) _ := hP
  have hD : va_D A (mW G h0 a (upd (upd (upd (upd (upd (upd (upd (upd (upd (upd (upd (upd (upd F 15 (nI fa16)) 16 pl18) 44 (nI fd)) 49 (nI md)) 73 (nI sc17)) 74 (nI k9)) 75 (nI rs)) 76 (nI il)) 77 dn19) 78 wt20) 79 wf21) 80 ab22) 81 ac23) (updA (updA (updA (updA (updA B 14 nc24) 17 ty25) 18 mn26) 48 vn27) 49 vt28)) := mW_D hD
  exact loop_o (nd + 1) 0 fa16 sc17 pl18 dn19 wt20 wf21 ab22 ac23 nc24 ty25 mn26 vn27 vt28 dn19 _ _ _ (by omega) (by omega) (by omega) (by omega) (by omega) (by omega) hch38 h34 h35 hq840 ho39 hsl43 (fun e => by have z := (h37 e).2.1; rw [aft_no (kcl_no30 (q := 10) (by omega) hc8)] at z; exact z) (fun _ => TsL.zero) (fun z c _ hc w => by obtain ⟨a1, a2, a3, a4, a5⟩ := lst_ct hF (by omega) hn9 hkd hc w; exact mnC.beside hF (by omega) hn9 (mnC.own hF (by omega) hn9 (mnC.kid hmc hc a4) a1 a4) a1 h5 a4 hp6 (fun e => by have y := hg10; rw [← e, a2] at y; omega) h33) (fun c hc pc hg => mnC.beside hF (by omega) hn9 (mnC.own hF (by omega) hn9 (mnC.kid hmc (by omega) pc) hc pc) hc h5 pc hp6 (fun e => by have y := hg10; rw [← e, hg] at y; omega) h33) hP hD hS (lv_sub hl [0, 1, 2, 4, 3] rfl)

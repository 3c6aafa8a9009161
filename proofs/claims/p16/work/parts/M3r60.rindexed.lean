theorem dX12_indexed_0 : decode cX12_indexed 0 = .ok (.aload_n 0, 1) := by decide +kernel
theorem dX12_indexed_1 : decode cX12_indexed 1 = .ok (.aload_n 0, 1) := by decide +kernel
theorem dX12_indexed_2 : decode cX12_indexed 2 = .ok (.getfield 47, 3) := by decide +kernel
theorem dX12_indexed_5 : decode cX12_indexed 5 = .ok (.iload_n 1, 1) := by decide +kernel
theorem dX12_indexed_6 : decode cX12_indexed 6 = .ok (.iaload, 1) := by decide +kernel
theorem dX12_indexed_7 : decode cX12_indexed 7 = .ok (.invokevirtual 557, 3) := by decide +kernel
theorem dX12_indexed_10 : decode cX12_indexed 10 = .ok (.istore_n 2, 1) := by decide +kernel
theorem dX12_indexed_11 : decode cX12_indexed 11 = .ok (.aload_n 0, 1) := by decide +kernel
theorem dX12_indexed_12 : decode cX12_indexed 12 = .ok (.iload_n 2, 1) := by decide +kernel
theorem dX12_indexed_13 : decode cX12_indexed 13 = .ok (.invokestatic 531, 3) := by decide +kernel
theorem dX12_indexed_16 : decode cX12_indexed 16 = .ok (.bipush 11, 2) := by decide +kernel
theorem dX12_indexed_18 : decode cX12_indexed 18 = .ok (.aload_n 0, 1) := by decide +kernel
theorem dX12_indexed_19 : decode cX12_indexed 19 = .ok (.getfield 41, 3) := by decide +kernel
theorem dX12_indexed_22 : decode cX12_indexed 22 = .ok (.iload_n 1, 1) := by decide +kernel
theorem dX12_indexed_23 : decode cX12_indexed 23 = .ok (.iaload, 1) := by decide +kernel
theorem dX12_indexed_24 : decode cX12_indexed 24 = .ok (.invokevirtual 540, 3) := by decide +kernel
theorem dX12_indexed_27 : decode cX12_indexed 27 = .ok (.pop, 1) := by decide +kernel
theorem dX12_indexed_28 : decode cX12_indexed 28 = .ok (.aload_n 0, 1) := by decide +kernel
theorem dX12_indexed_29 : decode cX12_indexed 29 = .ok (.aload_n 0, 1) := by decide +kernel
theorem dX12_indexed_30 : decode cX12_indexed 30 = .ok (.getfield 50, 3) := by decide +kernel
theorem dX12_indexed_33 : decode cX12_indexed 33 = .ok (.iload_n 1, 1) := by decide +kernel
theorem dX12_indexed_34 : decode cX12_indexed 34 = .ok (.iaload, 1) := by decide +kernel
theorem dX12_indexed_35 : decode cX12_indexed 35 = .ok (.iconst 1, 1) := by decide +kernel
theorem dX12_indexed_36 : decode cX12_indexed 36 = .ok (.invokevirtual 573, 3) := by decide +kernel
theorem dX12_indexed_39 : decode cX12_indexed 39 = .ok (.aload_n 0, 1) := by decide +kernel
theorem dX12_indexed_40 : decode cX12_indexed 40 = .ok (.getfield 350, 3) := by decide +kernel
theorem dX12_indexed_43 : decode cX12_indexed 43 = .ok (.ifCond .ne 11, 3) := by decide +kernel
theorem dX12_indexed_54 : decode cX12_indexed 54 = .ok (.iconst 1, 1) := by decide +kernel
theorem dX12_indexed_55 : decode cX12_indexed 55 = .ok (.ireturn, 1) := by decide +kernel
theorem dX12_indexed_46 : decode cX12_indexed 46 = .ok (.iload_n 2, 1) := by decide +kernel
theorem dX12_indexed_47 : decode cX12_indexed 47 = .ok (.sipush 1000, 3) := by decide +kernel
theorem dX12_indexed_50 : decode cX12_indexed 50 = .ok (.isub, 1) := by decide +kernel
theorem dX12_indexed_51 : decode cX12_indexed 51 = .ok (.goto 4, 3) := by decide +kernel
set_option maxHeartbeats 6000000 in
set_option maxRecDepth 100000 in
/-- indexed(n) -/
theorem L_indexed (l : Launch) (G : pT) (h0 : Nat) (a : Nat → Nat) (F : Nat → Int32) (B : Nat → Nat → Int32) (n9 : Nat) (z9 : Nat) (fa : Nat) (sc : Nat) (k9 : Nat) (nd : Nat) (T : Nat) (nm : Nat) (wr : Nat) (lz : Nat) (dc : Nat) (fd : Nat) (md : Nat) (pr : Nat) (bk : Nat) (gh : Nat → Nat → Nat) (dn : Int32) (wt : Int32) (wf : Int32) (nc : Nat → Int32) (ty : Nat → Int32) (mn : Nat → Int32) (vn : Nat → Int32) (vt : Nat → Int32) (hst : St B gh nd T nm wr lz dc fd md pr bk) (hnm : nd ≤ 12000 ∧ T ≤ 5000 ∧ wr ≤ 5000 ∧ 7 ≤ dc ∧ dc ≤ 37 ∧ fd ≤ 620 ∧ md ≤ 920 ∧ pr ≤ 5000) (hn9 : n9 < nd) (hz : gh 1 n9 < z9) (hfa : fa ≤ 15) (hsc : sc ≤ 30) (hk9 : 7 ≤ k9 ∧ k9 < dc) (hnc : ∀ i : Nat, i < nd → ¬ B 9 i = 44 → nc i = B 14 i) (hmn : mnN B nd mn) (hvt : ∀ i : Nat, i < sc → tyOK dc (vt i)) (hkd : B 9 n9 = nI 15) (ihL : Plook l G (z9 - 1)) (ihW : Pwants l G (z9 - 1)) : PM l G pX0 yX12_indexed cX12_indexed 3 (some .int) ({ frames := (4 * z9 + 9), cells := 0, slots := 0, locals := (160 * z9 + 1360) }) [.ref h0, .int (nI n9)] (mW G h0 a (upd (upd (upd (upd (upd (upd (upd (upd F 15 (nI fa)) 44 (nI fd)) 49 (nI md)) 73 (nI sc)) 74 (nI k9)) 77 dn) 78 wt) 79 wf) (updA (updA (updA (updA (updA B 14 nc) 17 ty) 18 mn) 48 vn) 49 vt)) (fun (v : Option Value) (u : Nat × Nat × Int32 × Int32 × Int32 × Int32 × (Nat → Int32) × (Nat → Int32)) => v = some (.int (nI u.1)) ∧ (fa ≤ u.2.1) ∧ (u.2.1 ≤ 15) ∧ (TyC dc u.1) ∧ (u.1 ≤ 2050) ∧ (ChE B nd n9 ty u.2.2.2.2.2.2.1 mn u.2.2.2.2.2.2.2) ∧ (mnN B nd u.2.2.2.2.2.2.2) ∧ (If (u.2.1 = 0) (Typ0 B dc fd md nd u.2.2.2.2.2.2.1 u.2.2.2.2.2.2.2 vt sc k9 n9 (nI u.1)))) (fun u => (mW G h0 a (upd (upd (upd (upd (upd (upd (upd (upd (upd F 15 (nI u.2.1)) 16 u.2.2.1) 44 (nI fd)) 49 (nI md)) 73 (nI sc)) 74 (nI k9)) 77 u.2.2.2.1) 78 u.2.2.2.2.1) 79 u.2.2.2.2.2.1) (updA (updA (updA (updA (updA B 14 nc) 17 u.2.2.2.2.2.2.1) 18 u.2.2.2.2.2.2.2) 48 vn) 49 vt))) := by
  intro sz
  refine Met.ofW (cc := cX12_indexed) (maxL := 3) (ret := (some .int)) (by decide) rfl ?_
  intro p e s m args below meth c s₁ B9 hml hv
  obtain ⟨rfl, hsz, hP, hD0, hE, hX⟩ := hv
  have hx := B9.exec
  have hb := B9.bytes
  have hr := B9.returns
  have hts := atoms_spec (ws := Cond.code yX12_indexed cX12_indexed 3 (some .int) :: pw) B9.pre
  have hq : ∀ w ∈ pw, w.before _ s = true := fun w h => hts w (List.mem_cons_of_mem _ h)
  have hown : s.vm.findClass RX12 = some m.cls := findClass_of_methodNamed B9.named
  have hlocks := B9.notSynchronized
  subst hsz
  have hD := hD0.self (sz := s.heap.size)
  have hA : ∀ q : Nat, s.heap.size ≤ q → va_A (mW G h0 a (upd (upd (upd (upd (upd (upd (upd (upd F 15 (nI fa)) 44 (nI fd)) 49 (nI md)) 73 (nI sc)) 74 (nI k9)) 77 dn) 78 wt) 79 wf) (updA (updA (updA (updA (updA B 14 nc) 17 ty) 18 mn) 48 vn) 49 vt)) s.heap.size q := fun q h => Or.inr h
  have hP : va_P G.1 pCl (mW G h0 a (upd (upd (upd (upd (upd (upd (upd (upd F 15 (nI fa)) 44 (nI fd)) 49 (nI md)) 73 (nI sc)) 74 (nI k9)) 77 dn) 78 wt) 79 wf) (updA (updA (updA (updA (updA B 14 nc) 17 ty) 18 mn) 48 vn) 49 vt)) s.heap := hP
  generalize va_A (mW G h0 a (upd (upd (upd (upd (upd (upd (upd (upd F 15 (nI fa)) 44 (nI fd)) 49 (nI md)) 73 (nI sc)) 74 (nI k9)) 77 dn) 78 wt) 79 wf) (updA (updA (updA (updA (updA B 14 nc) 17 ty) 18 mn) 48 vn) 49 vt)) s.heap.size = A at hD hE hA ⊢
  have hS : va_S A s.heap s.heap [] := va_S.rf
  have hl := lv_entry ([.ref h0, .int (nI n9)]) (n := 3) (Nat.le_of_ble_eq_true rfl)
  rw [lg_entry_eq]
  generalize (lg_sl ([.ref h0, .int (nI n9)]) ++ List.replicate (3 - (lg_sl ([.ref h0, .int (nI n9)])).length) Slot.unset).toArray = ls at hl ⊢
  have hl : lv_has ls 3 [(0, .ref h0), (1, .int (nI n9))] := hl
  have hF := hst.1
  have hPS := hst.2.1
  have hBI := hst.2.2.1
  have hRK := hst.2.2.2.1
  have hTY := hst.2.2.2.2.1
  have hNW := hst.2.2.2.2.2.1
  have hTK := hst.2.2.2.2.2.2
  refine lv_aload_n hx hb dX12_indexed_0 rfl (lv_at hl 0 rfl) ?_
  refine lv_aload_n hx hb dX12_indexed_1 rfl (lv_at hl 0 rfl) ?_
  refine r_get (v := .ref (a 12)) hx hb hown hq hE hP 20 47 tFX12_20 (by decide) pw_1442 rfl dX12_indexed_2 ?_
  refine lv_iload_n hx hb dX12_indexed_5 rfl (lv_at hl 1 rfl) ?_
  refine r_ldi (f := (B 12)) (j := n9) hx hb hE hP 12 (ma_12 G a _) rfl (by omega) (by decide) dX12_indexed_6 ?_
  obtain ⟨c1, e2, h3, hp4, h5, hc6, hh7, hg8⟩ := Fs2.kid (kk := 15) (s := 1) hF hn9 hkd (by decide) (by decide) (by decide) (by decide) (by omega)
  refine lv_topi (fun x9 e10 => ?_)
  obtain rfl : x9 = nI c1 := e10.trans e2
  have hP : va_P G.1 pCl (mW G h0 a (upd (upd (upd (upd (upd (upd (upd (upd (upd (upd (upd (upd (upd (upd (upd (upd F 15 (nI fa)) 44 (nI fd)) 49 (nI md)) 73 (nI sc)) 74 (nI k9)) 77 dn) 78 wt) 79 wf) 15 (nI fa)) 44 (nI fd)) 49 (nI md)) 73 (nI sc)) 74 (nI k9)) 77 dn) 78 wt) 79 wf) (updA (updA (updA (updA (updA B 14 nc) 17 ty) 18 mn) 48 vn) 49 vt)) _ := mW_to (F := F) (l1 := [(15, (nI fa)), (44, (nI fd)), (49, (nI md)), (73, (nI sc)), (74, (nI k9)), (77, dn), (78, wt), (79, wf)]) (l2 := [(15, (nI fa)), (44, (nI fd)), (49, (nI md)), (73, (nI sc)), (74, (nI k9)), (77, dn), (78, wt), (79, wf), (15, (nI fa)), (44, (nI fd)), (49, (nI md)), (73, (nI sc)), (74, (nI k9)), (77, dn), (78, wt), (79, wf)]) (V := [(nI fa), (nI fd), (nI md), (nI sc), (nI k9), dn, wt, wf, (nI fa), (nI fd), (nI md), (nI sc), (nI k9), dn, wt, wf, (nI fa), (nI fd), (nI md), (nI sc), (nI k9), dn, wt, wf]) rfl rfl rfl hP
  have hD : va_D A (mW G h0 a (upd (upd (upd (upd (upd (upd (upd (upd (upd (upd (upd (upd (upd (upd (upd (upd F 15 (nI fa)) 44 (nI fd)) 49 (nI md)) 73 (nI sc)) 74 (nI k9)) 77 dn) 78 wt) 79 wf) 15 (nI fa)) 44 (nI fd)) 49 (nI md)) 73 (nI sc)) 74 (nI k9)) 77 dn) 78 wt) 79 wf) (updA (updA (updA (updA (updA B 14 nc) 17 ty) 18 mn) 48 vn) 49 vt)) := mW_D hD
  refine pc_V0 (G := G) (As := [.int (nI c1)]) (rest := []) hx hb hml hown hq hE hX pX0_al hP hD hS hA hl.1 (ihL h0 a (upd (upd (upd (upd (upd (upd (upd (upd F 15 (nI fa)) 44 (nI fd)) 49 (nI md)) 73 (nI sc)) 74 (nI k9)) 77 dn) 78 wt) 79 wf) B c1 fa sc k9 nd T nm wr lz dc fd md pr bk gh dn wt wf nc ty mn vn vt hst hnm h3 (by omega) (by omega) (by omega) hk9 hnc hmn hvt (show kcl 1 _ = true from hc6)) (gV pw_1822 pw_1823 pw_1824 pw_1523 pw_1830) hV_X12_look 0 9 rfl rfl rfl rfl (Nat.le_of_ble_eq_true rfl) dX12_indexed_7 ⟨Nat.le_of_ble_eq_true rfl, Nat.le_of_ble_eq_true rfl⟩ ⟨(by show (4 * (z9 - 1) + 11) + 1 ≤ (4 * z9 + 9); omega), (by show 8 + (3 + 11) + (160 * (z9 - 1) + 1440) ≤ (160 * z9 + 1360); omega)⟩ (fun v13 u11 H locs hw12 hP hD hS => ?_)
  obtain ⟨r14, fa15, pl16, dn17, wt18, wf19, ty20, mn21⟩ := u11
  obtain ⟨hw12, h22, h23, h24, h25, h26, h27, h28, h29⟩ := hw12
  replace h22 : fa ≤ fa15 := h22
  replace h23 : fa15 ≤ 15 := h23
  replace h24 : TyC dc r14 := h24
  replace h25 : r14 ≤ 2050 := h25
  replace h26 : ChE B nd c1 ty ty20 mn mn21 := h26
  replace h27 : mnN B nd mn21 := h27
  replace h28 : If (fa15 = 0) (Typ B dc fd md nd ty20 mn21 vt sc k9 c1) := h28
  replace h29 : ty20 c1 = nI r14 := h29
  obtain rfl : v13 = some (.int (nI r14)) := hw12
  have hP : va_P G.1 pCl (mW G h0 a (upd (upd (upd (upd (upd (upd (upd (upd (upd F 15 (nI fa15)) 16 pl16) 44 (nI fd)) 49 (nI md)) 73 (nI sc)) 74 (nI k9)) 77 dn17) 78 wt18) 79 wf19) (updA (updA (updA (updA (updA B 14 nc) 17 ty20) 18 mn21) 48 vn) 49 vt)) _ := mW_to (F := F) (l1 := [(15, (nI fa)), (44, (nI fd)), (49, (nI md)), (73, (nI sc)), (74, (nI k9)), (77, dn), (78, wt), (79, wf), (15, (nI fa15)), (16, pl16), (44, (nI fd)), (49, (nI md)), (73, (nI sc)), (74, (nI k9)), (77, dn17), (78, wt18), (79, wf19)]) (l2 := [(15, (nI fa15)), (16, pl16), (44, (nI fd)), (49, (nI md)), (73, (nI sc)), (74, (nI k9)), (77, dn17), (78, wt18), (79, wf19)]) (V := [(nI fa15), (nI fd), (nI md), (nI sc), (nI k9), dn17, wt18, wf19, (nI fa15), pl16, (nI fd), (nI md), (nI sc), (nI k9), dn17, wt18, wf19, (nI fa15), pl16, (nI fd), (nI md), (nI sc), (nI k9), dn17, wt18, wf19]) rfl rfl rfl hP
  have hD : va_D A (mW G h0 a (upd (upd (upd (upd (upd (upd (upd (upd (upd F 15 (nI fa15)) 16 pl16) 44 (nI fd)) 49 (nI md)) 73 (nI sc)) 74 (nI k9)) 77 dn17) 78 wt18) 79 wf19) (updA (updA (updA (updA (updA B 14 nc) 17 ty20) 18 mn21) 48 vn) 49 vt)) := mW_D hD
  refine W.widen (k := 0) (n := 0) (Nat.le_of_ble_eq_true rfl) (Nat.le_of_ble_eq_true rfl) ?_
  refine W.eq (g2 := F0 m 10 ls [.int (nI r14)]) rfl ?_
  have hch30 : ChE B nd n9 ty ty20 mn mn21 := (ChE.trans ChE.rfl (ChE.kid h26 (by omega) hp4))
  refine lv_istore_n (lv' := [(2, .int (nI r14)), (0, .ref h0), (1, .int (nI n9))]) hx hb dX12_indexed_10 rfl hl (by decide) rfl (fun ls hl => ?_)
  refine lv_aload_n hx hb dX12_indexed_11 rfl (lv_at hl 1 rfl) ?_
  refine lv_iload_n hx hb dX12_indexed_12 rfl (lv_at hl 0 rfl) ?_
  refine pc_SN (G := G) (As := [.int (nI r14)]) (rest := [.ref h0]) hx hb hml hown hq hE hX pX0_al hP hS hA hl.1 (s_isRow l G r14 (by omega)) (gS pw_1788 pw_1789 pw_1523 pw_1780) hS_X12_isRow rfl (Nat.le_of_ble_eq_true rfl) dX12_indexed_13 ⟨Nat.le_of_ble_eq_true rfl, Nat.le_of_ble_eq_true rfl⟩ ⟨(by show 2 + 1 ≤ (4 * z9 + 9); omega), (by show 8 + (1 + 11) + 60 ≤ (160 * z9 + 1360); omega)⟩ (fun v33 u31 H locs hw32 hP hS => ?_)
  obtain ⟨r34, rfl, h35, h36, h37⟩ := hw32
  refine W.widen (k := 0) (n := 0) (Nat.le_of_ble_eq_true rfl) (Nat.le_of_ble_eq_true rfl) ?_
  refine W.eq (g2 := F0 m 16 ls [.int (nI r34), .ref h0]) rfl ?_
  refine lv_bipush (v := 11) hx hb dX12_indexed_16 (by decide) ?_
  refine lv_aload_n hx hb dX12_indexed_18 rfl (lv_at hl 1 rfl) ?_
  refine r_get (v := .ref (a 10)) hx hb hown hq hE hP 18 41 tFX12_18 (by decide) pw_1440 rfl dX12_indexed_19 ?_
  refine lv_iload_n hx hb dX12_indexed_22 rfl (lv_at hl 2 rfl) ?_
  refine r_ldi (f := (B 10)) (j := n9) hx hb hE hP 10 (ma_10 G a _) rfl (by omega) (by decide) dX12_indexed_23 ?_
  obtain ⟨⟨t38, e39, h40⟩, -⟩ := hF n9 hn9
  refine lv_topi (fun x41 e42 => ?_)
  obtain rfl : x41 = nI t38 := e42.trans e39
  have hP : va_P G.1 pCl (mW G h0 a (upd (upd (upd (upd (upd (upd (upd (upd (upd (upd F 15 (nI fa15)) 16 pl16) 44 (nI fd)) 49 (nI md)) 73 (nI sc)) 74 (nI k9)) 77 dn17) 78 wt18) 79 wf19) 15 (nI fa15)) (updA (updA (updA (updA (updA B 14 nc) 17 ty20) 18 mn21) 48 vn) 49 vt)) _ := hP
  have hD : va_D A (mW G h0 a (upd (upd (upd (upd (upd (upd (upd (upd (upd (upd F 15 (nI fa15)) 16 pl16) 44 (nI fd)) 49 (nI md)) 73 (nI sc)) 74 (nI k9)) 77 dn17) 78 wt18) 79 wf19) 15 (nI fa15)) (updA (updA (updA (updA (updA B 14 nc) 17 ty20) 18 mn21) 48 vn) 49 vt)) := mW_D hD
  refine pc_V0 (G := G) (As := [.int (nI r34), .int (nI 11), .int (nI t38)]) (rest := []) hx hb hml hown hq hE hX pX0_al hP hD hS hA hl.1 (R_judgeL l G h0 a (upd (upd (upd (upd (upd (upd (upd (upd (upd F 15 (nI fa15)) 16 pl16) 44 (nI fd)) 49 (nI md)) 73 (nI sc)) 74 (nI k9)) 77 dn17) 78 wt18) 79 wf19) (updA (updA (updA (updA (updA B 14 nc) 17 ty20) 18 mn21) 48 vn) 49 vt) r34 11 t38 fa15 (by omega) (by omega) (by omega) (by omega)) (gV pw_1798 pw_1799 pw_1800 pw_1523 pw_1793) hV_X12_judge 0 9 rfl rfl rfl rfl (Nat.le_of_ble_eq_true rfl) dX12_indexed_24 ⟨Nat.le_of_ble_eq_true rfl, Nat.le_of_ble_eq_true rfl⟩ ⟨(by show 3 + 1 ≤ (4 * z9 + 9); omega), (by show 8 + (4 + 11) + 82 ≤ (160 * z9 + 1360); omega)⟩ (fun v45 u43 H locs hw44 hP hD hS => ?_)
  obtain ⟨r46, fa47, pl48⟩ := u43
  obtain ⟨hw44, h49, h50, h51, h52, h53, h54, h55⟩ := hw44
  replace h49 : r46 ≤ 1 := h49
  replace h50 : fa15 ≤ fa47 := h50
  replace h51 : fa47 ≤ 15 := h51
  replace h52 : fa47 + 15 * r46 ≤ 15 := h52
  replace h53 : 1 ≤ r46 + fa47 := h53
  replace h54 : 1 ≤ r34 + fa47 := h54
  replace h55 : fa47 ≤ fa15 + 15 * (1 - r34) := h55
  obtain rfl : v45 = some (.int (nI r46)) := hw44
  have hP : va_P G.1 pCl (mW G h0 a (upd (upd (upd (upd (upd (upd (upd (upd (upd F 15 (nI fa47)) 16 pl48) 44 (nI fd)) 49 (nI md)) 73 (nI sc)) 74 (nI k9)) 77 dn17) 78 wt18) 79 wf19) (updA (updA (updA (updA (updA B 14 nc) 17 ty20) 18 mn21) 48 vn) 49 vt)) _ := mW_to (F := F) (l1 := [(15, (nI fa15)), (16, pl16), (44, (nI fd)), (49, (nI md)), (73, (nI sc)), (74, (nI k9)), (77, dn17), (78, wt18), (79, wf19), (15, (nI fa47)), (16, pl48)]) (l2 := [(15, (nI fa47)), (16, pl48), (44, (nI fd)), (49, (nI md)), (73, (nI sc)), (74, (nI k9)), (77, dn17), (78, wt18), (79, wf19)]) (V := [(nI fa47), pl48, (nI fd), (nI md), (nI sc), (nI k9), dn17, wt18, wf19, (nI fa47), pl48, (nI fa47), pl48, (nI fd), (nI md), (nI sc), (nI k9), dn17, wt18, wf19]) rfl rfl rfl hP
  have hD : va_D A (mW G h0 a (upd (upd (upd (upd (upd (upd (upd (upd (upd F 15 (nI fa47)) 16 pl48) 44 (nI fd)) 49 (nI md)) 73 (nI sc)) 74 (nI k9)) 77 dn17) 78 wt18) 79 wf19) (updA (updA (updA (updA (updA B 14 nc) 17 ty20) 18 mn21) 48 vn) 49 vt)) := mW_D hD
  refine W.widen (k := 0) (n := 0) (Nat.le_of_ble_eq_true rfl) (Nat.le_of_ble_eq_true rfl) ?_
  refine W.eq (g2 := F0 m 27 ls [.int (nI r46)]) rfl ?_
  refine lv_pop hx hb dX12_indexed_27 rfl ?_
  refine lv_aload_n hx hb dX12_indexed_28 rfl (lv_at hl 1 rfl) ?_
  refine lv_aload_n hx hb dX12_indexed_29 rfl (lv_at hl 1 rfl) ?_
  refine r_get (v := .ref (a 13)) hx hb hown hq hE hP 21 50 tFX12_21 (by decide) pw_1443 rfl dX12_indexed_30 ?_
  refine lv_iload_n hx hb dX12_indexed_33 rfl (lv_at hl 2 rfl) ?_
  refine r_ldi (f := (B 13)) (j := n9) hx hb hE hP 13 (ma_13 G a _) rfl (by omega) (by decide) dX12_indexed_34 ?_
  obtain ⟨c56, e57, h58, hp59, h60, hc61, hh62, hg63⟩ := Fs2.kid (kk := 15) (s := 2) hF hn9 hkd (by decide) (by decide) (by decide) (by decide) (by omega)
  refine lv_topi (fun x64 e65 => ?_)
  obtain rfl : x64 = nI c56 := e65.trans e57
  refine lv_iconst (v := 1) hx hb dX12_indexed_35 (by decide) ?_
  have hP : va_P G.1 pCl (mW G h0 a (upd (upd (upd (upd (upd (upd (upd (upd (upd (upd (upd (upd (upd (upd (upd (upd (upd F 15 (nI fa47)) 16 pl48) 44 (nI fd)) 49 (nI md)) 73 (nI sc)) 74 (nI k9)) 77 dn17) 78 wt18) 79 wf19) 15 (nI fa47)) 44 (nI fd)) 49 (nI md)) 73 (nI sc)) 74 (nI k9)) 77 dn17) 78 wt18) 79 wf19) (updA (updA (updA (updA (updA B 14 nc) 17 ty20) 18 mn21) 48 vn) 49 vt)) _ := mW_to (F := F) (l1 := [(15, (nI fa47)), (16, pl48), (44, (nI fd)), (49, (nI md)), (73, (nI sc)), (74, (nI k9)), (77, dn17), (78, wt18), (79, wf19)]) (l2 := [(15, (nI fa47)), (16, pl48), (44, (nI fd)), (49, (nI md)), (73, (nI sc)), (74, (nI k9)), (77, dn17), (78, wt18), (79, wf19), (15, (nI fa47)), (44, (nI fd)), (49, (nI md)), (73, (nI sc)), (74, (nI k9)), (77, dn17), (78, wt18), (79, wf19)]) (V := [(nI fa47), pl48, (nI fd), (nI md), (nI sc), (nI k9), dn17, wt18, wf19, (nI fa47), pl48, (nI fd), (nI md), (nI sc), (nI k9), dn17, wt18, wf19, (nI fa47), (nI fd), (nI md), (nI sc), (nI k9), dn17, wt18, wf19]) rfl rfl rfl hP
  have hD : va_D A (mW G h0 a (upd (upd (upd (upd (upd (upd (upd (upd (upd (upd (upd (upd (upd (upd (upd (upd (upd F 15 (nI fa47)) 16 pl48) 44 (nI fd)) 49 (nI md)) 73 (nI sc)) 74 (nI k9)) 77 dn17) 78 wt18) 79 wf19) 15 (nI fa47)) 44 (nI fd)) 49 (nI md)) 73 (nI sc)) 74 (nI k9)) 77 dn17) 78 wt18) 79 wf19) (updA (updA (updA (updA (updA B 14 nc) 17 ty20) 18 mn21) 48 vn) 49 vt)) := mW_D hD
  refine pc_V0 (G := G) (As := [.int (nI c56), .int (nI 1)]) (rest := []) hx hb hml hown hq hE hX pX0_al hP hD hS hA hl.1 (ihW h0 a (upd (upd (upd (upd (upd (upd (upd (upd (upd F 15 (nI fa47)) 16 pl48) 44 (nI fd)) 49 (nI md)) 73 (nI sc)) 74 (nI k9)) 77 dn17) 78 wt18) 79 wf19) B c56 fa47 sc k9 nd T nm wr lz dc fd md pr bk gh dn17 wt18 wf19 nc ty20 mn21 vn vt 1 hst hnm h58 (by omega) (by omega) (by omega) hk9 hnc h27 hvt (show kcl 1 _ = true from hc61) (by omega)) (gV pw_1826 pw_1827 pw_1828 pw_1523 pw_1865) hV_X12_wants 0 9 rfl rfl rfl rfl (Nat.le_of_ble_eq_true rfl) dX12_indexed_36 ⟨Nat.le_of_ble_eq_true rfl, Nat.le_of_ble_eq_true rfl⟩ ⟨(by show (4 * (z9 - 1) + 12) + 1 ≤ (4 * z9 + 9); omega), (by show 8 + (4 + 11) + (160 * (z9 - 1) + 1480) ≤ (160 * z9 + 1360); omega)⟩ (fun v68 u66 H locs hw67 hP hD hS => ?_)
  obtain ⟨fa69, pl70, dn71, wt72, wf73, ty74, mn75⟩ := u66
  obtain ⟨hw67, h76, h77, h78, h79, h80⟩ := hw67
  replace h76 : fa47 ≤ fa69 := h76
  replace h77 : fa69 ≤ 15 := h77
  replace h78 : ChE B nd c56 ty20 ty74 mn21 mn75 := h78
  replace h79 : mnN B nd mn75 := h79
  replace h80 : If (fa69 = 0) (Typ B dc fd md nd ty74 mn75 vt sc k9 c56 ∧ ty74 c56 = nI 1) := h80
  obtain rfl : v68 = none := hw67
  have hP : va_P G.1 pCl (mW G h0 a (upd (upd (upd (upd (upd (upd (upd (upd (upd F 15 (nI fa69)) 16 pl70) 44 (nI fd)) 49 (nI md)) 73 (nI sc)) 74 (nI k9)) 77 dn71) 78 wt72) 79 wf73) (updA (updA (updA (updA (updA B 14 nc) 17 ty74) 18 mn75) 48 vn) 49 vt)) _ := mW_to (F := F) (l1 := [(15, (nI fa47)), (16, pl48), (44, (nI fd)), (49, (nI md)), (73, (nI sc)), (74, (nI k9)), (77, dn17), (78, wt18), (79, wf19), (15, (nI fa69)), (16, pl70), (44, (nI fd)), (49, (nI md)), (73, (nI sc)), (74, (nI k9)), (77, dn71), (78, wt72), (79, wf73)]) (l2 := [(15, (nI fa69)), (16, pl70), (44, (nI fd)), (49, (nI md)), (73, (nI sc)), (74, (nI k9)), (77, dn71), (78, wt72), (79, wf73)]) (V := [(nI fa69), pl70, (nI fd), (nI md), (nI sc), (nI k9), dn71, wt72, wf73, (nI fa69), pl70, (nI fd), (nI md), (nI sc), (nI k9), dn71, wt72, wf73, (nI fa69), pl70, (nI fd), (nI md), (nI sc), (nI k9), dn71, wt72, wf73]) rfl rfl rfl hP
  have hD : va_D A (mW G h0 a (upd (upd (upd (upd (upd (upd (upd (upd (upd F 15 (nI fa69)) 16 pl70) 44 (nI fd)) 49 (nI md)) 73 (nI sc)) 74 (nI k9)) 77 dn71) 78 wt72) 79 wf73) (updA (updA (updA (updA (updA B 14 nc) 17 ty74) 18 mn75) 48 vn) 49 vt)) := mW_D hD
  refine W.widen (k := 0) (n := 0) (Nat.le_of_ble_eq_true rfl) (Nat.le_of_ble_eq_true rfl) ?_
  refine W.eq (g2 := F0 m 39 ls []) rfl ?_
  have hch81 : ChE B nd n9 ty ty74 mn mn75 := (ChE.trans hch30 (ChE.kid h78 (by omega) hp59))
  have hy82 : If (fa15 = 0) (Typ B dc fd md nd ty74 mn75 vt sc k9 c1) := (fun e => Typ.beside hF (by omega) hn9 (h28 e) h3 h58 hp4 hp59 (fun e => by have z := hg8; rw [e] at z; have := hg63; omega) h78)
  have ht83 : ty74 c1 = nI r14 := ((ChE.at hF (by omega) hn9 h3 h58 hp4 hp59 (fun e => by have z := hg8; rw [e] at z; have := hg63; omega) h78).trans h29)
  refine lv_aload_n hx hb dX12_indexed_39 rfl (lv_at hl 1 rfl) ?_
  refine r_get (v := .int (nI fa69)) hx hb hown hq hE hP 15 350 tFX12_15 (by decide) pw_1594 rfl dX12_indexed_40 ?_
  refine lv_if_ne (tgt := 54) hx hb dX12_indexed_43 (by decide) (fun c84 => ?_) (fun c84 => ?_)
  · have n85 : ¬ (fa69 = 0) := fun h9 => c84 ((nI_eq (a := fa69) (b := 0) (by omega) (by omega)).mpr h9)
    refine lv_iconst (v := 1) hx hb dX12_indexed_54 (by decide) ?_
    have hz86 : fa ≤ fa69 := (by omega)
    have hz87 : fa69 ≤ 15 := (by omega)
    have hz88 : TyC dc 1 := (by unfold TyC; omega)
    have hz89 : 1 ≤ 2050 := (by omega)
    have hz90 : ChE B nd n9 ty ty74 mn mn75 := hch81
    have hz91 : mnN B nd mn75 := h79
    have hz92 : If (fa69 = 0) (Typ0 B dc fd md nd ty74 mn75 vt sc k9 n9 (nI 1)) := (fun e => absurd e (by omega))
    have hP : va_P G.1 pCl (mW G h0 a (upd (upd (upd (upd (upd (upd (upd (upd (upd F 15 (nI fa69)) 16 pl70) 44 (nI fd)) 49 (nI md)) 73 (nI sc)) 74 (nI k9)) 77 dn71) 78 wt72) 79 wf73) (updA (updA (updA (updA (updA B 14 nc) 17 ty74) 18 mn75) 48 vn) 49 vt)) _ := hP
    have hD : va_D A (mW G h0 a (upd (upd (upd (upd (upd (upd (upd (upd (upd F 15 (nI fa69)) 16 pl70) 44 (nI fd)) 49 (nI md)) 73 (nI sc)) 74 (nI k9)) 77 dn71) 78 wt72) 79 wf73) (updA (updA (updA (updA (updA B 14 nc) 17 ty74) 18 mn75) 48 vn) 49 vt)) := mW_D hD
    exact W.iret (v := 1) hx hb hr (fun t9 ht9 hW9 => ⟨⟨_, (1, fa69, pl70, dn71, wt72, wf73, ty74, mn75), rfl, ⟨rfl, hz86, hz87, hz88, hz89, hz90, hz91, hz92⟩, by rw [ht9]; exact hP, hD⟩, hS.F ht9⟩) hS.2.2 dX12_indexed_55
  · have n93 : fa69 = 0 := (nI_eq (a := fa69) (b := 0) (by omega) (by omega)).mp c84
    refine lv_iload_n hx hb dX12_indexed_46 rfl (lv_at hl 0 rfl) ?_
    refine lv_sipush (v := 1000) hx hb dX12_indexed_47 (by decide) ?_
    refine lv_isub hx hb dX12_indexed_50 ?_
    refine lv_topi (fun x94 e95 => ?_)
    obtain rfl : x94 = nI (r14 - 1000) := e95.trans (nI_subN (a := 1000) (b := r14) (by omega))
    refine lv_goto (tgt := 55) hx hb dX12_indexed_51 (by decide) ?_
    have hz96 : fa ≤ fa69 := (by omega)
    have hz97 : fa69 ≤ 15 := (by omega)
    have hz98 : TyC dc (r14 - 1000) := (TyC.dn h24 (by omega) (by omega))
    have hz99 : (r14 - 1000) ≤ 2050 := (by omega)
    have hz100 : ChE B nd n9 ty ty74 mn mn75 := hch81
    have hz101 : mnN B nd mn75 := h79
    have hz102 : If (fa69 = 0) (Typ0 B dc fd md nd ty74 mn75 vt sc k9 n9 (nI (r14 - 1000))) := (fun e => Typ0.of (kids (kk := 15) (c1 := c1) (c2 := c56) (c3 := c1) hkd (by decide) ⟨by omega, by omega, by omega⟩ (Or.inr ⟨by decide, e2⟩) (Or.inr ⟨by decide, e57⟩) (Or.inl (by decide)) (by decide) (hy82 (by omega)) ((fun e => (h80 e).1) (by omega)) (hy82 (by omega))) (LT15 hkd hh7 hh62 ht83 (by omega) (by omega) (h80 (by omega)).2))
    have hP : va_P G.1 pCl (mW G h0 a (upd (upd (upd (upd (upd (upd (upd (upd (upd F 15 (nI fa69)) 16 pl70) 44 (nI fd)) 49 (nI md)) 73 (nI sc)) 74 (nI k9)) 77 dn71) 78 wt72) 79 wf73) (updA (updA (updA (updA (updA B 14 nc) 17 ty74) 18 mn75) 48 vn) 49 vt)) _ := hP
    have hD : va_D A (mW G h0 a (upd (upd (upd (upd (upd (upd (upd (upd (upd F 15 (nI fa69)) 16 pl70) 44 (nI fd)) 49 (nI md)) 73 (nI sc)) 74 (nI k9)) 77 dn71) 78 wt72) 79 wf73) (updA (updA (updA (updA (updA B 14 nc) 17 ty74) 18 mn75) 48 vn) 49 vt)) := mW_D hD
    exact W.iret (v := (nI (r14 - 1000))) hx hb hr (fun t9 ht9 hW9 => ⟨⟨_, ((r14 - 1000), fa69, pl70, dn71, wt72, wf73, ty74, mn75), rfl, ⟨rfl, hz96, hz97, hz98, hz99, hz100, hz101, hz102⟩, by rw [ht9]; exact hP, hD⟩, hS.F ht9⟩) hS.2.2 dX12_indexed_55
theorem dX12_lookFront_0 : decode cX12_lookFront 0 = .ok (.aload_n 0, 1) := by decide +kernel
theorem dX12_lookFront_1 : decode cX12_lookFront 1 = .ok (.getfield 16, 3) := by decide +kernel
theorem dX12_lookFront_4 : decode cX12_lookFront 4 = .ok (.aload_n 0, 1) := by decide +kernel
theorem dX12_lookFront_5 : decode cX12_lookFront 5 = .ok (.getfield 44, 3) := by decide +kernel
theorem dX12_lookFront_8 : decode cX12_lookFront 8 = .ok (.iload_n 1, 1) := by decide +kernel
theorem dX12_lookFront_9 : decode cX12_lookFront 9 = .ok (.iaload, 1) := by decide +kernel
theorem dX12_lookFront_10 : decode cX12_lookFront 10 = .ok (.iaload, 1) := by decide +kernel
theorem dX12_lookFront_11 : decode cX12_lookFront 11 = .ok (.bipush 33, 2) := by decide +kernel
theorem dX12_lookFront_13 : decode cX12_lookFront 13 = .ok (.if_icmp .ne 7, 3) := by decide +kernel
theorem dX12_lookFront_20 : decode cX12_lookFront 20 = .ok (.iconst 0, 1) := by decide +kernel
theorem dX12_lookFront_21 : decode cX12_lookFront 21 = .ok (.istore_n 2, 1) := by decide +kernel
theorem dX12_lookFront_22 : decode cX12_lookFront 22 = .ok (.aload_n 0, 1) := by decide +kernel
theorem dX12_lookFront_23 : decode cX12_lookFront 23 = .ok (.aload_n 0, 1) := by decide +kernel
theorem dX12_lookFront_24 : decode cX12_lookFront 24 = .ok (.getfield 47, 3) := by decide +kernel
theorem dX12_lookFront_27 : decode cX12_lookFront 27 = .ok (.iload_n 1, 1) := by decide +kernel
theorem dX12_lookFront_28 : decode cX12_lookFront 28 = .ok (.iaload, 1) := by decide +kernel
theorem dX12_lookFront_29 : decode cX12_lookFront 29 = .ok (.invokevirtual 548, 3) := by decide +kernel
theorem dX12_lookFront_32 : decode cX12_lookFront 32 = .ok (.istore_n 3, 1) := by decide +kernel
theorem dX12_lookFront_33 : decode cX12_lookFront 33 = .ok (.aload_n 0, 1) := by decide +kernel
theorem dX12_lookFront_34 : decode cX12_lookFront 34 = .ok (.getfield 62, 3) := by decide +kernel
theorem dX12_lookFront_37 : decode cX12_lookFront 37 = .ok (.aload_n 0, 1) := by decide +kernel
theorem dX12_lookFront_38 : decode cX12_lookFront 38 = .ok (.getfield 47, 3) := by decide +kernel
theorem dX12_lookFront_41 : decode cX12_lookFront 41 = .ok (.iload_n 1, 1) := by decide +kernel
theorem dX12_lookFront_42 : decode cX12_lookFront 42 = .ok (.iaload, 1) := by decide +kernel
theorem dX12_lookFront_43 : decode cX12_lookFront 43 = .ok (.iload_n 3, 1) := by decide +kernel
theorem dX12_lookFront_44 : decode cX12_lookFront 44 = .ok (.iastore, 1) := by decide +kernel
theorem dX12_lookFront_45 : decode cX12_lookFront 45 = .ok (.aload_n 0, 1) := by decide +kernel
theorem dX12_lookFront_46 : decode cX12_lookFront 46 = .ok (.iload_n 3, 1) := by decide +kernel
theorem dX12_lookFront_47 : decode cX12_lookFront 47 = .ok (.iload_n 2, 1) := by decide +kernel
theorem dX12_lookFront_48 : decode cX12_lookFront 48 = .ok (.ifCond .eq 7, 3) := by decide +kernel
theorem dX12_lookFront_55 : decode cX12_lookFront 55 = .ok (.iconst 1, 1) := by decide +kernel
theorem dX12_lookFront_56 : decode cX12_lookFront 56 = .ok (.if_icmp .ne 7, 3) := by decide +kernel
theorem dX12_lookFront_63 : decode cX12_lookFront 63 = .ok (.iconst 0, 1) := by decide +kernel
theorem dX12_lookFront_64 : decode cX12_lookFront 64 = .ok (.bipush 11, 2) := by decide +kernel
theorem dX12_lookFront_66 : decode cX12_lookFront 66 = .ok (.aload_n 0, 1) := by decide +kernel
theorem dX12_lookFront_67 : decode cX12_lookFront 67 = .ok (.getfield 41, 3) := by decide +kernel
theorem dX12_lookFront_70 : decode cX12_lookFront 70 = .ok (.aload_n 0, 1) := by decide +kernel
theorem dX12_lookFront_71 : decode cX12_lookFront 71 = .ok (.getfield 47, 3) := by decide +kernel
theorem dX12_lookFront_74 : decode cX12_lookFront 74 = .ok (.iload_n 1, 1) := by decide +kernel
theorem dX12_lookFront_75 : decode cX12_lookFront 75 = .ok (.iaload, 1) := by decide +kernel
theorem dX12_lookFront_76 : decode cX12_lookFront 76 = .ok (.iaload, 1) := by decide +kernel
theorem dX12_lookFront_77 : decode cX12_lookFront 77 = .ok (.invokevirtual 540, 3) := by decide +kernel
theorem dX12_lookFront_80 : decode cX12_lookFront 80 = .ok (.pop, 1) := by decide +kernel
theorem dX12_lookFront_81 : decode cX12_lookFront 81 = .ok (.iload_n 2, 1) := by decide +kernel
theorem dX12_lookFront_82 : decode cX12_lookFront 82 = .ok (.ifCond .ne 5, 3) := by decide +kernel
theorem dX12_lookFront_85 : decode cX12_lookFront 85 = .ok (.iload_n 3, 1) := by decide +kernel
theorem dX12_lookFront_86 : decode cX12_lookFront 86 = .ok (.ireturn, 1) := by decide +kernel
theorem dX12_lookFront_59 : decode cX12_lookFront 59 = .ok (.iconst 1, 1) := by decide +kernel
theorem dX12_lookFront_60 : decode cX12_lookFront 60 = .ok (.goto 4, 3) := by decide +kernel
theorem dX12_lookFront_16 : decode cX12_lookFront 16 = .ok (.iconst 1, 1) := by decide +kernel
theorem dX12_lookFront_17 : decode cX12_lookFront 17 = .ok (.goto 4, 3) := by decide +kernel
theorem dX12_lookFront_51 : decode cX12_lookFront 51 = .ok (.iconst 2, 1) := by decide +kernel
theorem dX12_lookFront_52 : decode cX12_lookFront 52 = .ok (.goto 4, 3) := by decide +kernel
theorem dX12_lookFront_87 : decode cX12_lookFront 87 = .ok (.aload_n 0, 1) := by decide +kernel
theorem dX12_lookFront_88 : decode cX12_lookFront 88 = .ok (.getfield 551, 3) := by decide +kernel
theorem dX12_lookFront_91 : decode cX12_lookFront 91 = .ok (.istore 4, 2) := by decide +kernel
theorem dX12_lookFront_93 : decode cX12_lookFront 93 = .ok (.aload_n 0, 1) := by decide +kernel
theorem dX12_lookFront_94 : decode cX12_lookFront 94 = .ok (.aload_n 0, 1) := by decide +kernel
theorem dX12_lookFront_95 : decode cX12_lookFront 95 = .ok (.getfield 554, 3) := by decide +kernel
theorem dX12_lookFront_98 : decode cX12_lookFront 98 = .ok (.putfield 551, 3) := by decide +kernel
theorem dX12_lookFront_101 : decode cX12_lookFront 101 = .ok (.aload_n 0, 1) := by decide +kernel
theorem dX12_lookFront_102 : decode cX12_lookFront 102 = .ok (.iload 4, 2) := by decide +kernel
theorem dX12_lookFront_104 : decode cX12_lookFront 104 = .ok (.putfield 554, 3) := by decide +kernel
theorem dX12_lookFront_107 : decode cX12_lookFront 107 = .ok (.iload_n 3, 1) := by decide +kernel
theorem dX12_lookFront_108 : decode cX12_lookFront 108 = .ok (.ireturn, 1) := by decide +kernel
set_option maxHeartbeats 6000000 in
set_option maxRecDepth 100000 in
/-- lookFront(n) -/
theorem L_lookFront (l : Launch) (G : pT) (h0 : Nat) (a : Nat → Nat) (F : Nat → Int32) (B : Nat → Nat → Int32) (n9 : Nat) (z9 : Nat) (fa : Nat) (sc : Nat) (k9 : Nat) (nd : Nat) (T : Nat) (nm : Nat) (wr : Nat) (lz : Nat) (dc : Nat) (fd : Nat) (md : Nat) (pr : Nat) (bk : Nat) (gh : Nat → Nat → Nat) (dn : Int32) (wt : Int32) (wf : Int32) (nc : Nat → Int32) (ty : Nat → Int32) (mn : Nat → Int32) (vn : Nat → Int32) (vt : Nat → Int32) (hst : St B gh nd T nm wr lz dc fd md pr bk) (hnm : nd ≤ 12000 ∧ T ≤ 5000 ∧ wr ≤ 5000 ∧ 7 ≤ dc ∧ dc ≤ 37 ∧ fd ≤ 620 ∧ md ≤ 920 ∧ pr ≤ 5000) (hn9 : n9 < nd) (hz : gh 1 n9 < z9) (hfa : fa ≤ 15) (hsc : sc ≤ 30) (hk9 : 7 ≤ k9 ∧ k9 < dc) (hnc : ∀ i : Nat, i < nd → ¬ B 9 i = 44 → nc i = B 14 i) (hmn : mnN B nd mn) (hvt : ∀ i : Nat, i < sc → tyOK dc (vt i)) (hkd : B 9 n9 = nI 17) (ihA : PlookAt l G (z9 - 1)) : PM l G pX0 yX12_lookFront cX12_lookFront 5 (some .int) ({ frames := (4 * z9 + 9), cells := 0, slots := 0, locals := (160 * z9 + 1360) }) [.ref h0, .int (nI n9)] (mW G h0 a (upd (upd (upd (upd (upd (upd (upd (upd F 15 (nI fa)) 44 (nI fd)) 49 (nI md)) 73 (nI sc)) 74 (nI k9)) 77 dn) 78 wt) 79 wf) (updA (updA (updA (updA (updA B 14 nc) 17 ty) 18 mn) 48 vn) 49 vt)) (fun (v : Option Value) (u : Nat × Nat × Int32 × Int32 × Int32 × Int32 × (Nat → Int32) × (Nat → Int32)) => v = some (.int (nI u.1)) ∧ (fa ≤ u.2.1) ∧ (u.2.1 ≤ 15) ∧ (TyC dc u.1) ∧ (u.1 ≤ 2050) ∧ (ChE B nd n9 ty u.2.2.2.2.2.2.1 mn u.2.2.2.2.2.2.2) ∧ (mnN B nd u.2.2.2.2.2.2.2) ∧ (If (u.2.1 = 0) (Typ0 B dc fd md nd u.2.2.2.2.2.2.1 u.2.2.2.2.2.2.2 vt sc k9 n9 (nI u.1)))) (fun u => (mW G h0 a (upd (upd (upd (upd (upd (upd (upd (upd (upd F 15 (nI u.2.1)) 16 u.2.2.1) 44 (nI fd)) 49 (nI md)) 73 (nI sc)) 74 (nI k9)) 77 u.2.2.2.1) 78 u.2.2.2.2.1) 79 u.2.2.2.2.2.1) (updA (updA (updA (updA (updA B 14 nc) 17 u.2.2.2.2.2.2.1) 18 u.2.2.2.2.2.2.2) 48 vn) 49 vt))) := by
  intro sz
  refine Met.ofW (cc := cX12_lookFront) (maxL := 5) (ret := (some .int)) (by decide) rfl ?_
  intro p e s m args below meth c s₁ B9 hml hv
  obtain ⟨rfl, hsz, hP, hD0, hE, hX⟩ := hv
  have hx := B9.exec
  have hb := B9.bytes
  have hr := B9.returns
  have hts := atoms_spec (ws := Cond.code yX12_lookFront cX12_lookFront 5 (some .int) :: pw) B9.pre
  have hq : ∀ w ∈ pw, w.before _ s = true := fun w h => hts w (List.mem_cons_of_mem _ h)
  have hown : s.vm.findClass RX12 = some m.cls := findClass_of_methodNamed B9.named
  have hlocks := B9.notSynchronized
  subst hsz
  have hD := hD0.self (sz := s.heap.size)
  have hA : ∀ q : Nat, s.heap.size ≤ q → va_A (mW G h0 a (upd (upd (upd (upd (upd (upd (upd (upd F 15 (nI fa)) 44 (nI fd)) 49 (nI md)) 73 (nI sc)) 74 (nI k9)) 77 dn) 78 wt) 79 wf) (updA (updA (updA (updA (updA B 14 nc) 17 ty) 18 mn) 48 vn) 49 vt)) s.heap.size q := fun q h => Or.inr h
  have hP : va_P G.1 pCl (mW G h0 a (upd (upd (upd (upd (upd (upd (upd (upd F 15 (nI fa)) 44 (nI fd)) 49 (nI md)) 73 (nI sc)) 74 (nI k9)) 77 dn) 78 wt) 79 wf) (updA (updA (updA (updA (updA B 14 nc) 17 ty) 18 mn) 48 vn) 49 vt)) s.heap := hP
  generalize va_A (mW G h0 a (upd (upd (upd (upd (upd (upd (upd (upd F 15 (nI fa)) 44 (nI fd)) 49 (nI md)) 73 (nI sc)) 74 (nI k9)) 77 dn) 78 wt) 79 wf) (updA (updA (updA (updA (updA B 14 nc) 17 ty) 18 mn) 48 vn) 49 vt)) s.heap.size = A at hD hE hA ⊢
  have hS : va_S A s.heap s.heap [] := va_S.rf
  have hl := lv_entry ([.ref h0, .int (nI n9)]) (n := 5) (Nat.le_of_ble_eq_true rfl)
  rw [lg_entry_eq]
  generalize (lg_sl ([.ref h0, .int (nI n9)]) ++ List.replicate (5 - (lg_sl ([.ref h0, .int (nI n9)])).length) Slot.unset).toArray = ls at hl ⊢
  have hl : lv_has ls 5 [(0, .ref h0), (1, .int (nI n9))] := hl
  have hF := hst.1
  have hPS := hst.2.1
  have hBI := hst.2.2.1
  have hRK := hst.2.2.2.1
  have hTY := hst.2.2.2.2.1
  have hNW := hst.2.2.2.2.2.1
  have hTK := hst.2.2.2.2.2.2
  refine lv_aload_n hx hb dX12_lookFront_0 rfl (lv_at hl 0 rfl) ?_
  refine r_get (v := .ref (a 2)) hx hb hown hq hE hP 5 16 tFX12_5 (by decide) pw_1432 rfl dX12_lookFront_1 ?_
  refine lv_aload_n hx hb dX12_lookFront_4 rfl (lv_at hl 0 rfl) ?_
  refine r_get (v := .ref (a 11)) hx hb hown hq hE hP 19 44 tFX12_19 (by decide) pw_1441 rfl dX12_lookFront_5 ?_
  refine lv_iload_n hx hb dX12_lookFront_8 rfl (lv_at hl 1 rfl) ?_
  refine r_ldi (f := (B 11)) (j := n9) hx hb hE hP 11 (ma_11 G a _) rfl (by omega) (by decide) dX12_lookFront_9 ?_
  obtain ⟨-, ⟨t1, e2, h3, -⟩, -⟩ := hF n9 hn9
  refine lv_topi (fun x4 e5 => ?_)
  obtain rfl : x4 = nI t1 := e5.trans e2
  refine r_ldi (f := (B 2)) (j := t1) hx hb hE hP 2 (ma_2 G a _) rfl (by omega) (by decide) dX12_lookFront_10 ?_
  refine lv_bipush (v := 33) hx hb dX12_lookFront_11 (by decide) ?_
  refine lv_icmp_ne (tgt := 20) hx hb dX12_lookFront_13 (by decide) (fun c6 => ?_) (fun c6 => ?_)
  · refine lv_iconst (v := 0) hx hb dX12_lookFront_20 (by decide) ?_
    refine lv_istore_n (lv' := [(2, .int 0), (0, .ref h0), (1, .int (nI n9))]) hx hb dX12_lookFront_21 rfl hl (by decide) rfl (fun ls hl => ?_)
    refine lv_aload_n hx hb dX12_lookFront_22 rfl (lv_at hl 1 rfl) ?_
    refine lv_aload_n hx hb dX12_lookFront_23 rfl (lv_at hl 1 rfl) ?_
    refine r_get (v := .ref (a 12)) hx hb hown hq hE hP 20 47 tFX12_20 (by decide) pw_1442 rfl dX12_lookFront_24 ?_
    refine lv_iload_n hx hb dX12_lookFront_27 rfl (lv_at hl 2 rfl) ?_
    refine r_ldi (f := (B 12)) (j := n9) hx hb hE hP 12 (ma_12 G a _) rfl (by omega) (by decide) dX12_lookFront_28 ?_
    obtain ⟨c7, e8, h9, hp10, h11, hc12, hh13, hg14⟩ := Fs2.kid (kk := 17) (s := 1) hF hn9 hkd (by decide) (by decide) (by decide) (by decide) (by omega)
    refine lv_topi (fun x15 e16 => ?_)
    obtain rfl : x15 = nI c7 := e16.trans e8
    have hP : va_P G.1 pCl (mW G h0 a (upd (upd (upd (upd (upd (upd (upd (upd (upd (upd (upd (upd (upd (upd (upd (upd F 15 (nI fa)) 44 (nI fd)) 49 (nI md)) 73 (nI sc)) 74 (nI k9)) 77 dn) 78 wt) 79 wf) 15 (nI fa)) 44 (nI fd)) 49 (nI md)) 73 (nI sc)) 74 (nI k9)) 77 dn) 78 wt) 79 wf) (updA (updA (updA (updA (updA B 14 nc) 17 ty) 18 mn) 48 vn) 49 vt)) _ := mW_to (F := F) (l1 := [(15, (nI fa)), (44, (nI fd)), (49, (nI md)), (73, (nI sc)), (74, (nI k9)), (77, dn), (78, wt), (79, wf)]) (l2 := [(15, (nI fa)), (44, (nI fd)), (49, (nI md)), (73, (nI sc)), (74, (nI k9)), (77, dn), (78, wt), (79, wf), (15, (nI fa)), (44, (nI fd)), (49, (nI md)), (73, (nI sc)), (74, (nI k9)), (77, dn), (78, wt), (79, wf)]) (V := [(nI fa), (nI fd), (nI md), (nI sc), (nI k9), dn, wt, wf, (nI fa), (nI fd), (nI md), (nI sc), (nI k9), dn, wt, wf, (nI fa), (nI fd), (nI md), (nI sc), (nI k9), dn, wt, wf]) rfl rfl rfl hP
    have hD : va_D A (mW G h0 a (upd (upd (upd (upd (upd (upd (upd (upd (upd (upd (upd (upd (upd (upd (upd (upd F 15 (nI fa)) 44 (nI fd)) 49 (nI md)) 73 (nI sc)) 74 (nI k9)) 77 dn) 78 wt) 79 wf) 15 (nI fa)) 44 (nI fd)) 49 (nI md)) 73 (nI sc)) 74 (nI k9)) 77 dn) 78 wt) 79 wf) (updA (updA (updA (updA (updA B 14 nc) 17 ty) 18 mn) 48 vn) 49 vt)) := mW_D hD
    refine pc_V0 (G := G) (As := [.int (nI c7)]) (rest := []) hx hb hml hown hq hE hX pX0_al hP hD hS hA hl.1 (ihA h0 a (upd (upd (upd (upd (upd (upd (upd (upd F 15 (nI fa)) 44 (nI fd)) 49 (nI md)) 73 (nI sc)) 74 (nI k9)) 77 dn) 78 wt) 79 wf) B c7 fa sc k9 nd T nm wr lz dc fd md pr bk gh dn wt wf nc ty mn vn vt hst hnm h9 (by omega) (by omega) (by omega) hk9 hnc hmn hvt (show kcl 1 _ = true from hc12)) (gV pw_1815 pw_1816 pw_1817 pw_1523 pw_1831) hV_X12_lookAt 0 9 rfl rfl rfl rfl (Nat.le_of_ble_eq_true rfl) dX12_lookFront_29 ⟨Nat.le_of_ble_eq_true rfl, Nat.le_of_ble_eq_true rfl⟩ ⟨(by show (4 * (z9 - 1) + 10) + 1 ≤ (4 * z9 + 9); omega), (by show 8 + (3 + 11) + (160 * (z9 - 1) + 1400) ≤ (160 * z9 + 1360); omega)⟩ (fun v19 u17 H locs hw18 hP hD hS => ?_)
    obtain ⟨r20, fa21, pl22, dn23, wt24, wf25, ty26, mn27⟩ := u17
    obtain ⟨hw18, h28, h29, h30, h31, h32, h33, h34⟩ := hw18
    replace h28 : fa ≤ fa21 := h28
    replace h29 : fa21 ≤ 15 := h29
    replace h30 : TyC dc r20 := h30
    replace h31 : r20 ≤ 2050 := h31
    replace h32 : ChE B nd c7 ty ty26 mn mn27 := h32
    replace h33 : mnN B nd mn27 := h33
    replace h34 : If (fa21 = 0) (Typ0 B dc fd md nd ty26 mn27 vt sc k9 c7 (nI r20)) := h34
    obtain rfl : v19 = some (.int (nI r20)) := hw18
    have hP : va_P G.1 pCl (mW G h0 a (upd (upd (upd (upd (upd (upd (upd (upd (upd F 15 (nI fa21)) 16 pl22) 44 (nI fd)) 49 (nI md)) 73 (nI sc)) 74 (nI k9)) 77 dn23) 78 wt24) 79 wf25) (updA (updA (updA (updA (updA B 14 nc) 17 ty26) 18 mn27) 48 vn) 49 vt)) _ := mW_to (F := F) (l1 := [(15, (nI fa)), (44, (nI fd)), (49, (nI md)), (73, (nI sc)), (74, (nI k9)), (77, dn), (78, wt), (79, wf), (15, (nI fa21)), (16, pl22), (44, (nI fd)), (49, (nI md)), (73, (nI sc)), (74, (nI k9)), (77, dn23), (78, wt24), (79, wf25)]) (l2 := [(15, (nI fa21)), (16, pl22), (44, (nI fd)), (49, (nI md)), (73, (nI sc)), (74, (nI k9)), (77, dn23), (78, wt24), (79, wf25)]) (V := [(nI fa21), (nI fd), (nI md), (nI sc), (nI k9), dn23, wt24, wf25, (nI fa21), pl22, (nI fd), (nI md), (nI sc), (nI k9), dn23, wt24, wf25, (nI fa21), pl22, (nI fd), (nI md), (nI sc), (nI k9), dn23, wt24, wf25]) rfl rfl rfl hP
    have hD : va_D A (mW G h0 a (upd (upd (upd (upd (upd (upd (upd (upd (upd F 15 (nI fa21)) 16 pl22) 44 (nI fd)) 49 (nI md)) 73 (nI sc)) 74 (nI k9)) 77 dn23) 78 wt24) 79 wf25) (updA (updA (updA (updA (updA B 14 nc) 17 ty26) 18 mn27) 48 vn) 49 vt)) := mW_D hD
    refine W.widen (k := 0) (n := 0) (Nat.le_of_ble_eq_true rfl) (Nat.le_of_ble_eq_true rfl) ?_
    refine W.eq (g2 := F0 m 32 ls [.int (nI r20)]) rfl ?_
    have hch35 : ChE B nd n9 ty ty26 mn mn27 := (ChE.trans ChE.rfl (ChE.kid h32 (by omega) hp10))
    refine lv_istore_n (lv' := [(3, .int (nI r20)), (2, .int 0), (0, .ref h0), (1, .int (nI n9))]) hx hb dX12_lookFront_32 rfl hl (by decide) rfl (fun ls hl => ?_)
    refine lv_aload_n hx hb dX12_lookFront_33 rfl (lv_at hl 2 rfl) ?_
    refine r_get (v := .ref (a 17)) hx hb hown hq hE hP 25 62 tFX12_25 (by decide) pw_1447 rfl dX12_lookFront_34 ?_
    refine lv_aload_n hx hb dX12_lookFront_37 rfl (lv_at hl 2 rfl) ?_
    refine r_get (v := .ref (a 12)) hx hb hown hq hE hP 20 47 tFX12_20 (by decide) pw_1442 rfl dX12_lookFront_38 ?_
    refine lv_iload_n hx hb dX12_lookFront_41 rfl (lv_at hl 3 rfl) ?_
    refine r_ldi (f := (B 12)) (j := n9) hx hb hE hP 12 (ma_12 G a _) rfl (by omega) (by decide) dX12_lookFront_42 ?_
    refine lv_topi (fun x36 e37 => ?_)
    obtain rfl : x36 = nI c7 := e37.trans e8
    refine lv_iload_n hx hb dX12_lookFront_43 rfl (lv_at hl 0 rfl) ?_
    refine r_sti (f := ty26) (j := c7) hx hb hE hP hD hS 17 (ma_17 G a _) rfl (mas_17 G a _) (by omega) (by decide) dX12_lookFront_44 (fun H locs hP hD hS => ?_)
    have hch38 : ChE B nd c7 ty26 (upd ty26 c7 (nI r20)) mn27 mn27 := (ChE.setT sub.rfl)
    have hch39 : ChE B nd n9 ty (upd ty26 c7 (nI r20)) mn mn27 := (ChE.trans hch35 (ChE.kid hch38 (by omega) hp10))
    have hy40 : If (fa21 = 0) (Typ B dc fd md nd (upd ty26 c7 (nI r20)) mn27 vt sc k9 c7) := (fun e => Typ0.st hF (by omega) h9 (h34 e))
    have ht41 : (upd ty26 c7 (nI r20)) c7 = nI r20 := upd_eq
    refine lv_aload_n hx hb dX12_lookFront_45 rfl (lv_at hl 2 rfl) ?_
    refine lv_iload_n hx hb dX12_lookFront_46 rfl (lv_at hl 0 rfl) ?_
    refine lv_iload_n hx hb dX12_lookFront_47 rfl (lv_at hl 1 rfl) ?_
    refine lv_if_eq (tgt := 55) hx hb dX12_lookFront_48 (by decide) (fun c42 => ?_) (fun c42 => absurd c42 (by decide))
    refine lv_iconst (v := 1) hx hb dX12_lookFront_55 (by decide) ?_
    refine lv_icmp_ne (tgt := 63) hx hb dX12_lookFront_56 (by decide) (fun c43 => ?_) (fun c43 => ?_)
    · have n44 : ¬ (r20 = 1) := fun h9 => c43 ((nI_eq (a := r20) (b := 1) (by omega) (by omega)).mpr h9)
      refine lv_iconst (v := 0) hx hb dX12_lookFront_63 (by decide) ?_
      refine lv_bipush (v := 11) hx hb dX12_lookFront_64 (by decide) ?_
      refine lv_aload_n hx hb dX12_lookFront_66 rfl (lv_at hl 2 rfl) ?_
      refine r_get (v := .ref (a 10)) hx hb hown hq hE hP 18 41 tFX12_18 (by decide) pw_1440 rfl dX12_lookFront_67 ?_
      refine lv_aload_n hx hb dX12_lookFront_70 rfl (lv_at hl 2 rfl) ?_
      refine r_get (v := .ref (a 12)) hx hb hown hq hE hP 20 47 tFX12_20 (by decide) pw_1442 rfl dX12_lookFront_71 ?_
      refine lv_iload_n hx hb dX12_lookFront_74 rfl (lv_at hl 3 rfl) ?_
      refine r_ldi (f := (B 12)) (j := n9) hx hb hE hP 12 (ma_12 G a _) rfl (by omega) (by decide) dX12_lookFront_75 ?_
      refine lv_topi (fun x45 e46 => ?_)
      obtain rfl : x45 = nI c7 := e46.trans e8
      refine r_ldi (f := (B 10)) (j := c7) hx hb hE hP 10 (ma_10 G a _) rfl (by omega) (by decide) dX12_lookFront_76 ?_
      obtain ⟨⟨t47, e48, h49⟩, -⟩ := hF c7 h9
      refine lv_topi (fun x50 e51 => ?_)
      obtain rfl : x50 = nI t47 := e51.trans e48
      have hP : va_P G.1 pCl (mW G h0 a (upd (upd (upd (upd (upd (upd (upd (upd (upd (upd F 15 (nI fa21)) 16 pl22) 44 (nI fd)) 49 (nI md)) 73 (nI sc)) 74 (nI k9)) 77 dn23) 78 wt24) 79 wf25) 15 (nI fa21)) (updA (updA (updA (updA (updA B 14 nc) 17 (upd ty26 c7 (nI r20))) 18 mn27) 48 vn) 49 vt)) _ := mW_to (F := F) (l1 := [(15, (nI fa21)), (16, pl22), (44, (nI fd)), (49, (nI md)), (73, (nI sc)), (74, (nI k9)), (77, dn23), (78, wt24), (79, wf25)]) (l2 := [(15, (nI fa21)), (16, pl22), (44, (nI fd)), (49, (nI md)), (73, (nI sc)), (74, (nI k9)), (77, dn23), (78, wt24), (79, wf25), (15, (nI fa21))]) (V := [(nI fa21), pl22, (nI fd), (nI md), (nI sc), (nI k9), dn23, wt24, wf25, (nI fa21), pl22, (nI fd), (nI md), (nI sc), (nI k9), dn23, wt24, wf25, (nI fa21)]) rfl rfl (show (updA (updA (updA (updA (updA (updA B 14 nc) 17 ty26) 18 mn27) 48 vn) 49 vt) 17 (upd ty26 c7 (nI r20))) = (updA (updA (updA (updA (updA B 14 nc) 17 (upd ty26 c7 (nI r20))) 18 mn27) 48 vn) 49 vt) from updsA_eq2 (F := B) (l1 := [(14, nc), (17, ty26), (18, mn27), (48, vn), (49, vt), (17, (upd ty26 c7 (nI r20)))]) (l2 := [(14, nc), (17, (upd ty26 c7 (nI r20))), (18, mn27), (48, vn), (49, vt)]) (V := [nc, (upd ty26 c7 (nI r20)), mn27, vn, vt, (upd ty26 c7 (nI r20)), nc, (upd ty26 c7 (nI r20)), mn27, vn, vt]) rfl rfl) hP
      have hD : va_D A (mW G h0 a (upd (upd (upd (upd (upd (upd (upd (upd (upd (upd F 15 (nI fa21)) 16 pl22) 44 (nI fd)) 49 (nI md)) 73 (nI sc)) 74 (nI k9)) 77 dn23) 78 wt24) 79 wf25) 15 (nI fa21)) (updA (updA (updA (updA (updA B 14 nc) 17 (upd ty26 c7 (nI r20))) 18 mn27) 48 vn) 49 vt)) := mW_D hD
      refine pc_V0 (G := G) (As := [.int (nI 0), .int (nI 11), .int (nI t47)]) (rest := []) hx hb hml hown hq hE hX pX0_al hP hD hS hA hl.1 (R_judgeL l G h0 a (upd (upd (upd (upd (upd (upd (upd (upd (upd F 15 (nI fa21)) 16 pl22) 44 (nI fd)) 49 (nI md)) 73 (nI sc)) 74 (nI k9)) 77 dn23) 78 wt24) 79 wf25) (updA (updA (updA (updA (updA B 14 nc) 17 (upd ty26 c7 (nI r20))) 18 mn27) 48 vn) 49 vt) 0 11 t47 fa21 (by omega) (by omega) (by omega) (by omega)) (gV pw_1798 pw_1799 pw_1800 pw_1523 pw_1793) hV_X12_judge 0 9 rfl rfl rfl rfl (Nat.le_of_ble_eq_true rfl) dX12_lookFront_77 ⟨Nat.le_of_ble_eq_true rfl, Nat.le_of_ble_eq_true rfl⟩ ⟨(by show 3 + 1 ≤ (4 * z9 + 9); omega), (by show 8 + (4 + 11) + 82 ≤ (160 * z9 + 1360); omega)⟩ (fun v54 u52 H locs hw53 hP hD hS => ?_)
      obtain ⟨r55, fa56, pl57⟩ := u52
      obtain ⟨hw53, h58, h59, h60, h61, h62, h63, h64⟩ := hw53
      replace h58 : r55 ≤ 1 := h58
      replace h59 : fa21 ≤ fa56 := h59
      replace h60 : fa56 ≤ 15 := h60
      replace h61 : fa56 + 15 * r55 ≤ 15 := h61
      replace h62 : 1 ≤ r55 + fa56 := h62
      replace h63 : 1 ≤ 0 + fa56 := h63
      replace h64 : fa56 ≤ fa21 + 15 * (1 - 0) := h64
      obtain rfl : v54 = some (.int (nI r55)) := hw53
      have hP : va_P G.1 pCl (mW G h0 a (upd (upd (upd (upd (upd (upd (upd (upd (upd F 15 (nI fa56)) 16 pl57) 44 (nI fd)) 49 (nI md)) 73 (nI sc)) 74 (nI k9)) 77 dn23) 78 wt24) 79 wf25) (updA (updA (updA (updA (updA B 14 nc) 17 (upd ty26 c7 (nI r20))) 18 mn27) 48 vn) 49 vt)) _ := mW_to (F := F) (l1 := [(15, (nI fa21)), (16, pl22), (44, (nI fd)), (49, (nI md)), (73, (nI sc)), (74, (nI k9)), (77, dn23), (78, wt24), (79, wf25), (15, (nI fa56)), (16, pl57)]) (l2 := [(15, (nI fa56)), (16, pl57), (44, (nI fd)), (49, (nI md)), (73, (nI sc)), (74, (nI k9)), (77, dn23), (78, wt24), (79, wf25)]) (V := [(nI fa56), pl57, (nI fd), (nI md), (nI sc), (nI k9), dn23, wt24, wf25, (nI fa56), pl57, (nI fa56), pl57, (nI fd), (nI md), (nI sc), (nI k9), dn23, wt24, wf25]) rfl rfl rfl hP
      have hD : va_D A (mW G h0 a (upd (upd (upd (upd (upd (upd (upd (upd (upd F 15 (nI fa56)) 16 pl57) 44 (nI fd)) 49 (nI md)) 73 (nI sc)) 74 (nI k9)) 77 dn23) 78 wt24) 79 wf25) (updA (updA (updA (updA (updA B 14 nc) 17 (upd ty26 c7 (nI r20))) 18 mn27) 48 vn) 49 vt)) := mW_D hD
      refine W.widen (k := 0) (n := 0) (Nat.le_of_ble_eq_true rfl) (Nat.le_of_ble_eq_true rfl) ?_
      refine W.eq (g2 := F0 m 80 ls [.int (nI r55)]) rfl ?_
      refine lv_pop hx hb dX12_lookFront_80 rfl ?_
      refine lv_iload_n hx hb dX12_lookFront_81 rfl (lv_at hl 1 rfl) ?_
      refine lv_if_ne (tgt := 87) hx hb dX12_lookFront_82 (by decide) (fun c65 => absurd c65 (by decide)) (fun c65 => ?_)
      refine lv_iload_n hx hb dX12_lookFront_85 rfl (lv_at hl 0 rfl) ?_
      have hz66 : fa ≤ fa56 := (by omega)
      have hz67 : fa56 ≤ 15 := (by omega)
      have hz68 : TyC dc r20 := h30
      have hz69 : r20 ≤ 2050 := (by omega)
      have hz70 : ChE B nd n9 ty (upd ty26 c7 (nI r20)) mn mn27 := hch39
      have hz71 : mnN B nd mn27 := h33
      have hz72 : If (fa56 = 0) (Typ0 B dc fd md nd (upd ty26 c7 (nI r20)) mn27 vt sc k9 n9 (nI r20)) := (fun e => absurd e (by omega))
      have hP : va_P G.1 pCl (mW G h0 a (upd (upd (upd (upd (upd (upd (upd (upd (upd F 15 (nI fa56)) 16 pl57) 44 (nI fd)) 49 (nI md)) 73 (nI sc)) 74 (nI k9)) 77 dn23) 78 wt24) 79 wf25) (updA (updA (updA (updA (updA B 14 nc) 17 (upd ty26 c7 (nI r20))) 18 mn27) 48 vn) 49 vt)) _ := hP
      have hD : va_D A (mW G h0 a (upd (upd (upd (upd (upd (upd (upd (upd (upd F 15 (nI fa56)) 16 pl57) 44 (nI fd)) 49 (nI md)) 73 (nI sc)) 74 (nI k9)) 77 dn23) 78 wt24) 79 wf25) (updA (updA (updA (updA (updA B 14 nc) 17 (upd ty26 c7 (nI r20))) 18 mn27) 48 vn) 49 vt)) := mW_D hD
      exact W.iret (v := (nI r20)) hx hb hr (fun t9 ht9 hW9 => ⟨⟨_, (r20, fa56, pl57, dn23, wt24, wf25, (upd ty26 c7 (nI r20)), mn27), rfl, ⟨rfl, hz66, hz67, hz68, hz69, hz70, hz71, hz72⟩, by rw [ht9]; exact hP, hD⟩, hS.F ht9⟩) hS.2.2 dX12_lookFront_86
    · have n73 : r20 = 1 := (nI_eq (a := r20) (b := 1) (by omega) (by omega)).mp c43
      refine lv_iconst (v := 1) hx hb dX12_lookFront_59 (by decide) ?_
      refine lv_goto (tgt := 64) hx hb dX12_lookFront_60 (by decide) ?_
      refine lv_bipush (v := 11) hx hb dX12_lookFront_64 (by decide) ?_
      refine lv_aload_n hx hb dX12_lookFront_66 rfl (lv_at hl 2 rfl) ?_
      refine r_get (v := .ref (a 10)) hx hb hown hq hE hP 18 41 tFX12_18 (by decide) pw_1440 rfl dX12_lookFront_67 ?_
      refine lv_aload_n hx hb dX12_lookFront_70 rfl (lv_at hl 2 rfl) ?_
      refine r_get (v := .ref (a 12)) hx hb hown hq hE hP 20 47 tFX12_20 (by decide) pw_1442 rfl dX12_lookFront_71 ?_
      refine lv_iload_n hx hb dX12_lookFront_74 rfl (lv_at hl 3 rfl) ?_
      refine r_ldi (f := (B 12)) (j := n9) hx hb hE hP 12 (ma_12 G a _) rfl (by omega) (by decide) dX12_lookFront_75 ?_
      refine lv_topi (fun x74 e75 => ?_)
      obtain rfl : x74 = nI c7 := e75.trans e8
      refine r_ldi (f := (B 10)) (j := c7) hx hb hE hP 10 (ma_10 G a _) rfl (by omega) (by decide) dX12_lookFront_76 ?_
      obtain ⟨⟨t76, e77, h78⟩, -⟩ := hF c7 h9
      refine lv_topi (fun x79 e80 => ?_)
      obtain rfl : x79 = nI t76 := e80.trans e77
      have hP : va_P G.1 pCl (mW G h0 a (upd (upd (upd (upd (upd (upd (upd (upd (upd (upd F 15 (nI fa21)) 16 pl22) 44 (nI fd)) 49 (nI md)) 73 (nI sc)) 74 (nI k9)) 77 dn23) 78 wt24) 79 wf25) 15 (nI fa21)) (updA (updA (updA (updA (updA B 14 nc) 17 (upd ty26 c7 (nI r20))) 18 mn27) 48 vn) 49 vt)) _ := mW_to (F := F) (l1 := [(15, (nI fa21)), (16, pl22), (44, (nI fd)), (49, (nI md)), (73, (nI sc)), (74, (nI k9)), (77, dn23), (78, wt24), (79, wf25)]) (l2 := [(15, (nI fa21)), (16, pl22), (44, (nI fd)), (49, (nI md)), (73, (nI sc)), (74, (nI k9)), (77, dn23), (78, wt24), (79, wf25), (15, (nI fa21))]) (V := [(nI fa21), pl22, (nI fd), (nI md), (nI sc), (nI k9), dn23, wt24, wf25, (nI fa21), pl22, (nI fd), (nI md), (nI sc), (nI k9), dn23, wt24, wf25, (nI fa21)]) rfl rfl (show (updA (updA (updA (updA (updA (updA B 14 nc) 17 ty26) 18 mn27) 48 vn) 49 vt) 17 (upd ty26 c7 (nI r20))) = (updA (updA (updA (updA (updA B 14 nc) 17 (upd ty26 c7 (nI r20))) 18 mn27) 48 vn) 49 vt) from updsA_eq2 (F := B) (l1 := [(14, nc), (17, ty26), (18, mn27), (48, vn), (49, vt), (17, (upd ty26 c7 (nI r20)))]) (l2 := [(14, nc), (17, (upd ty26 c7 (nI r20))), (18, mn27), (48, vn), (49, vt)]) (V := [nc, (upd ty26 c7 (nI r20)), mn27, vn, vt, (upd ty26 c7 (nI r20)), nc, (upd ty26 c7 (nI r20)), mn27, vn, vt]) rfl rfl) hP
      have hD : va_D A (mW G h0 a (upd (upd (upd (upd (upd (upd (upd (upd (upd (upd F 15 (nI fa21)) 16 pl22) 44 (nI fd)) 49 (nI md)) 73 (nI sc)) 74 (nI k9)) 77 dn23) 78 wt24) 79 wf25) 15 (nI fa21)) (updA (updA (updA (updA (updA B 14 nc) 17 (upd ty26 c7 (nI r20))) 18 mn27) 48 vn) 49 vt)) := mW_D hD
      refine pc_V0 (G := G) (As := [.int (nI 1), .int (nI 11), .int (nI t76)]) (rest := []) hx hb hml hown hq hE hX pX0_al hP hD hS hA hl.1 (R_judgeL l G h0 a (upd (upd (upd (upd (upd (upd (upd (upd (upd F 15 (nI fa21)) 16 pl22) 44 (nI fd)) 49 (nI md)) 73 (nI sc)) 74 (nI k9)) 77 dn23) 78 wt24) 79 wf25) (updA (updA (updA (updA (updA B 14 nc) 17 (upd ty26 c7 (nI r20))) 18 mn27) 48 vn) 49 vt) 1 11 t76 fa21 (by omega) (by omega) (by omega) (by omega)) (gV pw_1798 pw_1799 pw_1800 pw_1523 pw_1793) hV_X12_judge 0 9 rfl rfl rfl rfl (Nat.le_of_ble_eq_true rfl) dX12_lookFront_77 ⟨Nat.le_of_ble_eq_true rfl, Nat.le_of_ble_eq_true rfl⟩ ⟨(by show 3 + 1 ≤ (4 * z9 + 9); omega), (by show 8 + (4 + 11) + 82 ≤ (160 * z9 + 1360); omega)⟩ (fun v83 u81 H locs hw82 hP hD hS => ?_)
      obtain ⟨r84, fa85, pl86⟩ := u81
      obtain ⟨hw82, h87, h88, h89, h90, h91, h92, h93⟩ := hw82
      replace h87 : r84 ≤ 1 := h87
      replace h88 : fa21 ≤ fa85 := h88
      replace h89 : fa85 ≤ 15 := h89
      replace h90 : fa85 + 15 * r84 ≤ 15 := h90
      replace h91 : 1 ≤ r84 + fa85 := h91
      replace h92 : 1 ≤ 1 + fa85 := h92
      replace h93 : fa85 ≤ fa21 + 15 * (1 - 1) := h93
      obtain rfl : v83 = some (.int (nI r84)) := hw82
      have hP : va_P G.1 pCl (mW G h0 a (upd (upd (upd (upd (upd (upd (upd (upd (upd F 15 (nI fa85)) 16 pl86) 44 (nI fd)) 49 (nI md)) 73 (nI sc)) 74 (nI k9)) 77 dn23) 78 wt24) 79 wf25) (updA (updA (updA (updA (updA B 14 nc) 17 (upd ty26 c7 (nI r20))) 18 mn27) 48 vn) 49 vt)) _ := mW_to (F := F) (l1 := [(15, (nI fa21)), (16, pl22), (44, (nI fd)), (49, (nI md)), (73, (nI sc)), (74, (nI k9)), (77, dn23), (78, wt24), (79, wf25), (15, (nI fa85)), (16, pl86)]) (l2 := [(15, (nI fa85)), (16, pl86), (44, (nI fd)), (49, (nI md)), (73, (nI sc)), (74, (nI k9)), (77, dn23), (78, wt24), (79, wf25)]) (V := [(nI fa85), pl86, (nI fd), (nI md), (nI sc), (nI k9), dn23, wt24, wf25, (nI fa85), pl86, (nI fa85), pl86, (nI fd), (nI md), (nI sc), (nI k9), dn23, wt24, wf25]) rfl rfl rfl hP
      have hD : va_D A (mW G h0 a (upd (upd (upd (upd (upd (upd (upd (upd (upd F 15 (nI fa85)) 16 pl86) 44 (nI fd)) 49 (nI md)) 73 (nI sc)) 74 (nI k9)) 77 dn23) 78 wt24) 79 wf25) (updA (updA (updA (updA (updA B 14 nc) 17 (upd ty26 c7 (nI r20))) 18 mn27) 48 vn) 49 vt)) := mW_D hD
      refine W.widen (k := 0) (n := 0) (Nat.le_of_ble_eq_true rfl) (Nat.le_of_ble_eq_true rfl) ?_
      refine W.eq (g2 := F0 m 80 ls [.int (nI r84)]) rfl ?_
      refine lv_pop hx hb dX12_lookFront_80 rfl ?_
      refine lv_iload_n hx hb dX12_lookFront_81 rfl (lv_at hl 1 rfl) ?_
      refine lv_if_ne (tgt := 87) hx hb dX12_lookFront_82 (by decide) (fun c94 => absurd c94 (by decide)) (fun c94 => ?_)
      refine lv_iload_n hx hb dX12_lookFront_85 rfl (lv_at hl 0 rfl) ?_
      have hz95 : fa ≤ fa85 := (by omega)
      have hz96 : fa85 ≤ 15 := (by omega)
      have hz97 : TyC dc r20 := h30
      have hz98 : r20 ≤ 2050 := (by omega)
      have hz99 : ChE B nd n9 ty (upd ty26 c7 (nI r20)) mn mn27 := hch39
      have hz100 : mnN B nd mn27 := h33
      have hz101 : If (fa85 = 0) (Typ0 B dc fd md nd (upd ty26 c7 (nI r20)) mn27 vt sc k9 n9 (nI r20)) := (fun e => Typ0.of (kids (kk := 17) (c1 := c7) (c2 := c7) (c3 := c7) hkd (by decide) ⟨by omega, by omega, by omega⟩ (Or.inr ⟨by decide, e8⟩) (Or.inl (by decide)) (Or.inl (by decide)) (by decide) (hy40 (by omega)) (hy40 (by omega)) (hy40 (by omega))) (LT17 hkd hh13 ht41 (by first | exact Or.inl (by rw [show r20 = 1 by omega]; rfl) | exact Or.inr (by rw [show r20 = 2 by omega]; rfl))))
      have hP : va_P G.1 pCl (mW G h0 a (upd (upd (upd (upd (upd (upd (upd (upd (upd F 15 (nI fa85)) 16 pl86) 44 (nI fd)) 49 (nI md)) 73 (nI sc)) 74 (nI k9)) 77 dn23) 78 wt24) 79 wf25) (updA (updA (updA (updA (updA B 14 nc) 17 (upd ty26 c7 (nI r20))) 18 mn27) 48 vn) 49 vt)) _ := hP
      have hD : va_D A (mW G h0 a (upd (upd (upd (upd (upd (upd (upd (upd (upd F 15 (nI fa85)) 16 pl86) 44 (nI fd)) 49 (nI md)) 73 (nI sc)) 74 (nI k9)) 77 dn23) 78 wt24) 79 wf25) (updA (updA (updA (updA (updA B 14 nc) 17 (upd ty26 c7 (nI r20))) 18 mn27) 48 vn) 49 vt)) := mW_D hD
      exact W.iret (v := (nI r20)) hx hb hr (fun t9 ht9 hW9 => ⟨⟨_, (r20, fa85, pl86, dn23, wt24, wf25, (upd ty26 c7 (nI r20)), mn27), rfl, ⟨rfl, hz95, hz96, hz97, hz98, hz99, hz100, hz101⟩, by rw [ht9]; exact hP, hD⟩, hS.F ht9⟩) hS.2.2 dX12_lookFront_86
  · refine lv_iconst (v := 1) hx hb dX12_lookFront_16 (by decide) ?_
    refine lv_goto (tgt := 21) hx hb dX12_lookFront_17 (by decide) ?_
    refine lv_istore_n (lv' := [(2, .int 1), (0, .ref h0), (1, .int (nI n9))]) hx hb dX12_lookFront_21 rfl hl (by decide) rfl (fun ls hl => ?_)
    refine lv_aload_n hx hb dX12_lookFront_22 rfl (lv_at hl 1 rfl) ?_
    refine lv_aload_n hx hb dX12_lookFront_23 rfl (lv_at hl 1 rfl) ?_
    refine r_get (v := .ref (a 12)) hx hb hown hq hE hP 20 47 tFX12_20 (by decide) pw_1442 rfl dX12_lookFront_24 ?_
    refine lv_iload_n hx hb dX12_lookFront_27 rfl (lv_at hl 2 rfl) ?_
    refine r_ldi (f := (B 12)) (j := n9) hx hb hE hP 12 (ma_12 G a _) rfl (by omega) (by decide) dX12_lookFront_28 ?_
    obtain ⟨c102, e103, h104, hp105, h106, hc107, hh108, hg109⟩ := Fs2.kid (kk := 17) (s := 1) hF hn9 hkd (by decide) (by decide) (by decide) (by decide) (by omega)
    refine lv_topi (fun x110 e111 => ?_)
    obtain rfl : x110 = nI c102 := e111.trans e103
    have hP : va_P G.1 pCl (mW G h0 a (upd (upd (upd (upd (upd (upd (upd (upd (upd (upd (upd (upd (upd (upd (upd (upd F 15 (nI fa)) 44 (nI fd)) 49 (nI md)) 73 (nI sc)) 74 (nI k9)) 77 dn) 78 wt) 79 wf) 15 (nI fa)) 44 (nI fd)) 49 (nI md)) 73 (nI sc)) 74 (nI k9)) 77 dn) 78 wt) 79 wf) (updA (updA (updA (updA (updA B 14 nc) 17 ty) 18 mn) 48 vn) 49 vt)) _ := mW_to (F := F) (l1 := [(15, (nI fa)), (44, (nI fd)), (49, (nI md)), (73, (nI sc)), (74, (nI k9)), (77, dn), (78, wt), (79, wf)]) (l2 := [(15, (nI fa)), (44, (nI fd)), (49, (nI md)), (73, (nI sc)), (74, (nI k9)), (77, dn), (78, wt), (79, wf), (15, (nI fa)), (44, (nI fd)), (49, (nI md)), (73, (nI sc)), (74, (nI k9)), (77, dn), (78, wt), (79, wf)]) (V := [(nI fa), (nI fd), (nI md), (nI sc), (nI k9), dn, wt, wf, (nI fa), (nI fd), (nI md), (nI sc), (nI k9), dn, wt, wf, (nI fa), (nI fd), (nI md), (nI sc), (nI k9), dn, wt, wf]) rfl rfl rfl hP
    have hD : va_D A (mW G h0 a (upd (upd (upd (upd (upd (upd (upd (upd (upd (upd (upd (upd (upd (upd (upd (upd F 15 (nI fa)) 44 (nI fd)) 49 (nI md)) 73 (nI sc)) 74 (nI k9)) 77 dn) 78 wt) 79 wf) 15 (nI fa)) 44 (nI fd)) 49 (nI md)) 73 (nI sc)) 74 (nI k9)) 77 dn) 78 wt) 79 wf) (updA (updA (updA (updA (updA B 14 nc) 17 ty) 18 mn) 48 vn) 49 vt)) := mW_D hD
    refine pc_V0 (G := G) (As := [.int (nI c102)]) (rest := []) hx hb hml hown hq hE hX pX0_al hP hD hS hA hl.1 (ihA h0 a (upd (upd (upd (upd (upd (upd (upd (upd F 15 (nI fa)) 44 (nI fd)) 49 (nI md)) 73 (nI sc)) 74 (nI k9)) 77 dn) 78 wt) 79 wf) B c102 fa sc k9 nd T nm wr lz dc fd md pr bk gh dn wt wf nc ty mn vn vt hst hnm h104 (by omega) (by omega) (by omega) hk9 hnc hmn hvt (show kcl 1 _ = true from hc107)) (gV pw_1815 pw_1816 pw_1817 pw_1523 pw_1831) hV_X12_lookAt 0 9 rfl rfl rfl rfl (Nat.le_of_ble_eq_true rfl) dX12_lookFront_29 ⟨Nat.le_of_ble_eq_true rfl, Nat.le_of_ble_eq_true rfl⟩ ⟨(by show (4 * (z9 - 1) + 10) + 1 ≤ (4 * z9 + 9); omega), (by show 8 + (3 + 11) + (160 * (z9 - 1) + 1400) ≤ (160 * z9 + 1360); omega)⟩ (fun v114 u112 H locs hw113 hP hD hS => ?_)
    obtain ⟨r115, fa116, pl117, dn118, wt119, wf120, ty121, mn122⟩ := u112
    obtain ⟨hw113, h123, h124, h125, h126, h127, h128, h129⟩ := hw113
    replace h123 : fa ≤ fa116 := h123
    replace h124 : fa116 ≤ 15 := h124
    replace h125 : TyC dc r115 := h125
    replace h126 : r115 ≤ 2050 := h126
    replace h127 : ChE B nd c102 ty ty121 mn mn122 := h127
    replace h128 : mnN B nd mn122 := h128
    replace h129 : If (fa116 = 0) (Typ0 B dc fd md nd ty121 mn122 vt sc k9 c102 (nI r115)) := h129
    obtain rfl : v114 = some (.int (nI r115)) := hw113
    have hP : va_P G.1 pCl (mW G h0 a (upd (upd (upd (upd (upd (upd (upd (upd (upd F 15 (nI fa116)) 16 pl117) 44 (nI fd)) 49 (nI md)) 73 (nI sc)) 74 (nI k9)) 77 dn118) 78 wt119) 79 wf120) (updA (updA (updA (updA (updA B 14 nc) 17 ty121) 18 mn122) 48 vn) 49 vt)) _ := mW_to (F := F) (l1 := [(15, (nI fa)), (44, (nI fd)), (49, (nI md)), (73, (nI sc)), (74, (nI k9)), (77, dn), (78, wt), (79, wf), (15, (nI fa116)), (16, pl117), (44, (nI fd)), (49, (nI md)), (73, (nI sc)), (74, (nI k9)), (77, dn118), (78, wt119), (79, wf120)]) (l2 := [(15, (nI fa116)), (16, pl117), (44, (nI fd)), (49, (nI md)), (73, (nI sc)), (74, (nI k9)), (77, dn118), (78, wt119), (79, wf120)]) (V := [(nI fa116), (nI fd), (nI md), (nI sc), (nI k9), dn118, wt119, wf120, (nI fa116), pl117, (nI fd), (nI md), (nI sc), (nI k9), dn118, wt119, wf120, (nI fa116), pl117, (nI fd), (nI md), (nI sc), (nI k9), dn118, wt119, wf120]) rfl rfl rfl hP
    have hD : va_D A (mW G h0 a (upd (upd (upd (upd (upd (upd (upd (upd (upd F 15 (nI fa116)) 16 pl117) 44 (nI fd)) 49 (nI md)) 73 (nI sc)) 74 (nI k9)) 77 dn118) 78 wt119) 79 wf120) (updA (updA (updA (updA (updA B 14 nc) 17 ty121) 18 mn122) 48 vn) 49 vt)) := mW_D hD
    refine W.widen (k := 0) (n := 0) (Nat.le_of_ble_eq_true rfl) (Nat.le_of_ble_eq_true rfl) ?_
    refine W.eq (g2 := F0 m 32 ls [.int (nI r115)]) rfl ?_
    have hch130 : ChE B nd n9 ty ty121 mn mn122 := (ChE.trans ChE.rfl (ChE.kid h127 (by omega) hp105))
    refine lv_istore_n (lv' := [(3, .int (nI r115)), (2, .int 1), (0, .ref h0), (1, .int (nI n9))]) hx hb dX12_lookFront_32 rfl hl (by decide) rfl (fun ls hl => ?_)
    refine lv_aload_n hx hb dX12_lookFront_33 rfl (lv_at hl 2 rfl) ?_
    refine r_get (v := .ref (a 17)) hx hb hown hq hE hP 25 62 tFX12_25 (by decide) pw_1447 rfl dX12_lookFront_34 ?_
    refine lv_aload_n hx hb dX12_lookFront_37 rfl (lv_at hl 2 rfl) ?_
    refine r_get (v := .ref (a 12)) hx hb hown hq hE hP 20 47 tFX12_20 (by decide) pw_1442 rfl dX12_lookFront_38 ?_
    refine lv_iload_n hx hb dX12_lookFront_41 rfl (lv_at hl 3 rfl) ?_
    refine r_ldi (f := (B 12)) (j := n9) hx hb hE hP 12 (ma_12 G a _) rfl (by omega) (by decide) dX12_lookFront_42 ?_
    refine lv_topi (fun x131 e132 => ?_)
    obtain rfl : x131 = nI c102 := e132.trans e103
    refine lv_iload_n hx hb dX12_lookFront_43 rfl (lv_at hl 0 rfl) ?_
    refine r_sti (f := ty121) (j := c102) hx hb hE hP hD hS 17 (ma_17 G a _) rfl (mas_17 G a _) (by omega) (by decide) dX12_lookFront_44 (fun H locs hP hD hS => ?_)
    have hch133 : ChE B nd c102 ty121 (upd ty121 c102 (nI r115)) mn122 mn122 := (ChE.setT sub.rfl)
    have hch134 : ChE B nd n9 ty (upd ty121 c102 (nI r115)) mn mn122 := (ChE.trans hch130 (ChE.kid hch133 (by omega) hp105))
    have hy135 : If (fa116 = 0) (Typ B dc fd md nd (upd ty121 c102 (nI r115)) mn122 vt sc k9 c102) := (fun e => Typ0.st hF (by omega) h104 (h129 e))
    have ht136 : (upd ty121 c102 (nI r115)) c102 = nI r115 := upd_eq
    refine lv_aload_n hx hb dX12_lookFront_45 rfl (lv_at hl 2 rfl) ?_
    refine lv_iload_n hx hb dX12_lookFront_46 rfl (lv_at hl 0 rfl) ?_
    refine lv_iload_n hx hb dX12_lookFront_47 rfl (lv_at hl 1 rfl) ?_
    refine lv_if_eq (tgt := 55) hx hb dX12_lookFront_48 (by decide) (fun c137 => absurd c137 (by decide)) (fun c137 => ?_)
    refine lv_iconst (v := 2) hx hb dX12_lookFront_51 (by decide) ?_
    refine lv_goto (tgt := 56) hx hb dX12_lookFront_52 (by decide) ?_
    refine lv_icmp_ne (tgt := 63) hx hb dX12_lookFront_56 (by decide) (fun c138 => ?_) (fun c138 => ?_)
    · have n139 : ¬ (r115 = 2) := fun h9 => c138 ((nI_eq (a := r115) (b := 2) (by omega) (by omega)).mpr h9)
      refine lv_iconst (v := 0) hx hb dX12_lookFront_63 (by decide) ?_
      refine lv_bipush (v := 11) hx hb dX12_lookFront_64 (by decide) ?_
      refine lv_aload_n hx hb dX12_lookFront_66 rfl (lv_at hl 2 rfl) ?_
      refine r_get (v := .ref (a 10)) hx hb hown hq hE hP 18 41 tFX12_18 (by decide) pw_1440 rfl dX12_lookFront_67 ?_
      refine lv_aload_n hx hb dX12_lookFront_70 rfl (lv_at hl 2 rfl) ?_
      refine r_get (v := .ref (a 12)) hx hb hown hq hE hP 20 47 tFX12_20 (by decide) pw_1442 rfl dX12_lookFront_71 ?_
      refine lv_iload_n hx hb dX12_lookFront_74 rfl (lv_at hl 3 rfl) ?_
      refine r_ldi (f := (B 12)) (j := n9) hx hb hE hP 12 (ma_12 G a _) rfl (by omega) (by decide) dX12_lookFront_75 ?_
      refine lv_topi (fun x140 e141 => ?_)
      obtain rfl : x140 = nI c102 := e141.trans e103
      refine r_ldi (f := (B 10)) (j := c102) hx hb hE hP 10 (ma_10 G a _) rfl (by omega) (by decide) dX12_lookFront_76 ?_
      obtain ⟨⟨t142, e143, h144⟩, -⟩ := hF c102 h104
      refine lv_topi (fun x145 e146 => ?_)
      obtain rfl : x145 = nI t142 := e146.trans e143
      have hP : va_P G.1 pCl (mW G h0 a (upd (upd (upd (upd (upd (upd (upd (upd (upd (upd F 15 (nI fa116)) 16 pl117) 44 (nI fd)) 49 (nI md)) 73 (nI sc)) 74 (nI k9)) 77 dn118) 78 wt119) 79 wf120) 15 (nI fa116)) (updA (updA (updA (updA (updA B 14 nc) 17 (upd ty121 c102 (nI r115))) 18 mn122) 48 vn) 49 vt)) _ := mW_to (F := F) (l1 := [(15, (nI fa116)), (16, pl117), (44, (nI fd)), (49, (nI md)), (73, (nI sc)), (74, (nI k9)), (77, dn118), (78, wt119), (79, wf120)]) (l2 := [(15, (nI fa116)), (16, pl117), (44, (nI fd)), (49, (nI md)), (73, (nI sc)), (74, (nI k9)), (77, dn118), (78, wt119), (79, wf120), (15, (nI fa116))]) (V := [(nI fa116), pl117, (nI fd), (nI md), (nI sc), (nI k9), dn118, wt119, wf120, (nI fa116), pl117, (nI fd), (nI md), (nI sc), (nI k9), dn118, wt119, wf120, (nI fa116)]) rfl rfl (show (updA (updA (updA (updA (updA (updA B 14 nc) 17 ty121) 18 mn122) 48 vn) 49 vt) 17 (upd ty121 c102 (nI r115))) = (updA (updA (updA (updA (updA B 14 nc) 17 (upd ty121 c102 (nI r115))) 18 mn122) 48 vn) 49 vt) from updsA_eq2 (F := B) (l1 := [(14, nc), (17, ty121), (18, mn122), (48, vn), (49, vt), (17, (upd ty121 c102 (nI r115)))]) (l2 := [(14, nc), (17, (upd ty121 c102 (nI r115))), (18, mn122), (48, vn), (49, vt)]) (V := [nc, (upd ty121 c102 (nI r115)), mn122, vn, vt, (upd ty121 c102 (nI r115)), nc, (upd ty121 c102 (nI r115)), mn122, vn, vt]) rfl rfl) hP
      have hD : va_D A (mW G h0 a (upd (upd (upd (upd (upd (upd (upd (upd (upd (upd F 15 (nI fa116)) 16 pl117) 44 (nI fd)) 49 (nI md)) 73 (nI sc)) 74 (nI k9)) 77 dn118) 78 wt119) 79 wf120) 15 (nI fa116)) (updA (updA (updA (updA (updA B 14 nc) 17 (upd ty121 c102 (nI r115))) 18 mn122) 48 vn) 49 vt)) := mW_D hD
      refine pc_V0 (G := G) (As := [.int (nI 0), .int (nI 11), .int (nI t142)]) (rest := []) hx hb hml hown hq hE hX pX0_al hP hD hS hA hl.1 (R_judgeL l G h0 a (upd (upd (upd (upd (upd (upd (upd (upd (upd F 15 (nI fa116)) 16 pl117) 44 (nI fd)) 49 (nI md)) 73 (nI sc)) 74 (nI k9)) 77 dn118) 78 wt119) 79 wf120) (updA (updA (updA (updA (updA B 14 nc) 17 (upd ty121 c102 (nI r115))) 18 mn122) 48 vn) 49 vt) 0 11 t142 fa116 (by omega) (by omega) (by omega) (by omega)) (gV pw_1798 pw_1799 pw_1800 pw_1523 pw_1793) hV_X12_judge 0 9 rfl rfl rfl rfl (Nat.le_of_ble_eq_true rfl) dX12_lookFront_77 ⟨Nat.le_of_ble_eq_true rfl, Nat.le_of_ble_eq_true rfl⟩ ⟨(by show 3 + 1 ≤ (4 * z9 + 9); omega), (by show 8 + (4 + 11) + 82 ≤ (160 * z9 + 1360); omega)⟩ (fun v149 u147 H locs hw148 hP hD hS => ?_)
      obtain ⟨r150, fa151, pl152⟩ := u147
      obtain ⟨hw148, h153, h154, h155, h156, h157, h158, h159⟩ := hw148
      replace h153 : r150 ≤ 1 := h153
      replace h154 : fa116 ≤ fa151 := h154
      replace h155 : fa151 ≤ 15 := h155
      replace h156 : fa151 + 15 * r150 ≤ 15 := h156
      replace h157 : 1 ≤ r150 + fa151 := h157
      replace h158 : 1 ≤ 0 + fa151 := h158
      replace h159 : fa151 ≤ fa116 + 15 * (1 - 0) := h159
      obtain rfl : v149 = some (.int (nI r150)) := hw148
      have hP : va_P G.1 pCl (mW G h0 a (upd (upd (upd (upd (upd (upd (upd (upd (upd F 15 (nI fa151)) 16 pl152) 44 (nI fd)) 49 (nI md)) 73 (nI sc)) 74 (nI k9)) 77 dn118) 78 wt119) 79 wf120) (updA (updA (updA (updA (updA B 14 nc) 17 (upd ty121 c102 (nI r115))) 18 mn122) 48 vn) 49 vt)) _ := mW_to (F := F) (l1 := [(15, (nI fa116)), (16, pl117), (44, (nI fd)), (49, (nI md)), (73, (nI sc)), (74, (nI k9)), (77, dn118), (78, wt119), (79, wf120), (15, (nI fa151)), (16, pl152)]) (l2 := [(15, (nI fa151)), (16, pl152), (44, (nI fd)), (49, (nI md)), (73, (nI sc)), (74, (nI k9)), (77, dn118), (78, wt119), (79, wf120)]) (V := [(nI fa151), pl152, (nI fd), (nI md), (nI sc), (nI k9), dn118, wt119, wf120, (nI fa151), pl152, (nI fa151), pl152, (nI fd), (nI md), (nI sc), (nI k9), dn118, wt119, wf120]) rfl rfl rfl hP
      have hD : va_D A (mW G h0 a (upd (upd (upd (upd (upd (upd (upd (upd (upd F 15 (nI fa151)) 16 pl152) 44 (nI fd)) 49 (nI md)) 73 (nI sc)) 74 (nI k9)) 77 dn118) 78 wt119) 79 wf120) (updA (updA (updA (updA (updA B 14 nc) 17 (upd ty121 c102 (nI r115))) 18 mn122) 48 vn) 49 vt)) := mW_D hD
      refine W.widen (k := 0) (n := 0) (Nat.le_of_ble_eq_true rfl) (Nat.le_of_ble_eq_true rfl) ?_
      refine W.eq (g2 := F0 m 80 ls [.int (nI r150)]) rfl ?_
      refine lv_pop hx hb dX12_lookFront_80 rfl ?_
      refine lv_iload_n hx hb dX12_lookFront_81 rfl (lv_at hl 1 rfl) ?_
      refine lv_if_ne (tgt := 87) hx hb dX12_lookFront_82 (by decide) (fun c160 => ?_) (fun c160 => absurd c160 (by decide))
      refine lv_aload_n hx hb dX12_lookFront_87 rfl (lv_at hl 2 rfl) ?_
      refine r_get (v := .int wt119) hx hb hown hq hE hP 78 551 tFX12_78 (by decide) pw_1805 rfl dX12_lookFront_88 ?_
      refine lv_istore (lv' := [(4, .int wt119), (3, .int (nI r115)), (2, .int 1), (0, .ref h0), (1, .int (nI n9))]) hx hb dX12_lookFront_91 hl (by decide) rfl (fun ls hl => ?_)
      refine lv_aload_n hx hb dX12_lookFront_93 rfl (lv_at hl 3 rfl) ?_
      refine lv_aload_n hx hb dX12_lookFront_94 rfl (lv_at hl 3 rfl) ?_
      refine r_get (v := .int wf120) hx hb hown hq hE hP 79 554 tFX12_79 (by decide) pw_1806 rfl dX12_lookFront_95 ?_
      refine r_put (v := wf120) (ty := .int) hx hb hown hq hE hP hD hS 78 551 tFX12_78 (by decide) pw_1805 (by decide) rfl rfl (ms_78 a _ _) dX12_lookFront_98 (fun H locs hP hD hS => ?_)
      refine lv_aload_n hx hb dX12_lookFront_101 rfl (lv_at hl 3 rfl) ?_
      refine lv_iload hx hb dX12_lookFront_102 (lv_at hl 0 rfl) ?_
      refine r_put (v := wt119) (ty := .int) hx hb hown hq hE hP hD hS 79 554 tFX12_79 (by decide) pw_1806 (by decide) rfl rfl (ms_79 a _ _) dX12_lookFront_104 (fun H locs hP hD hS => ?_)
      refine lv_iload_n hx hb dX12_lookFront_107 rfl (lv_at hl 1 rfl) ?_
      have hz161 : fa ≤ fa151 := (by omega)
      have hz162 : fa151 ≤ 15 := (by omega)
      have hz163 : TyC dc r115 := h125
      have hz164 : r115 ≤ 2050 := (by omega)
      have hz165 : ChE B nd n9 ty (upd ty121 c102 (nI r115)) mn mn122 := hch134
      have hz166 : mnN B nd mn122 := h128
      have hz167 : If (fa151 = 0) (Typ0 B dc fd md nd (upd ty121 c102 (nI r115)) mn122 vt sc k9 n9 (nI r115)) := (fun e => absurd e (by omega))
      have hP : va_P G.1 pCl (mW G h0 a (upd (upd (upd (upd (upd (upd (upd (upd (upd F 15 (nI fa151)) 16 pl152) 44 (nI fd)) 49 (nI md)) 73 (nI sc)) 74 (nI k9)) 77 dn118) 78 wf120) 79 wt119) (updA (updA (updA (updA (updA B 14 nc) 17 (upd ty121 c102 (nI r115))) 18 mn122) 48 vn) 49 vt)) _ := mW_to (F := F) (l1 := [(15, (nI fa151)), (16, pl152), (44, (nI fd)), (49, (nI md)), (73, (nI sc)), (74, (nI k9)), (77, dn118), (78, wt119), (79, wf120), (78, wf120), (79, wt119)]) (l2 := [(15, (nI fa151)), (16, pl152), (44, (nI fd)), (49, (nI md)), (73, (nI sc)), (74, (nI k9)), (77, dn118), (78, wf120), (79, wt119)]) (V := [(nI fa151), pl152, (nI fd), (nI md), (nI sc), (nI k9), dn118, wf120, wt119, wf120, wt119, (nI fa151), pl152, (nI fd), (nI md), (nI sc), (nI k9), dn118, wf120, wt119]) rfl rfl rfl hP
      have hD : va_D A (mW G h0 a (upd (upd (upd (upd (upd (upd (upd (upd (upd F 15 (nI fa151)) 16 pl152) 44 (nI fd)) 49 (nI md)) 73 (nI sc)) 74 (nI k9)) 77 dn118) 78 wf120) 79 wt119) (updA (updA (updA (updA (updA B 14 nc) 17 (upd ty121 c102 (nI r115))) 18 mn122) 48 vn) 49 vt)) := mW_D hD
      exact W.iret (v := (nI r115)) hx hb hr (fun t9 ht9 hW9 => ⟨⟨_, (r115, fa151, pl152, dn118, wf120, wt119, (upd ty121 c102 (nI r115)), mn122), rfl, ⟨rfl, hz161, hz162, hz163, hz164, hz165, hz166, hz167⟩, by rw [ht9]; exact hP, hD⟩, hS.F ht9⟩) hS.2.2 dX12_lookFront_108
    · have n168 : r115 = 2 := (nI_eq (a := r115) (b := 2) (by omega) (by omega)).mp c138
      refine lv_iconst (v := 1) hx hb dX12_lookFront_59 (by decide) ?_
      refine lv_goto (tgt := 64) hx hb dX12_lookFront_60 (by decide) ?_
      refine lv_bipush (v := 11) hx hb dX12_lookFront_64 (by decide) ?_
      refine lv_aload_n hx hb dX12_lookFront_66 rfl (lv_at hl 2 rfl) ?_
      refine r_get (v := .ref (a 10)) hx hb hown hq hE hP 18 41 tFX12_18 (by decide) pw_1440 rfl dX12_lookFront_67 ?_
      refine lv_aload_n hx hb dX12_lookFront_70 rfl (lv_at hl 2 rfl) ?_
      refine r_get (v := .ref (a 12)) hx hb hown hq hE hP 20 47 tFX12_20 (by decide) pw_1442 rfl dX12_lookFront_71 ?_
      refine lv_iload_n hx hb dX12_lookFront_74 rfl (lv_at hl 3 rfl) ?_
      refine r_ldi (f := (B 12)) (j := n9) hx hb hE hP 12 (ma_12 G a _) rfl (by omega) (by decide) dX12_lookFront_75 ?_
      refine lv_topi (fun x169 e170 => ?_)
      obtain rfl : x169 = nI c102 := e170.trans e103
      refine r_ldi (f := (B 10)) (j := c102) hx hb hE hP 10 (ma_10 G a _) rfl (by omega) (by decide) dX12_lookFront_76 ?_
      obtain ⟨⟨t171, e172, h173⟩, -⟩ := hF c102 h104
      refine lv_topi (fun x174 e175 => ?_)
      obtain rfl : x174 = nI t171 := e175.trans e172
      have hP : va_P G.1 pCl (mW G h0 a (upd (upd (upd (upd (upd (upd (upd (upd (upd (upd F 15 (nI fa116)) 16 pl117) 44 (nI fd)) 49 (nI md)) 73 (nI sc)) 74 (nI k9)) 77 dn118) 78 wt119) 79 wf120) 15 (nI fa116)) (updA (updA (updA (updA (updA B 14 nc) 17 (upd ty121 c102 (nI r115))) 18 mn122) 48 vn) 49 vt)) _ := mW_to (F := F) (l1 := [(15, (nI fa116)), (16, pl117), (44, (nI fd)), (49, (nI md)), (73, (nI sc)), (74, (nI k9)), (77, dn118), (78, wt119), (79, wf120)]) (l2 := [(15, (nI fa116)), (16, pl117), (44, (nI fd)), (49, (nI md)), (73, (nI sc)), (74, (nI k9)), (77, dn118), (78, wt119), (79, wf120), (15, (nI fa116))]) (V := [(nI fa116), pl117, (nI fd), (nI md), (nI sc), (nI k9), dn118, wt119, wf120, (nI fa116), pl117, (nI fd), (nI md), (nI sc), (nI k9), dn118, wt119, wf120, (nI fa116)]) rfl rfl (show (updA (updA (updA (updA (updA (updA B 14 nc) 17 ty121) 18 mn122) 48 vn) 49 vt) 17 (upd ty121 c102 (nI r115))) = (updA (updA (updA (updA (updA B 14 nc) 17 (upd ty121 c102 (nI r115))) 18 mn122) 48 vn) 49 vt) from updsA_eq2 (F := B) (l1 := [(14, nc), (17, ty121), (18, mn122), (48, vn), (49, vt), (17, (upd ty121 c102 (nI r115)))]) (l2 := [(14, nc), (17, (upd ty121 c102 (nI r115))), (18, mn122), (48, vn), (49, vt)]) (V := [nc, (upd ty121 c102 (nI r115)), mn122, vn, vt, (upd ty121 c102 (nI r115)), nc, (upd ty121 c102 (nI r115)), mn122, vn, vt]) rfl rfl) hP
      have hD : va_D A (mW G h0 a (upd (upd (upd (upd (upd (upd (upd (upd (upd (upd F 15 (nI fa116)) 16 pl117) 44 (nI fd)) 49 (nI md)) 73 (nI sc)) 74 (nI k9)) 77 dn118) 78 wt119) 79 wf120) 15 (nI fa116)) (updA (updA (updA (updA (updA B 14 nc) 17 (upd ty121 c102 (nI r115))) 18 mn122) 48 vn) 49 vt)) := mW_D hD
      refine pc_V0 (G := G) (As := [.int (nI 1), .int (nI 11), .int (nI t171)]) (rest := []) hx hb hml hown hq hE hX pX0_al hP hD hS hA hl.1 (R_judgeL l G h0 a (upd (upd (upd (upd (upd (upd (upd (upd (upd F 15 (nI fa116)) 16 pl117) 44 (nI fd)) 49 (nI md)) 73 (nI sc)) 74 (nI k9)) 77 dn118) 78 wt119) 79 wf120) (updA (updA (updA (updA (updA B 14 nc) 17 (upd ty121 c102 (nI r115))) 18 mn122) 48 vn) 49 vt) 1 11 t171 fa116 (by omega) (by omega) (by omega) (by omega)) (gV pw_1798 pw_1799 pw_1800 pw_1523 pw_1793) hV_X12_judge 0 9 rfl rfl rfl rfl (Nat.le_of_ble_eq_true rfl) dX12_lookFront_77 ⟨Nat.le_of_ble_eq_true rfl, Nat.le_of_ble_eq_true rfl⟩ ⟨(by show 3 + 1 ≤ (4 * z9 + 9); omega), (by show 8 + (4 + 11) + 82 ≤ (160 * z9 + 1360); omega)⟩ (fun v178 u176 H locs hw177 hP hD hS => ?_)
      obtain ⟨r179, fa180, pl181⟩ := u176
      obtain ⟨hw177, h182, h183, h184, h185, h186, h187, h188⟩ := hw177
      replace h182 : r179 ≤ 1 := h182
      replace h183 : fa116 ≤ fa180 := h183
      replace h184 : fa180 ≤ 15 := h184
      replace h185 : fa180 + 15 * r179 ≤ 15 := h185
      replace h186 : 1 ≤ r179 + fa180 := h186
      replace h187 : 1 ≤ 1 + fa180 := h187
      replace h188 : fa180 ≤ fa116 + 15 * (1 - 1) := h188
      obtain rfl : v178 = some (.int (nI r179)) := hw177
      have hP : va_P G.1 pCl (mW G h0 a (upd (upd (upd (upd (upd (upd (upd (upd (upd F 15 (nI fa180)) 16 pl181) 44 (nI fd)) 49 (nI md)) 73 (nI sc)) 74 (nI k9)) 77 dn118) 78 wt119) 79 wf120) (updA (updA (updA (updA (updA B 14 nc) 17 (upd ty121 c102 (nI r115))) 18 mn122) 48 vn) 49 vt)) _ := mW_to (F := F) (l1 := [(15, (nI fa116)), (16, pl117), (44, (nI fd)), (49, (nI md)), (73, (nI sc)), (74, (nI k9)), (77, dn118), (78, wt119), (79, wf120), (15, (nI fa180)), (16, pl181)]) (l2 := [(15, (nI fa180)), (16, pl181), (44, (nI fd)), (49, (nI md)), (73, (nI sc)), (74, (nI k9)), (77, dn118), (78, wt119), (79, wf120)]) (V := [(nI fa180), pl181, (nI fd), (nI md), (nI sc), (nI k9), dn118, wt119, wf120, (nI fa180), pl181, (nI fa180), pl181, (nI fd), (nI md), (nI sc), (nI k9), dn118, wt119, wf120]) rfl rfl rfl hP
      have hD : va_D A (mW G h0 a (upd (upd (upd (upd (upd (upd (upd (upd (upd F 15 (nI fa180)) 16 pl181) 44 (nI fd)) 49 (nI md)) 73 (nI sc)) 74 (nI k9)) 77 dn118) 78 wt119) 79 wf120) (updA (updA (updA (updA (updA B 14 nc) 17 (upd ty121 c102 (nI r115))) 18 mn122) 48 vn) 49 vt)) := mW_D hD
      refine W.widen (k := 0) (n := 0) (Nat.le_of_ble_eq_true rfl) (Nat.le_of_ble_eq_true rfl) ?_
      refine W.eq (g2 := F0 m 80 ls [.int (nI r179)]) rfl ?_
      refine lv_pop hx hb dX12_lookFront_80 rfl ?_
      refine lv_iload_n hx hb dX12_lookFront_81 rfl (lv_at hl 1 rfl) ?_
      refine lv_if_ne (tgt := 87) hx hb dX12_lookFront_82 (by decide) (fun c189 => ?_) (fun c189 => absurd c189 (by decide))
      refine lv_aload_n hx hb dX12_lookFront_87 rfl (lv_at hl 2 rfl) ?_
      refine r_get (v := .int wt119) hx hb hown hq hE hP 78 551 tFX12_78 (by decide) pw_1805 rfl dX12_lookFront_88 ?_
      refine lv_istore (lv' := [(4, .int wt119), (3, .int (nI r115)), (2, .int 1), (0, .ref h0), (1, .int (nI n9))]) hx hb dX12_lookFront_91 hl (by decide) rfl (fun ls hl => ?_)
      refine lv_aload_n hx hb dX12_lookFront_93 rfl (lv_at hl 3 rfl) ?_
      refine lv_aload_n hx hb dX12_lookFront_94 rfl (lv_at hl 3 rfl) ?_
      refine r_get (v := .int wf120) hx hb hown hq hE hP 79 554 tFX12_79 (by decide) pw_1806 rfl dX12_lookFront_95 ?_
      refine r_put (v := wf120) (ty := .int) hx hb hown hq hE hP hD hS 78 551 tFX12_78 (by decide) pw_1805 (by decide) rfl rfl (ms_78 a _ _) dX12_lookFront_98 (fun H locs hP hD hS => ?_)
      refine lv_aload_n hx hb dX12_lookFront_101 rfl (lv_at hl 3 rfl) ?_
      refine lv_iload hx hb dX12_lookFront_102 (lv_at hl 0 rfl) ?_
      refine r_put (v := wt119) (ty := .int) hx hb hown hq hE hP hD hS 79 554 tFX12_79 (by decide) pw_1806 (by decide) rfl rfl (ms_79 a _ _) dX12_lookFront_104 (fun H locs hP hD hS => ?_)
      refine lv_iload_n hx hb dX12_lookFront_107 rfl (lv_at hl 1 rfl) ?_
      have hz190 : fa ≤ fa180 := (by omega)
      have hz191 : fa180 ≤ 15 := (by omega)
      have hz192 : TyC dc r115 := h125
      have hz193 : r115 ≤ 2050 := (by omega)
      have hz194 : ChE B nd n9 ty (upd ty121 c102 (nI r115)) mn mn122 := hch134
      have hz195 : mnN B nd mn122 := h128
      have hz196 : If (fa180 = 0) (Typ0 B dc fd md nd (upd ty121 c102 (nI r115)) mn122 vt sc k9 n9 (nI r115)) := (fun e => Typ0.of (kids (kk := 17) (c1 := c102) (c2 := c102) (c3 := c102) hkd (by decide) ⟨by omega, by omega, by omega⟩ (Or.inr ⟨by decide, e103⟩) (Or.inl (by decide)) (Or.inl (by decide)) (by decide) (hy135 (by omega)) (hy135 (by omega)) (hy135 (by omega))) (LT17 hkd hh108 ht136 (by first | exact Or.inl (by rw [show r115 = 1 by omega]; rfl) | exact Or.inr (by rw [show r115 = 2 by omega]; rfl))))
      have hP : va_P G.1 pCl (mW G h0 a (upd (upd (upd (upd (upd (upd (upd (upd (upd F 15 (nI fa180)) 16 pl181) 44 (nI fd)) 49 (nI md)) 73 (nI sc)) 74 (nI k9)) 77 dn118) 78 wf120) 79 wt119) (updA (updA (updA (updA (updA B 14 nc) 17 (upd ty121 c102 (nI r115))) 18 mn122) 48 vn) 49 vt)) _ := mW_to (F := F) (l1 := [(15, (nI fa180)), (16, pl181), (44, (nI fd)), (49, (nI md)), (73, (nI sc)), (74, (nI k9)), (77, dn118), (78, wt119), (79, wf120), (78, wf120), (79, wt119)]) (l2 := [(15, (nI fa180)), (16, pl181), (44, (nI fd)), (49, (nI md)), (73, (nI sc)), (74, (nI k9)), (77, dn118), (78, wf120), (79, wt119)]) (V := [(nI fa180), pl181, (nI fd), (nI md), (nI sc), (nI k9), dn118, wf120, wt119, wf120, wt119, (nI fa180), pl181, (nI fd), (nI md), (nI sc), (nI k9), dn118, wf120, wt119]) rfl rfl rfl hP
      have hD : va_D A (mW G h0 a (upd (upd (upd (upd (upd (upd (upd (upd (upd F 15 (nI fa180)) 16 pl181) 44 (nI fd)) 49 (nI md)) 73 (nI sc)) 74 (nI k9)) 77 dn118) 78 wf120) 79 wt119) (updA (updA (updA (updA (updA B 14 nc) 17 (upd ty121 c102 (nI r115))) 18 mn122) 48 vn) 49 vt)) := mW_D hD
      exact W.iret (v := (nI r115)) hx hb hr (fun t9 ht9 hW9 => ⟨⟨_, (r115, fa180, pl181, dn118, wf120, wt119, (upd ty121 c102 (nI r115)), mn122), rfl, ⟨rfl, hz190, hz191, hz192, hz193, hz194, hz195, hz196⟩, by rw [ht9]; exact hP, hD⟩, hS.F ht9⟩) hS.2.2 dX12_lookFront_108

theorem dX12_look_0 : decode cX12_look 0 = .ok (.aload_n 0, 1) := by decide +kernel
theorem dX12_look_1 : decode cX12_look 1 = .ok (.iload_n 1, 1) := by decide +kernel
theorem dX12_look_2 : decode cX12_look 2 = .ok (.invokevirtual 548, 3) := by decide +kernel
theorem dX12_look_5 : decode cX12_look 5 = .ok (.istore_n 2, 1) := by decide +kernel
theorem dX12_look_6 : decode cX12_look 6 = .ok (.aload_n 0, 1) := by decide +kernel
theorem dX12_look_7 : decode cX12_look 7 = .ok (.getfield 62, 3) := by decide +kernel
theorem dX12_look_10 : decode cX12_look 10 = .ok (.iload_n 1, 1) := by decide +kernel
theorem dX12_look_11 : decode cX12_look 11 = .ok (.iload_n 2, 1) := by decide +kernel
theorem dX12_look_12 : decode cX12_look 12 = .ok (.iastore, 1) := by decide +kernel
theorem dX12_look_13 : decode cX12_look 13 = .ok (.aload_n 0, 1) := by decide +kernel
theorem dX12_look_14 : decode cX12_look 14 = .ok (.aload_n 0, 1) := by decide +kernel
theorem dX12_look_15 : decode cX12_look 15 = .ok (.getfield 551, 3) := by decide +kernel
theorem dX12_look_18 : decode cX12_look 18 = .ok (.aload_n 0, 1) := by decide +kernel
theorem dX12_look_19 : decode cX12_look 19 = .ok (.getfield 554, 3) := by decide +kernel
theorem dX12_look_22 : decode cX12_look 22 = .ok (.iand, 1) := by decide +kernel
theorem dX12_look_23 : decode cX12_look 23 = .ok (.putfield 544, 3) := by decide +kernel
theorem dX12_look_26 : decode cX12_look 26 = .ok (.iload_n 2, 1) := by decide +kernel
theorem dX12_look_27 : decode cX12_look 27 = .ok (.ireturn, 1) := by decide +kernel
set_option maxHeartbeats 6000000 in
set_option maxRecDepth 100000 in
/-- look(n) -/
theorem L_look (l : Launch) (G : pT) (h0 : Nat) (a : Nat → Nat) (F : Nat → Int32) (B : Nat → Nat → Int32) (n9 : Nat) (z9 : Nat) (fa : Nat) (sc : Nat) (k9 : Nat) (nd : Nat) (T : Nat) (nm : Nat) (wr : Nat) (lz : Nat) (dc : Nat) (fd : Nat) (md : Nat) (pr : Nat) (bk : Nat) (gh : Nat → Nat → Nat) (dn : Int32) (wt : Int32) (wf : Int32) (nc : Nat → Int32) (ty : Nat → Int32) (mn : Nat → Int32) (vn : Nat → Int32) (vt : Nat → Int32) (hst : St B gh nd T nm wr lz dc fd md pr bk) (hnm : nd ≤ 12000 ∧ T ≤ 5000 ∧ wr ≤ 5000 ∧ 7 ≤ dc ∧ dc ≤ 37 ∧ fd ≤ 620 ∧ md ≤ 920 ∧ pr ≤ 5000) (hn9 : n9 < nd) (hz : gh 1 n9 < z9) (hfa : fa ≤ 15) (hsc : sc ≤ 30) (hk9 : 7 ≤ k9 ∧ k9 < dc) (hnc : ∀ i : Nat, i < nd → ¬ B 9 i = 44 → nc i = B 14 i) (hmn : mnN B nd mn) (hvt : ∀ i : Nat, i < sc → tyOK dc (vt i)) (hkc : kcl 1 (B 9 n9) = true) (hA9 : PlookAt l G z9) : PM l G pX0 yX12_look cX12_look 3 (some .int) ({ frames := (4 * z9 + 11), cells := 0, slots := 0, locals := (160 * z9 + 1440) }) [.ref h0, .int (nI n9)] (mW G h0 a (upd (upd (upd (upd (upd (upd (upd (upd F 15 (nI fa)) 44 (nI fd)) 49 (nI md)) 73 (nI sc)) 74 (nI k9)) 77 dn) 78 wt) 79 wf) (updA (updA (updA (updA (updA B 14 nc) 17 ty) 18 mn) 48 vn) 49 vt)) (fun (v : Option Value) (u : Nat × Nat × Int32 × Int32 × Int32 × Int32 × (Nat → Int32) × (Nat → Int32)) => v = some (.int (nI u.1)) ∧ (fa ≤ u.2.1) ∧ (u.2.1 ≤ 15) ∧ (TyC dc u.1) ∧ (u.1 ≤ 2050) ∧ (ChE B nd n9 ty u.2.2.2.2.2.2.1 mn u.2.2.2.2.2.2.2) ∧ (mnN B nd u.2.2.2.2.2.2.2) ∧ (If (u.2.1 = 0) (Typ B dc fd md nd u.2.2.2.2.2.2.1 u.2.2.2.2.2.2.2 vt sc k9 n9)) ∧ (u.2.2.2.2.2.2.1 n9 = nI u.1)) (fun u => (mW G h0 a (upd (upd (upd (upd (upd (upd (upd (upd (upd F 15 (nI u.2.1)) 16 u.2.2.1) 44 (nI fd)) 49 (nI md)) 73 (nI sc)) 74 (nI k9)) 77 u.2.2.2.1) 78 u.2.2.2.2.1) 79 u.2.2.2.2.2.1) (updA (updA (updA (updA (updA B 14 nc) 17 u.2.2.2.2.2.2.1) 18 u.2.2.2.2.2.2.2) 48 vn) 49 vt))) := by
  intro sz
  refine Met.ofW (cc := cX12_look) (maxL := 3) (ret := (some .int)) (by decide) rfl ?_
  intro p e s m args below meth c s₁ B9 hml hv
  obtain ⟨rfl, hsz, hP, hD0, hE, hX⟩ := hv
  have hx := B9.exec
  have hb := B9.bytes
  have hr := B9.returns
  have hts := atoms_spec (ws := Cond.code yX12_look cX12_look 3 (some .int) :: pw) B9.pre
  have hq : ∀ w ∈ pw, w.before _ s = true := fun w h => hts w (List.mem_cons_of_mem _ h)
  have hown : s.vm.findClass RX12 = some m.cls := findClass_of_methodNamed B9.named
  have hlocks := B9.notSynchronized
  subst hsz
  have hD := hD0.self (sz := s.heap.size)
  have hA : ∀ q : Nat, s.heap.size ≤ q → va_A (mW G h0 a (upd (upd (upd (upd (upd (upd (upd (upd F 15 (nI fa)) 44 (nI fd)) 49 (nI md)) 73 (nI sc)) 74 (nI k9)) 77 dn) 78 wt) 79 wf) (updA (updA (updA (updA (updA B 14 nc) 17 ty) 18 mn) 48 vn) 49 vt)) s.heap.size q := fun q h => Or.inr h
  have hP : va_P G.1 pCl (mW G h0 a (upd (upd (upd (upd (upd (upd (upd (upd F 15 (nI fa)) 44 (nI fd)) 49 (nI md)) 73 (nI sc)) 74 (nI k9)) 77 dn) 78 wt) 79 wf) (updA (updA (updA (updA (updA B 14 nc) 17 ty) 18 mn) 48 vn) 49 vt)) s.heap := hP
  generalize va_A (mW G h0 a (upd (upd (upd (upd (upd (upd (upd (upd F 15 (nI fa)) 44 (nI fd)) 49 (nI md)) 73 (nI sc)) 74 (nI k9)) 77 dn) 78 wt) 79 wf) (updA (updA (updA (updA (updA B 14 nc) 17 ty) 18 mn) 48 vn) 49 vt)) s.heap.size = A at hD hE hA ⊢
  have hS : va_S A s.heap s.heap [] := va_S.rf
  have hl := lv_entry ([.ref h0, .int (nI n9)]) (n := 3) (Nat.le_of_ble_eq_true rfl)
  rw [lg_entry_eq]
  generalize (lg_sl ([.ref h0, .int (nI n9)]) ++ List.replicate (3 - (lg_sl ([.ref h0, .int (nI n9)])).length) Slot.unset).toArray = ls at hl ⊢
  have hl : lv_has ls 3 [(0, .ref h0), (1, .int (nI n9))] := hl
  have hF := hst.1
  have hPS := hst.2.1
  have hBI := hst.2.2.1
  have hRK := hst.2.2.2.1
  have hTY := hst.2.2.2.2.1
  have hNW := hst.2.2.2.2.2.1
  have hTK := hst.2.2.2.2.2.2
  refine lv_aload_n hx hb dX12_look_0 rfl (lv_at hl 0 rfl) ?_
  refine lv_iload_n hx hb dX12_look_1 rfl (lv_at hl 1 rfl) ?_
  have hP : va_P G.1 pCl (mW G h0 a (upd (upd (upd (upd (upd (upd (upd (upd (upd (upd (upd (upd (upd (upd (upd (upd F 15 (nI fa)) 44 (nI fd)) 49 (nI md)) 73 (nI sc)) 74 (nI k9)) 77 dn) 78 wt) 79 wf) 15 (nI fa)) 44 (nI fd)) 49 (nI md)) 73 (nI sc)) 74 (nI k9)) 77 dn) 78 wt) 79 wf) (updA (updA (updA (updA (updA B 14 nc) 17 ty) 18 mn) 48 vn) 49 vt)) _ := mW_to (F := F) (l1 := [(15, (nI fa)), (44, (nI fd)), (49, (nI md)), (73, (nI sc)), (74, (nI k9)), (77, dn), (78, wt), (79, wf)]) (l2 := [(15, (nI fa)), (44, (nI fd)), (49, (nI md)), (73, (nI sc)), (74, (nI k9)), (77, dn), (78, wt), (79, wf), (15, (nI fa)), (44, (nI fd)), (49, (nI md)), (73, (nI sc)), (74, (nI k9)), (77, dn), (78, wt), (79, wf)]) (V := [(nI fa), (nI fd), (nI md), (nI sc), (nI k9), dn, wt, wf, (nI fa), (nI fd), (nI md), (nI sc), (nI k9), dn, wt, wf, (nI fa), (nI fd), (nI md), (nI sc), (nI k9), dn, wt, wf]) rfl rfl rfl hP
  have hD : va_D A (mW G h0 a (upd (upd (upd (upd (upd (upd (upd (upd (upd (upd (upd (upd (upd (upd (upd (upd F 15 (nI fa)) 44 (nI fd)) 49 (nI md)) 73 (nI sc)) 74 (nI k9)) 77 dn) 78 wt) 79 wf) 15 (nI fa)) 44 (nI fd)) 49 (nI md)) 73 (nI sc)) 74 (nI k9)) 77 dn) 78 wt) 79 wf) (updA (updA (updA (updA (updA B 14 nc) 17 ty) 18 mn) 48 vn) 49 vt)) := mW_D hD
  refine pc_V0 (G := G) (As := [.int (nI n9)]) (rest := []) hx hb hml hown hq hE hX pX0_al hP hD hS hA hl.1 (hA9 h0 a (upd (upd (upd (upd (upd (upd (upd (upd F 15 (nI fa)) 44 (nI fd)) 49 (nI md)) 73 (nI sc)) 74 (nI k9)) 77 dn) 78 wt) 79 wf) B n9 fa sc k9 nd T nm wr lz dc fd md pr bk gh dn wt wf nc ty mn vn vt hst hnm hn9 (by omega) (by omega) (by omega) hk9 hnc hmn hvt hkc) (gV pw_1815 pw_1816 pw_1817 pw_1523 pw_1831) hV_X12_lookAt 0 9 rfl rfl rfl rfl (Nat.le_of_ble_eq_true rfl) dX12_look_2 ⟨Nat.le_of_ble_eq_true rfl, Nat.le_of_ble_eq_true rfl⟩ ⟨(by show (4 * z9 + 10) + 1 ≤ (4 * z9 + 11); omega), (by show 8 + (3 + 11) + (160 * z9 + 1400) ≤ (160 * z9 + 1440); omega)⟩ (fun v3 u1 H locs hw2 hP hD hS => ?_)
  obtain ⟨r4, fa5, pl6, dn7, wt8, wf9, ty10, mn11⟩ := u1
  obtain ⟨hw2, h12, h13, h14, h15, h16, h17, h18⟩ := hw2
  replace h12 : fa ≤ fa5 := h12
  replace h13 : fa5 ≤ 15 := h13
  replace h14 : TyC dc r4 := h14
  replace h15 : r4 ≤ 2050 := h15
  replace h16 : ChE B nd n9 ty ty10 mn mn11 := h16
  replace h17 : mnN B nd mn11 := h17
  replace h18 : If (fa5 = 0) (Typ0 B dc fd md nd ty10 mn11 vt sc k9 n9 (nI r4)) := h18
  obtain rfl : v3 = some (.int (nI r4)) := hw2
  have hP : va_P G.1 pCl (mW G h0 a (upd (upd (upd (upd (upd (upd (upd (upd (upd F 15 (nI fa5)) 16 pl6) 44 (nI fd)) 49 (nI md)) 73 (nI sc)) 74 (nI k9)) 77 dn7) 78 wt8) 79 wf9) (updA (updA (updA (updA (updA B 14 nc) 17 ty10) 18 mn11) 48 vn) 49 vt)) _ := mW_to (F := F) (l1 := [(15, (nI fa)), (44, (nI fd)), (49, (nI md)), (73, (nI sc)), (74, (nI k9)), (77, dn), (78, wt), (79, wf), (15, (nI fa5)), (16, pl6), (44, (nI fd)), (49, (nI md)), (73, (nI sc)), (74, (nI k9)), (77, dn7), (78, wt8), (79, wf9)]) (l2 := [(15, (nI fa5)), (16, pl6), (44, (nI fd)), (49, (nI md)), (73, (nI sc)), (74, (nI k9)), (77, dn7), (78, wt8), (79, wf9)]) (V := [(nI fa5), (nI fd), (nI md), (nI sc), (nI k9), dn7, wt8, wf9, (nI fa5), pl6, (nI fd), (nI md), (nI sc), (nI k9), dn7, wt8, wf9, (nI fa5), pl6, (nI fd), (nI md), (nI sc), (nI k9), dn7, wt8, wf9]) rfl rfl rfl hP
  have hD : va_D A (mW G h0 a (upd (upd (upd (upd (upd (upd (upd (upd (upd F 15 (nI fa5)) 16 pl6) 44 (nI fd)) 49 (nI md)) 73 (nI sc)) 74 (nI k9)) 77 dn7) 78 wt8) 79 wf9) (updA (updA (updA (updA (updA B 14 nc) 17 ty10) 18 mn11) 48 vn) 49 vt)) := mW_D hD
  refine W.widen (k := 0) (n := 0) (Nat.le_of_ble_eq_true rfl) (Nat.le_of_ble_eq_true rfl) ?_
  refine W.eq (g2 := F0 m 5 ls [.int (nI r4)]) rfl ?_
  refine lv_istore_n (lv' := [(2, .int (nI r4)), (0, .ref h0), (1, .int (nI n9))]) hx hb dX12_look_5 rfl hl (by decide) rfl (fun ls hl => ?_)
  refine lv_aload_n hx hb dX12_look_6 rfl (lv_at hl 1 rfl) ?_
  refine r_get (v := .ref (a 17)) hx hb hown hq hE hP 25 62 tFX12_25 (by decide) pw_1447 rfl dX12_look_7 ?_
  refine lv_iload_n hx hb dX12_look_10 rfl (lv_at hl 2 rfl) ?_
  refine lv_iload_n hx hb dX12_look_11 rfl (lv_at hl 0 rfl) ?_
  refine r_sti (f := ty10) (j := n9) hx hb hE hP hD hS 17 (ma_17 G a _) rfl (mas_17 G a _) (by omega) (by decide) dX12_look_12 (fun H locs hP hD hS => ?_)
  have hch19 : ChE B nd n9 ty (upd ty10 n9 (nI r4)) mn mn11 := (ChE.trans h16 (ChE.setT sub.rfl))
  refine lv_aload_n hx hb dX12_look_13 rfl (lv_at hl 1 rfl) ?_
  refine lv_aload_n hx hb dX12_look_14 rfl (lv_at hl 1 rfl) ?_
  refine r_get (v := .int wt8) hx hb hown hq hE hP 78 551 tFX12_78 (by decide) pw_1805 rfl dX12_look_15 ?_
  refine lv_aload_n hx hb dX12_look_18 rfl (lv_at hl 1 rfl) ?_
  refine r_get (v := .int wf9) hx hb hown hq hE hP 79 554 tFX12_79 (by decide) pw_1806 rfl dX12_look_19 ?_
  refine lv_iand hx hb dX12_look_22 ?_
  refine lv_topi (fun x20 e21 => ?_)
  refine r_put (v := x20) (ty := .int) hx hb hown hq hE hP hD hS 77 544 tFX12_77 (by decide) pw_1796 (by decide) rfl rfl (ms_77 a _ _) dX12_look_23 (fun H locs hP hD hS => ?_)
  refine lv_iload_n hx hb dX12_look_26 rfl (lv_at hl 0 rfl) ?_
  have hz22 : fa ≤ fa5 := (by omega)
  have hz23 : fa5 ≤ 15 := (by omega)
  have hz24 : TyC dc r4 := h14
  have hz25 : r4 ≤ 2050 := (by omega)
  have hz26 : ChE B nd n9 ty (upd ty10 n9 (nI r4)) mn mn11 := hch19
  have hz27 : mnN B nd mn11 := h17
  have hz28 : If (fa5 = 0) (Typ B dc fd md nd (upd ty10 n9 (nI r4)) mn11 vt sc k9 n9) := (fun e => Typ0.st hF (by omega) hn9 (h18 e))
  have hz29 : (upd ty10 n9 (nI r4)) n9 = nI r4 := upd_eq
  have hP : va_P G.1 pCl (mW G h0 a (upd (upd (upd (upd (upd (upd (upd (upd (upd F 15 (nI fa5)) 16 pl6) 44 (nI fd)) 49 (nI md)) 73 (nI sc)) 74 (nI k9)) 77 x20) 78 wt8) 79 wf9) (updA (updA (updA (updA (updA B 14 nc) 17 (upd ty10 n9 (nI r4))) 18 mn11) 48 vn) 49 vt)) _ := mW_to (F := F) (l1 := [(15, (nI fa5)), (16, pl6), (44, (nI fd)), (49, (nI md)), (73, (nI sc)), (74, (nI k9)), (77, dn7), (78, wt8), (79, wf9), (77, x20)]) (l2 := [(15, (nI fa5)), (16, pl6), (44, (nI fd)), (49, (nI md)), (73, (nI sc)), (74, (nI k9)), (77, x20), (78, wt8), (79, wf9)]) (V := [(nI fa5), pl6, (nI fd), (nI md), (nI sc), (nI k9), x20, wt8, wf9, x20, (nI fa5), pl6, (nI fd), (nI md), (nI sc), (nI k9), x20, wt8, wf9]) rfl rfl (show (updA (updA (updA (updA (updA (updA B 14 nc) 17 ty10) 18 mn11) 48 vn) 49 vt) 17 (upd ty10 n9 (nI r4))) = (updA (updA (updA (updA (updA B 14 nc) 17 (upd ty10 n9 (nI r4))) 18 mn11) 48 vn) 49 vt) from updsA_eq2 (F := B) (l1 := [(14, nc), (17, ty10), (18, mn11), (48, vn), (49, vt), (17, (upd ty10 n9 (nI r4)))]) (l2 := [(14, nc), (17, (upd ty10 n9 (nI r4))), (18, mn11), (48, vn), (49, vt)]) (V := [nc, (upd ty10 n9 (nI r4)), mn11, vn, vt, (upd ty10 n9 (nI r4)), nc, (upd ty10 n9 (nI r4)), mn11, vn, vt]) rfl rfl) hP
  have hD : va_D A (mW G h0 a (upd (upd (upd (upd (upd (upd (upd (upd (upd F 15 (nI fa5)) 16 pl6) 44 (nI fd)) 49 (nI md)) 73 (nI sc)) 74 (nI k9)) 77 x20) 78 wt8) 79 wf9) (updA (updA (updA (updA (updA B 14 nc) 17 (upd ty10 n9 (nI r4))) 18 mn11) 48 vn) 49 vt)) := mW_D hD
  exact W.iret (v := (nI r4)) hx hb hr (fun t9 ht9 hW9 => ⟨⟨_, (r4, fa5, pl6, x20, wt8, wf9, (upd ty10 n9 (nI r4)), mn11), rfl, ⟨rfl, hz22, hz23, hz24, hz25, hz26, hz27, hz28, hz29⟩, by rw [ht9]; exact hP, hD⟩, hS.F ht9⟩) hS.2.2 dX12_look_27
theorem dX12_wants_0 : decode cX12_wants 0 = .ok (.aload_n 0, 1) := by decide +kernel
theorem dX12_wants_1 : decode cX12_wants 1 = .ok (.iload_n 1, 1) := by decide +kernel
theorem dX12_wants_2 : decode cX12_wants 2 = .ok (.invokevirtual 557, 3) := by decide +kernel
theorem dX12_wants_5 : decode cX12_wants 5 = .ok (.istore_n 3, 1) := by decide +kernel
theorem dX12_wants_6 : decode cX12_wants 6 = .ok (.aload_n 0, 1) := by decide +kernel
theorem dX12_wants_7 : decode cX12_wants 7 = .ok (.iload_n 3, 1) := by decide +kernel
theorem dX12_wants_8 : decode cX12_wants 8 = .ok (.iload_n 2, 1) := by decide +kernel
theorem dX12_wants_9 : decode cX12_wants 9 = .ok (.if_icmp .ne 7, 3) := by decide +kernel
theorem dX12_wants_16 : decode cX12_wants 16 = .ok (.iconst 0, 1) := by decide +kernel
theorem dX12_wants_17 : decode cX12_wants 17 = .ok (.bipush 11, 2) := by decide +kernel
theorem dX12_wants_19 : decode cX12_wants 19 = .ok (.aload_n 0, 1) := by decide +kernel
theorem dX12_wants_20 : decode cX12_wants 20 = .ok (.getfield 41, 3) := by decide +kernel
theorem dX12_wants_23 : decode cX12_wants 23 = .ok (.iload_n 1, 1) := by decide +kernel
theorem dX12_wants_24 : decode cX12_wants 24 = .ok (.iaload, 1) := by decide +kernel
theorem dX12_wants_25 : decode cX12_wants 25 = .ok (.invokevirtual 540, 3) := by decide +kernel
theorem dX12_wants_28 : decode cX12_wants 28 = .ok (.pop, 1) := by decide +kernel
theorem dX12_wants_29 : decode cX12_wants 29 = .ok (.return_, 1) := by decide +kernel
theorem dX12_wants_12 : decode cX12_wants 12 = .ok (.iconst 1, 1) := by decide +kernel
theorem dX12_wants_13 : decode cX12_wants 13 = .ok (.goto 4, 3) := by decide +kernel
set_option maxHeartbeats 6000000 in
set_option maxRecDepth 100000 in
/-- wants(n, type) -/
theorem L_wants (l : Launch) (G : pT) (h0 : Nat) (a : Nat → Nat) (F : Nat → Int32) (B : Nat → Nat → Int32) (n9 : Nat) (z9 : Nat) (fa : Nat) (sc : Nat) (k9 : Nat) (nd : Nat) (T : Nat) (nm : Nat) (wr : Nat) (lz : Nat) (dc : Nat) (fd : Nat) (md : Nat) (pr : Nat) (bk : Nat) (gh : Nat → Nat → Nat) (dn : Int32) (wt : Int32) (wf : Int32) (nc : Nat → Int32) (ty : Nat → Int32) (mn : Nat → Int32) (vn : Nat → Int32) (vt : Nat → Int32) (ta : Nat) (hst : St B gh nd T nm wr lz dc fd md pr bk) (hnm : nd ≤ 12000 ∧ T ≤ 5000 ∧ wr ≤ 5000 ∧ 7 ≤ dc ∧ dc ≤ 37 ∧ fd ≤ 620 ∧ md ≤ 920 ∧ pr ≤ 5000) (hn9 : n9 < nd) (hz : gh 1 n9 < z9) (hfa : fa ≤ 15) (hsc : sc ≤ 30) (hk9 : 7 ≤ k9 ∧ k9 < dc) (hnc : ∀ i : Nat, i < nd → ¬ B 9 i = 44 → nc i = B 14 i) (hmn : mnN B nd mn) (hvt : ∀ i : Nat, i < sc → tyOK dc (vt i)) (hkc : kcl 1 (B 9 n9) = true) (hta : ta ≤ 2050) (hL9 : Plook l G z9) : PM l G pX0 yX12_wants cX12_wants 4 none ({ frames := (4 * z9 + 12), cells := 0, slots := 0, locals := (160 * z9 + 1480) }) [.ref h0, .int (nI n9), .int (nI ta)] (mW G h0 a (upd (upd (upd (upd (upd (upd (upd (upd F 15 (nI fa)) 44 (nI fd)) 49 (nI md)) 73 (nI sc)) 74 (nI k9)) 77 dn) 78 wt) 79 wf) (updA (updA (updA (updA (updA B 14 nc) 17 ty) 18 mn) 48 vn) 49 vt)) (fun (v : Option Value) (u : Nat × Int32 × Int32 × Int32 × Int32 × (Nat → Int32) × (Nat → Int32)) => v = none ∧ (fa ≤ u.1) ∧ (u.1 ≤ 15) ∧ (ChE B nd n9 ty u.2.2.2.2.2.1 mn u.2.2.2.2.2.2) ∧ (mnN B nd u.2.2.2.2.2.2) ∧ (If (u.1 = 0) (Typ B dc fd md nd u.2.2.2.2.2.1 u.2.2.2.2.2.2 vt sc k9 n9 ∧ u.2.2.2.2.2.1 n9 = nI ta))) (fun u => (mW G h0 a (upd (upd (upd (upd (upd (upd (upd (upd (upd F 15 (nI u.1)) 16 u.2.1) 44 (nI fd)) 49 (nI md)) 73 (nI sc)) 74 (nI k9)) 77 u.2.2.1) 78 u.2.2.2.1) 79 u.2.2.2.2.1) (updA (updA (updA (updA (updA B 14 nc) 17 u.2.2.2.2.2.1) 18 u.2.2.2.2.2.2) 48 vn) 49 vt))) := by
  intro sz
  refine Met.ofW (cc := cX12_wants) (maxL := 4) (ret := none) (by decide) rfl ?_
  intro p e s m args below meth c s₁ B9 hml hv
  obtain ⟨rfl, hsz, hP, hD0, hE, hX⟩ := hv
  have hx := B9.exec
  have hb := B9.bytes
  have hr := B9.returns
  have hts := atoms_spec (ws := Cond.code yX12_wants cX12_wants 4 none :: pw) B9.pre
  have hq : ∀ w ∈ pw, w.before _ s = true := fun w h => hts w (List.mem_cons_of_mem _ h)
  have hown : s.vm.findClass RX12 = some m.cls := findClass_of_methodNamed B9.named
  have hlocks := B9.notSynchronized
  subst hsz
  have hD := hD0.self (sz := s.heap.size)
  have hA : ∀ q : Nat, s.heap.size ≤ q → va_A (mW G h0 a (upd (upd (upd (upd (upd (upd (upd (upd F 15 (nI fa)) 44 (nI fd)) 49 (nI md)) 73 (nI sc)) 74 (nI k9)) 77 dn) 78 wt) 79 wf) (updA (updA (updA (updA (updA B 14 nc) 17 ty) 18 mn) 48 vn) 49 vt)) s.heap.size q := fun q h => Or.inr h
  have hP : va_P G.1 pCl (mW G h0 a (upd (upd (upd (upd (upd (upd (upd (upd F 15 (nI fa)) 44 (nI fd)) 49 (nI md)) 73 (nI sc)) 74 (nI k9)) 77 dn) 78 wt) 79 wf) (updA (updA (updA (updA (updA B 14 nc) 17 ty) 18 mn) 48 vn) 49 vt)) s.heap := hP
  generalize va_A (mW G h0 a (upd (upd (upd (upd (upd (upd (upd (upd F 15 (nI fa)) 44 (nI fd)) 49 (nI md)) 73 (nI sc)) 74 (nI k9)) 77 dn) 78 wt) 79 wf) (updA (updA (updA (updA (updA B 14 nc) 17 ty) 18 mn) 48 vn) 49 vt)) s.heap.size = A at hD hE hA ⊢
  have hS : va_S A s.heap s.heap [] := va_S.rf
  have hl := lv_entry ([.ref h0, .int (nI n9), .int (nI ta)]) (n := 4) (Nat.le_of_ble_eq_true rfl)
  rw [lg_entry_eq]
  generalize (lg_sl ([.ref h0, .int (nI n9), .int (nI ta)]) ++ List.replicate (4 - (lg_sl ([.ref h0, .int (nI n9), .int (nI ta)])).length) Slot.unset).toArray = ls at hl ⊢
  have hl : lv_has ls 4 [(0, .ref h0), (1, .int (nI n9)), (2, .int (nI ta))] := hl
  have hF := hst.1
  have hPS := hst.2.1
  have hBI := hst.2.2.1
  have hRK := hst.2.2.2.1
  have hTY := hst.2.2.2.2.1
  have hNW := hst.2.2.2.2.2.1
  have hTK := hst.2.2.2.2.2.2
  refine lv_aload_n hx hb dX12_wants_0 rfl (lv_at hl 0 rfl) ?_
  refine lv_iload_n hx hb dX12_wants_1 rfl (lv_at hl 1 rfl) ?_
  have hP : va_P G.1 pCl (mW G h0 a (upd (upd (upd (upd (upd (upd (upd (upd (upd (upd (upd (upd (upd (upd (upd (upd F 15 (nI fa)) 44 (nI fd)) 49 (nI md)) 73 (nI sc)) 74 (nI k9)) 77 dn) 78 wt) 79 wf) 15 (nI fa)) 44 (nI fd)) 49 (nI md)) 73 (nI sc)) 74 (nI k9)) 77 dn) 78 wt) 79 wf) (updA (updA (updA (updA (updA B 14 nc) 17 ty) 18 mn) 48 vn) 49 vt)) _ := mW_to (F := F) (l1 := [(15, (nI fa)), (44, (nI fd)), (49, (nI md)), (73, (nI sc)), (74, (nI k9)), (77, dn), (78, wt), (79, wf)]) (l2 := [(15, (nI fa)), (44, (nI fd)), (49, (nI md)), (73, (nI sc)), (74, (nI k9)), (77, dn), (78, wt), (79, wf), (15, (nI fa)), (44, (nI fd)), (49, (nI md)), (73, (nI sc)), (74, (nI k9)), (77, dn), (78, wt), (79, wf)]) (V := [(nI fa), (nI fd), (nI md), (nI sc), (nI k9), dn, wt, wf, (nI fa), (nI fd), (nI md), (nI sc), (nI k9), dn, wt, wf, (nI fa), (nI fd), (nI md), (nI sc), (nI k9), dn, wt, wf]) rfl rfl rfl hP
  have hD : va_D A (mW G h0 a (upd (upd (upd (upd (upd (upd (upd (upd (upd (upd (upd (upd (upd (upd (upd (upd F 15 (nI fa)) 44 (nI fd)) 49 (nI md)) 73 (nI sc)) 74 (nI k9)) 77 dn) 78 wt) 79 wf) 15 (nI fa)) 44 (nI fd)) 49 (nI md)) 73 (nI sc)) 74 (nI k9)) 77 dn) 78 wt) 79 wf) (updA (updA (updA (updA (updA B 14 nc) 17 ty) 18 mn) 48 vn) 49 vt)) := mW_D hD
  refine pc_V0 (G := G) (As := [.int (nI n9)]) (rest := []) hx hb hml hown hq hE hX pX0_al hP hD hS hA hl.1 (hL9 h0 a (upd (upd (upd (upd (upd (upd (upd (upd F 15 (nI fa)) 44 (nI fd)) 49 (nI md)) 73 (nI sc)) 74 (nI k9)) 77 dn) 78 wt) 79 wf) B n9 fa sc k9 nd T nm wr lz dc fd md pr bk gh dn wt wf nc ty mn vn vt hst hnm hn9 (by omega) (by omega) (by omega) hk9 hnc hmn hvt hkc) (gV pw_1822 pw_1823 pw_1824 pw_1523 pw_1830) hV_X12_look 0 9 rfl rfl rfl rfl (Nat.le_of_ble_eq_true rfl) dX12_wants_2 ⟨Nat.le_of_ble_eq_true rfl, Nat.le_of_ble_eq_true rfl⟩ ⟨(by show (4 * z9 + 11) + 1 ≤ (4 * z9 + 12); omega), (by show 8 + (3 + 11) + (160 * z9 + 1440) ≤ (160 * z9 + 1480); omega)⟩ (fun v3 u1 H locs hw2 hP hD hS => ?_)
  obtain ⟨r4, fa5, pl6, dn7, wt8, wf9, ty10, mn11⟩ := u1
  obtain ⟨hw2, h12, h13, h14, h15, h16, h17, h18, h19⟩ := hw2
  replace h12 : fa ≤ fa5 := h12
  replace h13 : fa5 ≤ 15 := h13
  replace h14 : TyC dc r4 := h14
  replace h15 : r4 ≤ 2050 := h15
  replace h16 : ChE B nd n9 ty ty10 mn mn11 := h16
  replace h17 : mnN B nd mn11 := h17
  replace h18 : If (fa5 = 0) (Typ B dc fd md nd ty10 mn11 vt sc k9 n9) := h18
  replace h19 : ty10 n9 = nI r4 := h19
  obtain rfl : v3 = some (.int (nI r4)) := hw2
  have hP : va_P G.1 pCl (mW G h0 a (upd (upd (upd (upd (upd (upd (upd (upd (upd F 15 (nI fa5)) 16 pl6) 44 (nI fd)) 49 (nI md)) 73 (nI sc)) 74 (nI k9)) 77 dn7) 78 wt8) 79 wf9) (updA (updA (updA (updA (updA B 14 nc) 17 ty10) 18 mn11) 48 vn) 49 vt)) _ := mW_to (F := F) (l1 := [(15, (nI fa)), (44, (nI fd)), (49, (nI md)), (73, (nI sc)), (74, (nI k9)), (77, dn), (78, wt), (79, wf), (15, (nI fa5)), (16, pl6), (44, (nI fd)), (49, (nI md)), (73, (nI sc)), (74, (nI k9)), (77, dn7), (78, wt8), (79, wf9)]) (l2 := [(15, (nI fa5)), (16, pl6), (44, (nI fd)), (49, (nI md)), (73, (nI sc)), (74, (nI k9)), (77, dn7), (78, wt8), (79, wf9)]) (V := [(nI fa5), (nI fd), (nI md), (nI sc), (nI k9), dn7, wt8, wf9, (nI fa5), pl6, (nI fd), (nI md), (nI sc), (nI k9), dn7, wt8, wf9, (nI fa5), pl6, (nI fd), (nI md), (nI sc), (nI k9), dn7, wt8, wf9]) rfl rfl rfl hP
  have hD : va_D A (mW G h0 a (upd (upd (upd (upd (upd (upd (upd (upd (upd F 15 (nI fa5)) 16 pl6) 44 (nI fd)) 49 (nI md)) 73 (nI sc)) 74 (nI k9)) 77 dn7) 78 wt8) 79 wf9) (updA (updA (updA (updA (updA B 14 nc) 17 ty10) 18 mn11) 48 vn) 49 vt)) := mW_D hD
  refine W.widen (k := 0) (n := 0) (Nat.le_of_ble_eq_true rfl) (Nat.le_of_ble_eq_true rfl) ?_
  refine W.eq (g2 := F0 m 5 ls [.int (nI r4)]) rfl ?_
  refine lv_istore_n (lv' := [(3, .int (nI r4)), (0, .ref h0), (1, .int (nI n9)), (2, .int (nI ta))]) hx hb dX12_wants_5 rfl hl (by decide) rfl (fun ls hl => ?_)
  refine lv_aload_n hx hb dX12_wants_6 rfl (lv_at hl 1 rfl) ?_
  refine lv_iload_n hx hb dX12_wants_7 rfl (lv_at hl 0 rfl) ?_
  refine lv_iload_n hx hb dX12_wants_8 rfl (lv_at hl 3 rfl) ?_
  refine lv_icmp_ne (tgt := 16) hx hb dX12_wants_9 (by decide) (fun c20 => ?_) (fun c20 => ?_)
  · have n21 : ¬ (r4 = ta) := fun h9 => c20 ((nI_eq (a := r4) (b := ta) (by omega) (by omega)).mpr h9)
    refine lv_iconst (v := 0) hx hb dX12_wants_16 (by decide) ?_
    refine lv_bipush (v := 11) hx hb dX12_wants_17 (by decide) ?_
    refine lv_aload_n hx hb dX12_wants_19 rfl (lv_at hl 1 rfl) ?_
    refine r_get (v := .ref (a 10)) hx hb hown hq hE hP 18 41 tFX12_18 (by decide) pw_1440 rfl dX12_wants_20 ?_
    refine lv_iload_n hx hb dX12_wants_23 rfl (lv_at hl 2 rfl) ?_
    refine r_ldi (f := (B 10)) (j := n9) hx hb hE hP 10 (ma_10 G a _) rfl (by omega) (by decide) dX12_wants_24 ?_
    obtain ⟨⟨t22, e23, h24⟩, -⟩ := hF n9 hn9
    refine lv_topi (fun x25 e26 => ?_)
    obtain rfl : x25 = nI t22 := e26.trans e23
    have hP : va_P G.1 pCl (mW G h0 a (upd (upd (upd (upd (upd (upd (upd (upd (upd (upd F 15 (nI fa5)) 16 pl6) 44 (nI fd)) 49 (nI md)) 73 (nI sc)) 74 (nI k9)) 77 dn7) 78 wt8) 79 wf9) 15 (nI fa5)) (updA (updA (updA (updA (updA B 14 nc) 17 ty10) 18 mn11) 48 vn) 49 vt)) _ := mW_to (F := F) (l1 := [(15, (nI fa5)), (16, pl6), (44, (nI fd)), (49, (nI md)), (73, (nI sc)), (74, (nI k9)), (77, dn7), (78, wt8), (79, wf9)]) (l2 := [(15, (nI fa5)), (16, pl6), (44, (nI fd)), (49, (nI md)), (73, (nI sc)), (74, (nI k9)), (77, dn7), (78, wt8), (79, wf9), (15, (nI fa5))]) (V := [(nI fa5), pl6, (nI fd), (nI md), (nI sc), (nI k9), dn7, wt8, wf9, (nI fa5), pl6, (nI fd), (nI md), (nI sc), (nI k9), dn7, wt8, wf9, (nI fa5)]) rfl rfl rfl hP
    have hD : va_D A (mW G h0 a (upd (upd (upd (upd (upd (upd (upd (upd (upd (upd F 15 (nI fa5)) 16 pl6) 44 (nI fd)) 49 (nI md)) 73 (nI sc)) 74 (nI k9)) 77 dn7) 78 wt8) 79 wf9) 15 (nI fa5)) (updA (updA (updA (updA (updA B 14 nc) 17 ty10) 18 mn11) 48 vn) 49 vt)) := mW_D hD
    refine pc_V0 (G := G) (As := [.int (nI 0), .int (nI 11), .int (nI t22)]) (rest := []) hx hb hml hown hq hE hX pX0_al hP hD hS hA hl.1 (R_judgeL l G h0 a (upd (upd (upd (upd (upd (upd (upd (upd (upd F 15 (nI fa5)) 16 pl6) 44 (nI fd)) 49 (nI md)) 73 (nI sc)) 74 (nI k9)) 77 dn7) 78 wt8) 79 wf9) (updA (updA (updA (updA (updA B 14 nc) 17 ty10) 18 mn11) 48 vn) 49 vt) 0 11 t22 fa5 (by omega) (by omega) (by omega) (by omega)) (gV pw_1798 pw_1799 pw_1800 pw_1523 pw_1793) hV_X12_judge 0 9 rfl rfl rfl rfl (Nat.le_of_ble_eq_true rfl) dX12_wants_25 ⟨Nat.le_of_ble_eq_true rfl, Nat.le_of_ble_eq_true rfl⟩ ⟨(by show 3 + 1 ≤ (4 * z9 + 12); omega), (by show 8 + (4 + 11) + 82 ≤ (160 * z9 + 1480); omega)⟩ (fun v29 u27 H locs hw28 hP hD hS => ?_)
    obtain ⟨r30, fa31, pl32⟩ := u27
    obtain ⟨hw28, h33, h34, h35, h36, h37, h38, h39⟩ := hw28
    replace h33 : r30 ≤ 1 := h33
    replace h34 : fa5 ≤ fa31 := h34
    replace h35 : fa31 ≤ 15 := h35
    replace h36 : fa31 + 15 * r30 ≤ 15 := h36
    replace h37 : 1 ≤ r30 + fa31 := h37
    replace h38 : 1 ≤ 0 + fa31 := h38
    replace h39 : fa31 ≤ fa5 + 15 * (1 - 0) := h39
    obtain rfl : v29 = some (.int (nI r30)) := hw28
    have hP : va_P G.1 pCl (mW G h0 a (upd (upd (upd (upd (upd (upd (upd (upd (upd F 15 (nI fa31)) 16 pl32) 44 (nI fd)) 49 (nI md)) 73 (nI sc)) 74 (nI k9)) 77 dn7) 78 wt8) 79 wf9) (updA (updA (updA (updA (updA B 14 nc) 17 ty10) 18 mn11) 48 vn) 49 vt)) _ := mW_to (F := F) (l1 := [(15, (nI fa5)), (16, pl6), (44, (nI fd)), (49, (nI md)), (73, (nI sc)), (74, (nI k9)), (77, dn7), (78, wt8), (79, wf9), (15, (nI fa31)), (16, pl32)]) (l2 := [(15, (nI fa31)), (16, pl32), (44, (nI fd)), (49, (nI md)), (73, (nI sc)), (74, (nI k9)), (77, dn7), (78, wt8), (79, wf9)]) (V := [(nI fa31), pl32, (nI fd), (nI md), (nI sc), (nI k9), dn7, wt8, wf9, (nI fa31), pl32, (nI fa31), pl32, (nI fd), (nI md), (nI sc), (nI k9), dn7, wt8, wf9]) rfl rfl rfl hP
    have hD : va_D A (mW G h0 a (upd (upd (upd (upd (upd (upd (upd (upd (upd F 15 (nI fa31)) 16 pl32) 44 (nI fd)) 49 (nI md)) 73 (nI sc)) 74 (nI k9)) 77 dn7) 78 wt8) 79 wf9) (updA (updA (updA (updA (updA B 14 nc) 17 ty10) 18 mn11) 48 vn) 49 vt)) := mW_D hD
    refine W.widen (k := 0) (n := 0) (Nat.le_of_ble_eq_true rfl) (Nat.le_of_ble_eq_true rfl) ?_
    refine W.eq (g2 := F0 m 28 ls [.int (nI r30)]) rfl ?_
    refine lv_pop hx hb dX12_wants_28 rfl ?_
    have hz40 : fa ≤ fa31 := (by omega)
    have hz41 : fa31 ≤ 15 := (by omega)
    have hz42 : ChE B nd n9 ty ty10 mn mn11 := h16
    have hz43 : mnN B nd mn11 := h17
    have hz44 : If (fa31 = 0) (Typ B dc fd md nd ty10 mn11 vt sc k9 n9 ∧ ty10 n9 = nI ta) := (fun e => absurd e (by omega))
    have hP : va_P G.1 pCl (mW G h0 a (upd (upd (upd (upd (upd (upd (upd (upd (upd F 15 (nI fa31)) 16 pl32) 44 (nI fd)) 49 (nI md)) 73 (nI sc)) 74 (nI k9)) 77 dn7) 78 wt8) 79 wf9) (updA (updA (updA (updA (updA B 14 nc) 17 ty10) 18 mn11) 48 vn) 49 vt)) _ := hP
    have hD : va_D A (mW G h0 a (upd (upd (upd (upd (upd (upd (upd (upd (upd F 15 (nI fa31)) 16 pl32) 44 (nI fd)) 49 (nI md)) 73 (nI sc)) 74 (nI k9)) 77 dn7) 78 wt8) 79 wf9) (updA (updA (updA (updA (updA B 14 nc) 17 ty10) 18 mn11) 48 vn) 49 vt)) := mW_D hD
    exact W.vret hx hb hr (fun t9 ht9 hW9 => ⟨⟨_, (fa31, pl32, dn7, wt8, wf9, ty10, mn11), rfl, ⟨rfl, hz40, hz41, hz42, hz43, hz44⟩, by rw [ht9]; exact hP, hD⟩, hS.F ht9⟩) hS.2.2 dX12_wants_29
  · have n45 : r4 = ta := (nI_eq (a := r4) (b := ta) (by omega) (by omega)).mp c20
    refine lv_iconst (v := 1) hx hb dX12_wants_12 (by decide) ?_
    refine lv_goto (tgt := 17) hx hb dX12_wants_13 (by decide) ?_
    refine lv_bipush (v := 11) hx hb dX12_wants_17 (by decide) ?_
    refine lv_aload_n hx hb dX12_wants_19 rfl (lv_at hl 1 rfl) ?_
    refine r_get (v := .ref (a 10)) hx hb hown hq hE hP 18 41 tFX12_18 (by decide) pw_1440 rfl dX12_wants_20 ?_
    refine lv_iload_n hx hb dX12_wants_23 rfl (lv_at hl 2 rfl) ?_
    refine r_ldi (f := (B 10)) (j := n9) hx hb hE hP 10 (ma_10 G a _) rfl (by omega) (by decide) dX12_wants_24 ?_
    obtain ⟨⟨t46, e47, h48⟩, -⟩ := hF n9 hn9
    refine lv_topi (fun x49 e50 => ?_)
    obtain rfl : x49 = nI t46 := e50.trans e47
    have hP : va_P G.1 pCl (mW G h0 a (upd (upd (upd (upd (upd (upd (upd (upd (upd (upd F 15 (nI fa5)) 16 pl6) 44 (nI fd)) 49 (nI md)) 73 (nI sc)) 74 (nI k9)) 77 dn7) 78 wt8) 79 wf9) 15 (nI fa5)) (updA (updA (updA (updA (updA B 14 nc) 17 ty10) 18 mn11) 48 vn) 49 vt)) _ := mW_to (F := F) (l1 := [(15, (nI fa5)), (16, pl6), (44, (nI fd)), (49, (nI md)), (73, (nI sc)), (74, (nI k9)), (77, dn7), (78, wt8), (79, wf9)]) (l2 := [(15, (nI fa5)), (16, pl6), (44, (nI fd)), (49, (nI md)), (73, (nI sc)), (74, (nI k9)), (77, dn7), (78, wt8), (79, wf9), (15, (nI fa5))]) (V := [(nI fa5), pl6, (nI fd), (nI md), (nI sc), (nI k9), dn7, wt8, wf9, (nI fa5), pl6, (nI fd), (nI md), (nI sc), (nI k9), dn7, wt8, wf9, (nI fa5)]) rfl rfl rfl hP
    have hD : va_D A (mW G h0 a (upd (upd (upd (upd (upd (upd (upd (upd (upd (upd F 15 (nI fa5)) 16 pl6) 44 (nI fd)) 49 (nI md)) 73 (nI sc)) 74 (nI k9)) 77 dn7) 78 wt8) 79 wf9) 15 (nI fa5)) (updA (updA (updA (updA (updA B 14 nc) 17 ty10) 18 mn11) 48 vn) 49 vt)) := mW_D hD
    refine pc_V0 (G := G) (As := [.int (nI 1), .int (nI 11), .int (nI t46)]) (rest := []) hx hb hml hown hq hE hX pX0_al hP hD hS hA hl.1 (R_judgeL l G h0 a (upd (upd (upd (upd (upd (upd (upd (upd (upd F 15 (nI fa5)) 16 pl6) 44 (nI fd)) 49 (nI md)) 73 (nI sc)) 74 (nI k9)) 77 dn7) 78 wt8) 79 wf9) (updA (updA (updA (updA (updA B 14 nc) 17 ty10) 18 mn11) 48 vn) 49 vt) 1 11 t46 fa5 (by omega) (by omega) (by omega) (by omega)) (gV pw_1798 pw_1799 pw_1800 pw_1523 pw_1793) hV_X12_judge 0 9 rfl rfl rfl rfl (Nat.le_of_ble_eq_true rfl) dX12_wants_25 ⟨Nat.le_of_ble_eq_true rfl, Nat.le_of_ble_eq_true rfl⟩ ⟨(by show 3 + 1 ≤ (4 * z9 + 12); omega), (by show 8 + (4 + 11) + 82 ≤ (160 * z9 + 1480); omega)⟩ (fun v53 u51 H locs hw52 hP hD hS => ?_)
    obtain ⟨r54, fa55, pl56⟩ := u51
    obtain ⟨hw52, h57, h58, h59, h60, h61, h62, h63⟩ := hw52
    replace h57 : r54 ≤ 1 := h57
    replace h58 : fa5 ≤ fa55 := h58
    replace h59 : fa55 ≤ 15 := h59
    replace h60 : fa55 + 15 * r54 ≤ 15 := h60
    replace h61 : 1 ≤ r54 + fa55 := h61
    replace h62 : 1 ≤ 1 + fa55 := h62
    replace h63 : fa55 ≤ fa5 + 15 * (1 - 1) := h63
    obtain rfl : v53 = some (.int (nI r54)) := hw52
    have hP : va_P G.1 pCl (mW G h0 a (upd (upd (upd (upd (upd (upd (upd (upd (upd F 15 (nI fa55)) 16 pl56) 44 (nI fd)) 49 (nI md)) 73 (nI sc)) 74 (nI k9)) 77 dn7) 78 wt8) 79 wf9) (updA (updA (updA (updA (updA B 14 nc) 17 ty10) 18 mn11) 48 vn) 49 vt)) _ := mW_to (F := F) (l1 := [(15, (nI fa5)), (16, pl6), (44, (nI fd)), (49, (nI md)), (73, (nI sc)), (74, (nI k9)), (77, dn7), (78, wt8), (79, wf9), (15, (nI fa55)), (16, pl56)]) (l2 := [(15, (nI fa55)), (16, pl56), (44, (nI fd)), (49, (nI md)), (73, (nI sc)), (74, (nI k9)), (77, dn7), (78, wt8), (79, wf9)]) (V := [(nI fa55), pl56, (nI fd), (nI md), (nI sc), (nI k9), dn7, wt8, wf9, (nI fa55), pl56, (nI fa55), pl56, (nI fd), (nI md), (nI sc), (nI k9), dn7, wt8, wf9]) rfl rfl rfl hP
    have hD : va_D A (mW G h0 a (upd (upd (upd (upd (upd (upd (upd (upd (upd F 15 (nI fa55)) 16 pl56) 44 (nI fd)) 49 (nI md)) 73 (nI sc)) 74 (nI k9)) 77 dn7) 78 wt8) 79 wf9) (updA (updA (updA (updA (updA B 14 nc) 17 ty10) 18 mn11) 48 vn) 49 vt)) := mW_D hD
    refine W.widen (k := 0) (n := 0) (Nat.le_of_ble_eq_true rfl) (Nat.le_of_ble_eq_true rfl) ?_
    refine W.eq (g2 := F0 m 28 ls [.int (nI r54)]) rfl ?_
    refine lv_pop hx hb dX12_wants_28 rfl ?_
    have hz64 : fa ≤ fa55 := (by omega)
    have hz65 : fa55 ≤ 15 := (by omega)
    have hz66 : ChE B nd n9 ty ty10 mn mn11 := h16
    have hz67 : mnN B nd mn11 := h17
    have hz68 : If (fa55 = 0) (Typ B dc fd md nd ty10 mn11 vt sc k9 n9 ∧ ty10 n9 = nI ta) := (fun e => ⟨h18 (by omega), h19.trans (by rw [show r4 = ta by omega])⟩)
    have hP : va_P G.1 pCl (mW G h0 a (upd (upd (upd (upd (upd (upd (upd (upd (upd F 15 (nI fa55)) 16 pl56) 44 (nI fd)) 49 (nI md)) 73 (nI sc)) 74 (nI k9)) 77 dn7) 78 wt8) 79 wf9) (updA (updA (updA (updA (updA B 14 nc) 17 ty10) 18 mn11) 48 vn) 49 vt)) _ := hP
    have hD : va_D A (mW G h0 a (upd (upd (upd (upd (upd (upd (upd (upd (upd F 15 (nI fa55)) 16 pl56) 44 (nI fd)) 49 (nI md)) 73 (nI sc)) 74 (nI k9)) 77 dn7) 78 wt8) 79 wf9) (updA (updA (updA (updA (updA B 14 nc) 17 ty10) 18 mn11) 48 vn) 49 vt)) := mW_D hD
    exact W.vret hx hb hr (fun t9 ht9 hW9 => ⟨⟨_, (fa55, pl56, dn7, wt8, wf9, ty10, mn11), rfl, ⟨rfl, hz64, hz65, hz66, hz67, hz68⟩, by rw [ht9]; exact hP, hD⟩, hS.F ht9⟩) hS.2.2 dX12_wants_29

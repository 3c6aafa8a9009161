theorem dX12_lookWhile_0 : decode cX12_lookWhile 0 = .ok (.aload_n 0, 1) := by decide +kernel
theorem dX12_lookWhile_1 : decode cX12_lookWhile 1 = .ok (.getfield 65, 3) := by decide +kernel
theorem dX12_lookWhile_4 : decode cX12_lookWhile 4 = .ok (.iload_n 1, 1) := by decide +kernel
theorem dX12_lookWhile_5 : decode cX12_lookWhile 5 = .ok (.aload_n 0, 1) := by decide +kernel
theorem dX12_lookWhile_6 : decode cX12_lookWhile 6 = .ok (.getfield 537, 3) := by decide +kernel
theorem dX12_lookWhile_9 : decode cX12_lookWhile 9 = .ok (.iastore, 1) := by decide +kernel
theorem dX12_lookWhile_10 : decode cX12_lookWhile 10 = .ok (.aload_n 0, 1) := by decide +kernel
theorem dX12_lookWhile_11 : decode cX12_lookWhile 11 = .ok (.getfield 633, 3) := by decide +kernel
theorem dX12_lookWhile_14 : decode cX12_lookWhile 14 = .ok (.istore_n 2, 1) := by decide +kernel
theorem dX12_lookWhile_15 : decode cX12_lookWhile 15 = .ok (.aload_n 0, 1) := by decide +kernel
theorem dX12_lookWhile_16 : decode cX12_lookWhile 16 = .ok (.getfield 636, 3) := by decide +kernel
theorem dX12_lookWhile_19 : decode cX12_lookWhile 19 = .ok (.istore_n 3, 1) := by decide +kernel
theorem dX12_lookWhile_20 : decode cX12_lookWhile 20 = .ok (.aload_n 0, 1) := by decide +kernel
theorem dX12_lookWhile_21 : decode cX12_lookWhile 21 = .ok (.aload_n 0, 1) := by decide +kernel
theorem dX12_lookWhile_22 : decode cX12_lookWhile 22 = .ok (.getfield 47, 3) := by decide +kernel
theorem dX12_lookWhile_25 : decode cX12_lookWhile 25 = .ok (.iload_n 1, 1) := by decide +kernel
theorem dX12_lookWhile_26 : decode cX12_lookWhile 26 = .ok (.iaload, 1) := by decide +kernel
theorem dX12_lookWhile_27 : decode cX12_lookWhile 27 = .ok (.invokevirtual 618, 3) := by decide +kernel
theorem dX12_lookWhile_30 : decode cX12_lookWhile 30 = .ok (.aload_n 0, 1) := by decide +kernel
theorem dX12_lookWhile_31 : decode cX12_lookWhile 31 = .ok (.getfield 554, 3) := by decide +kernel
theorem dX12_lookWhile_34 : decode cX12_lookWhile 34 = .ok (.istore 4, 2) := by decide +kernel
theorem dX12_lookWhile_36 : decode cX12_lookWhile 36 = .ok (.aload_n 0, 1) := by decide +kernel
theorem dX12_lookWhile_37 : decode cX12_lookWhile 37 = .ok (.aload_n 0, 1) := by decide +kernel
theorem dX12_lookWhile_38 : decode cX12_lookWhile 38 = .ok (.getfield 551, 3) := by decide +kernel
theorem dX12_lookWhile_41 : decode cX12_lookWhile 41 = .ok (.putfield 544, 3) := by decide +kernel
theorem dX12_lookWhile_44 : decode cX12_lookWhile 44 = .ok (.aload_n 0, 1) := by decide +kernel
theorem dX12_lookWhile_45 : decode cX12_lookWhile 45 = .ok (.iconst (-1), 1) := by decide +kernel
theorem dX12_lookWhile_46 : decode cX12_lookWhile 46 = .ok (.putfield 633, 3) := by decide +kernel
theorem dX12_lookWhile_49 : decode cX12_lookWhile 49 = .ok (.aload_n 0, 1) := by decide +kernel
theorem dX12_lookWhile_50 : decode cX12_lookWhile 50 = .ok (.dup, 1) := by decide +kernel
theorem dX12_lookWhile_51 : decode cX12_lookWhile 51 = .ok (.getfield 630, 3) := by decide +kernel
theorem dX12_lookWhile_54 : decode cX12_lookWhile 54 = .ok (.iconst 1, 1) := by decide +kernel
theorem dX12_lookWhile_55 : decode cX12_lookWhile 55 = .ok (.iadd, 1) := by decide +kernel
theorem dX12_lookWhile_56 : decode cX12_lookWhile 56 = .ok (.putfield 630, 3) := by decide +kernel
theorem dX12_lookWhile_59 : decode cX12_lookWhile 59 = .ok (.aload_n 0, 1) := by decide +kernel
theorem dX12_lookWhile_60 : decode cX12_lookWhile 60 = .ok (.aload_n 0, 1) := by decide +kernel
theorem dX12_lookWhile_61 : decode cX12_lookWhile 61 = .ok (.getfield 50, 3) := by decide +kernel
theorem dX12_lookWhile_64 : decode cX12_lookWhile 64 = .ok (.iload_n 1, 1) := by decide +kernel
theorem dX12_lookWhile_65 : decode cX12_lookWhile 65 = .ok (.iaload, 1) := by decide +kernel
theorem dX12_lookWhile_66 : decode cX12_lookWhile 66 = .ok (.invokevirtual 606, 3) := by decide +kernel
theorem dX12_lookWhile_69 : decode cX12_lookWhile 69 = .ok (.aload_n 0, 1) := by decide +kernel
theorem dX12_lookWhile_70 : decode cX12_lookWhile 70 = .ok (.dup, 1) := by decide +kernel
theorem dX12_lookWhile_71 : decode cX12_lookWhile 71 = .ok (.getfield 630, 3) := by decide +kernel
theorem dX12_lookWhile_74 : decode cX12_lookWhile 74 = .ok (.iconst 1, 1) := by decide +kernel
theorem dX12_lookWhile_75 : decode cX12_lookWhile 75 = .ok (.isub, 1) := by decide +kernel
theorem dX12_lookWhile_76 : decode cX12_lookWhile 76 = .ok (.putfield 630, 3) := by decide +kernel
theorem dX12_lookWhile_79 : decode cX12_lookWhile 79 = .ok (.aload_n 0, 1) := by decide +kernel
theorem dX12_lookWhile_80 : decode cX12_lookWhile 80 = .ok (.iload 4, 2) := by decide +kernel
theorem dX12_lookWhile_82 : decode cX12_lookWhile 82 = .ok (.aload_n 0, 1) := by decide +kernel
theorem dX12_lookWhile_83 : decode cX12_lookWhile 83 = .ok (.getfield 633, 3) := by decide +kernel
theorem dX12_lookWhile_86 : decode cX12_lookWhile 86 = .ok (.iand, 1) := by decide +kernel
theorem dX12_lookWhile_87 : decode cX12_lookWhile 87 = .ok (.putfield 544, 3) := by decide +kernel
theorem dX12_lookWhile_90 : decode cX12_lookWhile 90 = .ok (.aload_n 0, 1) := by decide +kernel
theorem dX12_lookWhile_91 : decode cX12_lookWhile 91 = .ok (.iload_n 2, 1) := by decide +kernel
theorem dX12_lookWhile_92 : decode cX12_lookWhile 92 = .ok (.putfield 633, 3) := by decide +kernel
theorem dX12_lookWhile_95 : decode cX12_lookWhile 95 = .ok (.aload_n 0, 1) := by decide +kernel
theorem dX12_lookWhile_96 : decode cX12_lookWhile 96 = .ok (.iload_n 3, 1) := by decide +kernel
theorem dX12_lookWhile_97 : decode cX12_lookWhile 97 = .ok (.putfield 636, 3) := by decide +kernel
theorem dX12_lookWhile_100 : decode cX12_lookWhile 100 = .ok (.return_, 1) := by decide +kernel
set_option maxHeartbeats 8000000 in
set_option maxRecDepth 100000 in
/-- lookWhile(n) -/
theorem L_lookWhile (l : Launch) (G : pT) (h0 : Nat) (a : Nat → Nat) (F : Nat → Int32) (B : Nat → Nat → Int32) (n9 : Nat) (z9 : Nat) (fa : Nat) (sc : Nat) (il : Nat) (k9 : Nat) (rs : Nat) (nd : Nat) (T : Nat) (nm : Nat) (wr : Nat) (lz : Nat) (dc : Nat) (fd : Nat) (md : Nat) (pr : Nat) (bk : Nat) (gh : Nat → Nat → Nat) (dn : Int32) (wt : Int32) (wf : Int32) (ab : Int32) (ac : Int32) (nc : Nat → Int32) (ty : Nat → Int32) (mn : Nat → Int32) (vn : Nat → Int32) (vt : Nat → Int32) (ev : Nat → Int32) (hst : St B gh nd T nm wr lz dc fd md pr bk) (hnm : nd ≤ 12000 ∧ T ≤ 5000 ∧ wr ≤ 5000 ∧ 7 ≤ dc ∧ dc ≤ 37 ∧ fd ≤ 620 ∧ md ≤ 920 ∧ pr ≤ 5000) (hn9 : n9 < nd) (hz : gh 1 n9 < z9) (hfa : fa ≤ 15) (hsc : sc ≤ 30) (hk9 : 7 ≤ k9 ∧ k9 < dc) (hnc : ∀ i : Nat, i < nd → ¬ B 9 i = 44 → nc i = B 14 i) (hmn : mnN B nd mn) (hil : il + z9 ≤ 1000) (hrs : TyC dc rs) (hrs5 : rs ≤ 2050) (hmc : mnC B nd n9 mn) (hvt : ∀ i : Nat, i < sc → tyOK dc (vt i)) (hve : ∀ i : Nat, i < sc → vt i = ev i) (hkd : B 9 n9 = nI 35) (ihS : PlookStatement l G (z9 - 1)) : PM l G pX0 yX12_lookWhile cX12_lookWhile 5 none ({ frames := (4 * z9 + 13), cells := 0, slots := 0, locals := (160 * z9 + 1660) }) [.ref h0, .int (nI n9)] (mW G h0 a (upd (upd (upd (upd (upd (upd (upd (upd (upd (upd (upd (upd F 15 (nI fa)) 44 (nI fd)) 49 (nI md)) 73 (nI sc)) 74 (nI k9)) 75 (nI rs)) 76 (nI il)) 77 dn) 78 wt) 79 wf) 80 ab) 81 ac) (updA (updA (updA (updA (updA B 14 nc) 17 ty) 18 mn) 48 vn) 49 vt)) (fun (v : Option Value) (u : Nat × Nat × Int32 × Int32 × Int32 × Int32 × Int32 × Int32 × (Nat → Int32) × (Nat → Int32) × (Nat → Int32) × (Nat → Int32) × (Nat → Int32)) => v = none ∧ (fa ≤ u.1) ∧ (u.1 ≤ 15) ∧ (sc ≤ u.2.1) ∧ (u.2.1 ≤ 30) ∧ (ChS B nd n9 ty u.2.2.2.2.2.2.2.2.2.1 mn u.2.2.2.2.2.2.2.2.2.2.1 nc u.2.2.2.2.2.2.2.2.1) ∧ (mnN B nd u.2.2.2.2.2.2.2.2.2.2.1) ∧ (∀ i : Nat, i < nd → ¬ (B) 9 i = 44 → u.2.2.2.2.2.2.2.2.1 i = (B) 14 i) ∧ (∀ i : Nat, i < sc → u.2.2.2.2.2.2.2.2.2.2.2.2 i = vt i) ∧ (If (u.1 = 0) (TyS B dc fd md nd u.2.2.2.2.2.2.2.2.2.1 u.2.2.2.2.2.2.2.2.2.2.1 u.2.2.2.2.2.2.2.2.1 k9 rs n9 (sc, il, ev) ∧ u.2.1 = (aft B n9 (sc, il, ev)).1 ∧ ∀ i : Nat, i < u.2.1 → u.2.2.2.2.2.2.2.2.2.2.2.2 i = (aft B n9 (sc, il, ev)).2.2 i ∧ tyOK dc (u.2.2.2.2.2.2.2.2.2.2.2.2 i)))) (fun u => (mW G h0 a (upd (upd (upd (upd (upd (upd (upd (upd (upd (upd (upd (upd (upd F 15 (nI u.1)) 16 u.2.2.1) 44 (nI fd)) 49 (nI md)) 73 (nI u.2.1)) 74 (nI k9)) 75 (nI rs)) 76 (nI il)) 77 u.2.2.2.1) 78 u.2.2.2.2.1) 79 u.2.2.2.2.2.1) 80 u.2.2.2.2.2.2.1) 81 u.2.2.2.2.2.2.2.1) (updA (updA (updA (updA (updA B 14 u.2.2.2.2.2.2.2.2.1) 17 u.2.2.2.2.2.2.2.2.2.1) 18 u.2.2.2.2.2.2.2.2.2.2.1) 48 u.2.2.2.2.2.2.2.2.2.2.2.1) 49 u.2.2.2.2.2.2.2.2.2.2.2.2))) := by
  intro sz
  refine Met.ofW (cc := cX12_lookWhile) (maxL := 5) (ret := none) (by decide) rfl ?_
  intro p e s m args below meth c s₁ B9 hml hv
  obtain ⟨rfl, hsz, hP, hD0, hE, hX⟩ := hv
  have hx := B9.exec
  have hb := B9.bytes
  have hr := B9.returns
  have hts := atoms_spec (ws := Cond.code yX12_lookWhile cX12_lookWhile 5 none :: pw) B9.pre
  have hq : ∀ w ∈ pw, w.before _ s = true := fun w h => hts w (List.mem_cons_of_mem _ h)
  have hown : s.vm.findClass RX12 = some m.cls := findClass_of_methodNamed B9.named
  have hlocks := B9.notSynchronized
  subst hsz
  have hD := hD0.self (sz := s.heap.size)
  have hA : ∀ q : Nat, s.heap.size ≤ q → va_A (mW G h0 a (upd (upd (upd (upd (upd (upd (upd (upd (upd (upd (upd (upd F 15 (nI fa)) 44 (nI fd)) 49 (nI md)) 73 (nI sc)) 74 (nI k9)) 75 (nI rs)) 76 (nI il)) 77 dn) 78 wt) 79 wf) 80 ab) 81 ac) (updA (updA (updA (updA (updA B 14 nc) 17 ty) 18 mn) 48 vn) 49 vt)) s.heap.size q := fun q h => Or.inr h
  have hP : va_P G.1 pCl (mW G h0 a (upd (upd (upd (upd (upd (upd (upd (upd (upd (upd (upd (upd F 15 (nI fa)) 44 (nI fd)) 49 (nI md)) 73 (nI sc)) 74 (nI k9)) 75 (nI rs)) 76 (nI il)) 77 dn) 78 wt) 79 wf) 80 ab) 81 ac) (updA (updA (updA (updA (updA B 14 nc) 17 ty) 18 mn) 48 vn) 49 vt)) s.heap := hP
  generalize va_A (mW G h0 a (upd (upd (upd (upd (upd (upd (upd (upd (upd (upd (upd (upd F 15 (nI fa)) 44 (nI fd)) 49 (nI md)) 73 (nI sc)) 74 (nI k9)) 75 (nI rs)) 76 (nI il)) 77 dn) 78 wt) 79 wf) 80 ab) 81 ac) (updA (updA (updA (updA (updA B 14 nc) 17 ty) 18 mn) 48 vn) 49 vt)) s.heap.size = A at hD hE hA ⊢
  have hS : va_S A s.heap s.heap [] := va_S.rf
  have hl := lv_entry ([.ref h0, .int (nI n9)]) (n := 5) (Nat.le_of_ble_eq_true rfl)
  rw [lg_entry_eq]
  generalize (lg_sl ([.ref h0, .int (nI n9)]) ++ List.replicate (5 - (lg_sl ([.ref h0, .int (nI n9)])).length) Slot.unset).toArray = ls at hl ⊢
  have hl : lv_has ls 5 [(0, .ref h0), (1, .int (nI n9))] := hl
  have hF := hst.1
  have hPS := hst.2.1
  have hBI := hst.2.2.1
  have hRK := hst.2.2.2.1
  have hTY := hst.2.2.2.2.1
  have hNW := hst.2.2.2.2.2.1
  have hTK := hst.2.2.2.2.2.2
  refine lv_aload_n hx hb dX12_lookWhile_0 rfl (lv_at hl 0 rfl) ?_
  refine r_get (v := .ref (a 18)) hx hb hown hq hE hP 26 65 tFX12_26 (by decide) pw_1448 rfl dX12_lookWhile_1 ?_
  refine lv_iload_n hx hb dX12_lookWhile_4 rfl (lv_at hl 1 rfl) ?_
  refine lv_aload_n hx hb dX12_lookWhile_5 rfl (lv_at hl 0 rfl) ?_
  refine r_get (v := .int (nI sc)) hx hb hown hq hE hP 73 537 tFX12_73 (by decide) pw_1795 rfl dX12_lookWhile_6 ?_
  refine r_sti (f := mn) (j := n9) hx hb hE hP hD hS 18 (ma_18 G a _) rfl (mas_18 G a _) (by omega) (by decide) dX12_lookWhile_9 (fun H locs hP hD hS => ?_)
  have hch1 : ChS B nd n9 ty ty mn (upd mn n9 (nI sc)) nc nc := (ChS.trans ChS.rfl (ChS.setM sub.rfl))
  have hmn2 : mnN B nd (upd mn n9 (nI sc)) := (mnN.up hmn (by rw [hkd]; decide))
  refine lv_aload_n hx hb dX12_lookWhile_10 rfl (lv_at hl 0 rfl) ?_
  refine r_get (v := .int ab) hx hb hown hq hE hP 80 633 tFX12_80 (by decide) pw_1878 rfl dX12_lookWhile_11 ?_
  refine lv_istore_n (lv' := [(2, .int ab), (0, .ref h0), (1, .int (nI n9))]) hx hb dX12_lookWhile_14 rfl hl (by decide) rfl (fun ls hl => ?_)
  refine lv_aload_n hx hb dX12_lookWhile_15 rfl (lv_at hl 1 rfl) ?_
  refine r_get (v := .int ac) hx hb hown hq hE hP 81 636 tFX12_81 (by decide) pw_1879 rfl dX12_lookWhile_16 ?_
  refine lv_istore_n (lv' := [(3, .int ac), (2, .int ab), (0, .ref h0), (1, .int (nI n9))]) hx hb dX12_lookWhile_19 rfl hl (by decide) rfl (fun ls hl => ?_)
  refine lv_aload_n hx hb dX12_lookWhile_20 rfl (lv_at hl 2 rfl) ?_
  refine lv_aload_n hx hb dX12_lookWhile_21 rfl (lv_at hl 2 rfl) ?_
  refine r_get (v := .ref (a 12)) hx hb hown hq hE hP 20 47 tFX12_20 (by decide) pw_1442 rfl dX12_lookWhile_22 ?_
  refine lv_iload_n hx hb dX12_lookWhile_25 rfl (lv_at hl 3 rfl) ?_
  refine r_ldi (f := (B 12)) (j := n9) hx hb hE hP 12 (ma_12 G a _) rfl (by omega) (by decide) dX12_lookWhile_26 ?_
  obtain ⟨c3, e4, h5, hp6, h7, hc8, hh9, hg10⟩ := Fs2.kid (kk := 35) (s := 1) hF hn9 hkd (by decide) (by decide) (by decide) (by decide) (by omega)
  refine lv_topi (fun x11 e12 => ?_)
  obtain rfl : x11 = nI c3 := e12.trans e4
  have hP : va_P G.1 pCl (mW G h0 a (upd (upd (upd (upd (upd (upd (upd (upd (upd (upd (upd (upd (upd (upd (upd (upd (upd (upd (upd (upd F 15 (nI fa)) 44 (nI fd)) 49 (nI md)) 73 (nI sc)) 74 (nI k9)) 75 (nI rs)) 76 (nI il)) 77 dn) 78 wt) 79 wf) 80 ab) 81 ac) 15 (nI fa)) 44 (nI fd)) 49 (nI md)) 73 (nI sc)) 74 (nI k9)) 77 dn) 78 wt) 79 wf) (updA (updA (updA (updA (updA B 14 nc) 17 ty) 18 (upd mn n9 (nI sc))) 48 vn) 49 vt)) _ := mW_to (F := F) (l1 := [(15, (nI fa)), (44, (nI fd)), (49, (nI md)), (73, (nI sc)), (74, (nI k9)), (75, (nI rs)), (76, (nI il)), (77, dn), (78, wt), (79, wf), (80, ab), (81, ac)]) (l2 := [(15, (nI fa)), (44, (nI fd)), (49, (nI md)), (73, (nI sc)), (74, (nI k9)), (75, (nI rs)), (76, (nI il)), (77, dn), (78, wt), (79, wf), (80, ab), (81, ac), (15, (nI fa)), (44, (nI fd)), (49, (nI md)), (73, (nI sc)), (74, (nI k9)), (77, dn), (78, wt), (79, wf)]) (V := [(nI fa), (nI fd), (nI md), (nI sc), (nI k9), (nI rs), (nI il), dn, wt, wf, ab, ac, (nI fa), (nI fd), (nI md), (nI sc), (nI k9), (nI rs), (nI il), dn, wt, wf, ab, ac, (nI fa), (nI fd), (nI md), (nI sc), (nI k9), dn, wt, wf]) rfl rfl (show (updA (updA (updA (updA (updA (updA B 14 nc) 17 ty) 18 mn) 48 vn) 49 vt) 18 (upd mn n9 (nI sc))) = (updA (updA (updA (updA (updA B 14 nc) 17 ty) 18 (upd mn n9 (nI sc))) 48 vn) 49 vt) from updsA_eq2 (F := B) (l1 := [(14, nc), (17, ty), (18, mn), (48, vn), (49, vt), (18, (upd mn n9 (nI sc)))]) (l2 := [(14, nc), (17, ty), (18, (upd mn n9 (nI sc))), (48, vn), (49, vt)]) (V := [nc, ty, (upd mn n9 (nI sc)), vn, vt, (upd mn n9 (nI sc)), nc, ty, (upd mn n9 (nI sc)), vn, vt]) rfl rfl) hP
  have hD : va_D A (mW G h0 a (upd (upd (upd (upd (upd (upd (upd (upd (upd (upd (upd (upd (upd (upd (upd (upd (upd (upd (upd (upd F 15 (nI fa)) 44 (nI fd)) 49 (nI md)) 73 (nI sc)) 74 (nI k9)) 75 (nI rs)) 76 (nI il)) 77 dn) 78 wt) 79 wf) 80 ab) 81 ac) 15 (nI fa)) 44 (nI fd)) 49 (nI md)) 73 (nI sc)) 74 (nI k9)) 77 dn) 78 wt) 79 wf) (updA (updA (updA (updA (updA B 14 nc) 17 ty) 18 (upd mn n9 (nI sc))) 48 vn) 49 vt)) := mW_D hD
  refine pc_V0 (G := G) (As := [.int (nI c3)]) (rest := []) hx hb hml hown hq hE hX pX0_al hP hD hS hA hl.1 (L_condition l G h0 a (upd (upd (upd (upd (upd (upd (upd (upd (upd (upd (upd (upd F 15 (nI fa)) 44 (nI fd)) 49 (nI md)) 73 (nI sc)) 74 (nI k9)) 75 (nI rs)) 76 (nI il)) 77 dn) 78 wt) 79 wf) 80 ab) 81 ac) B c3 (z9 - 1) fa sc k9 nd T nm wr lz dc fd md pr bk gh dn wt wf nc ty (upd mn n9 (nI sc)) vn vt hst hnm h5 (by omega) (by omega) (by omega) hk9 hnc hmn2 hvt (show kcl 1 _ = true from hc8)) (gV pw_1881 pw_1882 pw_1883 pw_1523 pw_1867) hV_X12_condition 0 9 rfl rfl rfl rfl (Nat.le_of_ble_eq_true rfl) dX12_lookWhile_27 ⟨Nat.le_of_ble_eq_true rfl, Nat.le_of_ble_eq_true rfl⟩ ⟨(by show (4 * (z9 - 1) + 11) + 1 ≤ (4 * z9 + 13); omega), (by show 8 + (3 + 11) + (160 * (z9 - 1) + 1440) ≤ (160 * z9 + 1660); omega)⟩ (fun v15 u13 H locs hw14 hP hD hS => ?_)
  obtain ⟨fa16, pl17, dn18, wt19, wf20, ty21, mn22⟩ := u13
  obtain ⟨hw14, h23, h24, h25, h26, h27⟩ := hw14
  replace h23 : fa ≤ fa16 := h23
  replace h24 : fa16 ≤ 15 := h24
  replace h25 : ChE B nd c3 ty ty21 (upd mn n9 (nI sc)) mn22 := h25
  replace h26 : mnN B nd mn22 := h26
  replace h27 : If (fa16 = 0) (Typ B dc fd md nd ty21 mn22 vt sc k9 c3 ∧ ty21 c3 = 2) := h27
  obtain rfl : v15 = none := hw14
  have hP : va_P G.1 pCl (mW G h0 a (upd (upd (upd (upd (upd (upd (upd (upd (upd (upd (upd (upd (upd F 15 (nI fa16)) 16 pl17) 44 (nI fd)) 49 (nI md)) 73 (nI sc)) 74 (nI k9)) 75 (nI rs)) 76 (nI il)) 77 dn18) 78 wt19) 79 wf20) 80 ab) 81 ac) (updA (updA (updA (updA (updA B 14 nc) 17 ty21) 18 mn22) 48 vn) 49 vt)) _ := mW_to (F := F) (l1 := [(15, (nI fa)), (44, (nI fd)), (49, (nI md)), (73, (nI sc)), (74, (nI k9)), (75, (nI rs)), (76, (nI il)), (77, dn), (78, wt), (79, wf), (80, ab), (81, ac), (15, (nI fa16)), (16, pl17), (44, (nI fd)), (49, (nI md)), (73, (nI sc)), (74, (nI k9)), (77, dn18), (78, wt19), (79, wf20)]) (l2 := [(15, (nI fa16)), (16, pl17), (44, (nI fd)), (49, (nI md)), (73, (nI sc)), (74, (nI k9)), (75, (nI rs)), (76, (nI il)), (77, dn18), (78, wt19), (79, wf20), (80, ab), (81, ac)]) (V := [(nI fa16), (nI fd), (nI md), (nI sc), (nI k9), (nI rs), (nI il), dn18, wt19, wf20, ab, ac, (nI fa16), pl17, (nI fd), (nI md), (nI sc), (nI k9), dn18, wt19, wf20, (nI fa16), pl17, (nI fd), (nI md), (nI sc), (nI k9), (nI rs), (nI il), dn18, wt19, wf20, ab, ac]) rfl rfl rfl hP
  have hD : va_D A (mW G h0 a (upd (upd (upd (upd (upd (upd (upd (upd (upd (upd (upd (upd (upd F 15 (nI fa16)) 16 pl17) 44 (nI fd)) 49 (nI md)) 73 (nI sc)) 74 (nI k9)) 75 (nI rs)) 76 (nI il)) 77 dn18) 78 wt19) 79 wf20) 80 ab) 81 ac) (updA (updA (updA (updA (updA B 14 nc) 17 ty21) 18 mn22) 48 vn) 49 vt)) := mW_D hD
  refine W.widen (k := 0) (n := 0) (Nat.le_of_ble_eq_true rfl) (Nat.le_of_ble_eq_true rfl) ?_
  refine W.eq (g2 := F0 m 30 ls []) rfl ?_
  have hch28 : ChS B nd n9 ty ty21 mn mn22 nc nc := (ChS.trans hch1 (ChS.kid (ChS.ofE (nc := nc) h25) (by omega) hp6))
  have ho29 : mn22 n9 = nI sc := ((ChS.own hF (by omega) hn9 h5 hp6 (ChS.ofE (nc := nc) h25)).1.trans upd_eq)
  have hsl30 : If (fa16 = 0) (slP B n9 (sc, il, ev) (fun c e9 => TyS B dc fd md nd ty21 mn22 nc k9 rs c e9) 35 1) := (fun e => slP.one (by decide) (by omega) e4 (TyS.ofTyp (nc := nc) (rs := rs) (e := (sc, il, ev)) hF (by omega) h5 (show kcl 1 _ = true from hc8) (h27 e).1 hve))
  refine lv_aload_n hx hb dX12_lookWhile_30 rfl (lv_at hl 2 rfl) ?_
  refine r_get (v := .int wf20) hx hb hown hq hE hP 79 554 tFX12_79 (by decide) pw_1806 rfl dX12_lookWhile_31 ?_
  refine lv_istore (lv' := [(4, .int wf20), (3, .int ac), (2, .int ab), (0, .ref h0), (1, .int (nI n9))]) hx hb dX12_lookWhile_34 hl (by decide) rfl (fun ls hl => ?_)
  refine lv_aload_n hx hb dX12_lookWhile_36 rfl (lv_at hl 3 rfl) ?_
  refine lv_aload_n hx hb dX12_lookWhile_37 rfl (lv_at hl 3 rfl) ?_
  refine r_get (v := .int wt19) hx hb hown hq hE hP 78 551 tFX12_78 (by decide) pw_1805 rfl dX12_lookWhile_38 ?_
  refine r_put (v := wt19) (ty := .int) hx hb hown hq hE hP hD hS 77 544 tFX12_77 (by decide) pw_1796 (by decide) rfl rfl (ms_77 a _ _) dX12_lookWhile_41 (fun H locs hP hD hS => ?_)
  refine lv_aload_n hx hb dX12_lookWhile_44 rfl (lv_at hl 3 rfl) ?_
  refine lv_iconst (v := (-1)) hx hb dX12_lookWhile_45 (by decide) ?_
  refine r_put (v := (-1)) (ty := .int) hx hb hown hq hE hP hD hS 80 633 tFX12_80 (by decide) pw_1878 (by decide) rfl rfl (ms_80 a _ _) dX12_lookWhile_46 (fun H locs hP hD hS => ?_)
  refine lv_aload_n hx hb dX12_lookWhile_49 rfl (lv_at hl 3 rfl) ?_
  refine lv_dup hx hb dX12_lookWhile_50 rfl ?_
  refine r_get (v := .int (nI il)) hx hb hown hq hE hP 76 630 tFX12_76 (by decide) pw_1880 rfl dX12_lookWhile_51 ?_
  refine lv_iconst (v := 1) hx hb dX12_lookWhile_54 (by decide) ?_
  refine lv_iadd hx hb dX12_lookWhile_55 ?_
  refine lv_topi (fun x31 e32 => ?_)
  obtain rfl : x31 = nI (il + 1) := e32.trans (nI_add (il) (1))
  refine r_put (v := (nI (il + 1))) (ty := .int) hx hb hown hq hE hP hD hS 76 630 tFX12_76 (by decide) pw_1880 (by decide) rfl rfl (ms_76 a _ _) dX12_lookWhile_56 (fun H locs hP hD hS => ?_)
  refine lv_aload_n hx hb dX12_lookWhile_59 rfl (lv_at hl 3 rfl) ?_
  refine lv_aload_n hx hb dX12_lookWhile_60 rfl (lv_at hl 3 rfl) ?_
  refine r_get (v := .ref (a 13)) hx hb hown hq hE hP 21 50 tFX12_21 (by decide) pw_1443 rfl dX12_lookWhile_61 ?_
  refine lv_iload_n hx hb dX12_lookWhile_64 rfl (lv_at hl 4 rfl) ?_
  refine r_ldi (f := (B 13)) (j := n9) hx hb hE hP 13 (ma_13 G a _) rfl (by omega) (by decide) dX12_lookWhile_65 ?_
  obtain ⟨c33, e34, h35, hp36, h37, hc38, hh39, hg40⟩ := Fs2.kid (kk := 35) (s := 2) hF hn9 hkd (by decide) (by decide) (by decide) (by decide) (by omega)
  refine lv_topi (fun x41 e42 => ?_)
  obtain rfl : x41 = nI c33 := e42.trans e34
  have hP : va_P G.1 pCl (mW G h0 a (upd (upd (upd (upd (upd (upd (upd (upd (upd (upd (upd (upd (upd (upd (upd (upd (upd (upd (upd (upd (upd (upd (upd (upd (upd F 15 (nI fa16)) 16 pl17) 44 (nI fd)) 49 (nI md)) 73 (nI sc)) 74 (nI k9)) 75 (nI rs)) 76 (nI (il + 1))) 77 wt19) 78 wt19) 79 wf20) 80 (-1)) 81 ac) 15 (nI fa16)) 44 (nI fd)) 49 (nI md)) 73 (nI sc)) 74 (nI k9)) 75 (nI rs)) 76 (nI (il + 1))) 77 wt19) 78 wt19) 79 wf20) 80 (-1)) 81 ac) (updA (updA (updA (updA (updA B 14 nc) 17 ty21) 18 mn22) 48 vn) 49 vt)) _ := mW_to (F := F) (l1 := [(15, (nI fa16)), (16, pl17), (44, (nI fd)), (49, (nI md)), (73, (nI sc)), (74, (nI k9)), (75, (nI rs)), (76, (nI il)), (77, dn18), (78, wt19), (79, wf20), (80, ab), (81, ac), (77, wt19), (80, (-1)), (76, (nI (il + 1)))]) (l2 := [(15, (nI fa16)), (16, pl17), (44, (nI fd)), (49, (nI md)), (73, (nI sc)), (74, (nI k9)), (75, (nI rs)), (76, (nI (il + 1))), (77, wt19), (78, wt19), (79, wf20), (80, (-1)), (81, ac), (15, (nI fa16)), (44, (nI fd)), (49, (nI md)), (73, (nI sc)), (74, (nI k9)), (75, (nI rs)), (76, (nI (il + 1))), (77, wt19), (78, wt19), (79, wf20), (80, (-1)), (81, ac)]) (V := [(nI fa16), pl17, (nI fd), (nI md), (nI sc), (nI k9), (nI rs), (nI (il + 1)), wt19, wt19, wf20, (-1), ac, wt19, (-1), (nI (il + 1)), (nI fa16), pl17, (nI fd), (nI md), (nI sc), (nI k9), (nI rs), (nI (il + 1)), wt19, wt19, wf20, (-1), ac, (nI fa16), (nI fd), (nI md), (nI sc), (nI k9), (nI rs), (nI (il + 1)), wt19, wt19, wf20, (-1), ac]) rfl rfl rfl hP
  have hD : va_D A (mW G h0 a (upd (upd (upd (upd (upd (upd (upd (upd (upd (upd (upd (upd (upd (upd (upd (upd (upd (upd (upd (upd (upd (upd (upd (upd (upd F 15 (nI fa16)) 16 pl17) 44 (nI fd)) 49 (nI md)) 73 (nI sc)) 74 (nI k9)) 75 (nI rs)) 76 (nI (il + 1))) 77 wt19) 78 wt19) 79 wf20) 80 (-1)) 81 ac) 15 (nI fa16)) 44 (nI fd)) 49 (nI md)) 73 (nI sc)) 74 (nI k9)) 75 (nI rs)) 76 (nI (il + 1))) 77 wt19) 78 wt19) 79 wf20) 80 (-1)) 81 ac) (updA (updA (updA (updA (updA B 14 nc) 17 ty21) 18 mn22) 48 vn) 49 vt)) := mW_D hD
  refine pc_V0 (G := G) (As := [.int (nI c33)]) (rest := []) hx hb hml hown hq hE hX pX0_al hP hD hS hA hl.1 (ihS h0 a (upd (upd (upd (upd (upd (upd (upd (upd (upd (upd (upd (upd (upd F 15 (nI fa16)) 16 pl17) 44 (nI fd)) 49 (nI md)) 73 (nI sc)) 74 (nI k9)) 75 (nI rs)) 76 (nI (il + 1))) 77 wt19) 78 wt19) 79 wf20) 80 (-1)) 81 ac) B c33 fa16 sc (il + 1) k9 rs nd T nm wr lz dc fd md pr bk gh wt19 wt19 wf20 (-1) ac nc ty21 mn22 vn vt ev hst hnm h35 (by omega) (by omega) (by omega) hk9 hnc h26 (by omega) hrs (by omega) (mnC.beside hF (by omega) hn9 (mnC.own hF (by omega) hn9 (mnC.kid hmc (by omega) hp36) h35 hp36) h35 h5 hp36 hp6 (fun e => by have z := hg40; rw [e] at z; have := hg10; omega) (ChS.ofE (nc := nc) h25)) hvt hve (kcl_3_7 hc38)) (gV pw_1874 pw_1875 pw_1876 pw_1523 pw_1884) hV_X12_lookStatement 0 9 rfl rfl rfl rfl (Nat.le_of_ble_eq_true rfl) dX12_lookWhile_66 ⟨Nat.le_of_ble_eq_true rfl, Nat.le_of_ble_eq_true rfl⟩ ⟨(by show (4 * (z9 - 1) + 14) + 1 ≤ (4 * z9 + 13); omega), (by show 8 + (4 + 11) + (160 * (z9 - 1) + 1700) ≤ (160 * z9 + 1660); omega)⟩ (fun v45 u43 H locs hw44 hP hD hS => ?_)
  obtain ⟨fa46, sc47, pl48, dn49, wt50, wf51, ab52, ac53, nc54, ty55, mn56, vn57, vt58⟩ := u43
  obtain ⟨hw44, h59, h60, h61, h62, h63, h64, h65, h66, h67⟩ := hw44
  replace h59 : fa16 ≤ fa46 := h59
  replace h60 : fa46 ≤ 15 := h60
  replace h61 : sc ≤ sc47 := h61
  replace h62 : sc47 ≤ 30 := h62
  replace h63 : ChS B nd c33 ty21 ty55 mn22 mn56 nc nc54 := h63
  replace h64 : mnN B nd mn56 := h64
  replace h65 : ∀ i : Nat, i < nd → ¬ (B) 9 i = 44 → nc54 i = (B) 14 i := h65
  replace h66 : ∀ i : Nat, i < sc → vt58 i = vt i := h66
  replace h67 : If (fa46 = 0) (TyS B dc fd md nd ty55 mn56 nc54 k9 rs c33 (sc, (il + 1), ev) ∧ sc47 = (aft B c33 (sc, (il + 1), ev)).1 ∧ ∀ i : Nat, i < sc47 → vt58 i = (aft B c33 (sc, (il + 1), ev)).2.2 i ∧ tyOK dc (vt58 i)) := h67
  obtain rfl : v45 = none := hw44
  have hP : va_P G.1 pCl (mW G h0 a (upd (upd (upd (upd (upd (upd (upd (upd (upd (upd (upd (upd (upd F 15 (nI fa46)) 16 pl48) 44 (nI fd)) 49 (nI md)) 73 (nI sc47)) 74 (nI k9)) 75 (nI rs)) 76 (nI (il + 1))) 77 dn49) 78 wt50) 79 wf51) 80 ab52) 81 ac53) (updA (updA (updA (updA (updA B 14 nc54) 17 ty55) 18 mn56) 48 vn57) 49 vt58)) _ := mW_to (F := F) (l1 := [(15, (nI fa16)), (16, pl17), (44, (nI fd)), (49, (nI md)), (73, (nI sc)), (74, (nI k9)), (75, (nI rs)), (76, (nI (il + 1))), (77, wt19), (78, wt19), (79, wf20), (80, (-1)), (81, ac), (15, (nI fa46)), (16, pl48), (44, (nI fd)), (49, (nI md)), (73, (nI sc47)), (74, (nI k9)), (75, (nI rs)), (76, (nI (il + 1))), (77, dn49), (78, wt50), (79, wf51), (80, ab52), (81, ac53)]) (l2 := [(15, (nI fa46)), (16, pl48), (44, (nI fd)), (49, (nI md)), (73, (nI sc47)), (74, (nI k9)), (75, (nI rs)), (76, (nI (il + 1))), (77, dn49), (78, wt50), (79, wf51), (80, ab52), (81, ac53)]) (V := [(nI fa46), pl48, (nI fd), (nI md), (nI sc47), (nI k9), (nI rs), (nI (il + 1)), dn49, wt50, wf51, ab52, ac53, (nI fa46), pl48, (nI fd), (nI md), (nI sc47), (nI k9), (nI rs), (nI (il + 1)), dn49, wt50, wf51, ab52, ac53, (nI fa46), pl48, (nI fd), (nI md), (nI sc47), (nI k9), (nI rs), (nI (il + 1)), dn49, wt50, wf51, ab52, ac53]) rfl rfl rfl hP
  have hD : va_D A (mW G h0 a (upd (upd (upd (upd (upd (upd (upd (upd (upd (upd (upd (upd (upd F 15 (nI fa46)) 16 pl48) 44 (nI fd)) 49 (nI md)) 73 (nI sc47)) 74 (nI k9)) 75 (nI rs)) 76 (nI (il + 1))) 77 dn49) 78 wt50) 79 wf51) 80 ab52) 81 ac53) (updA (updA (updA (updA (updA B 14 nc54) 17 ty55) 18 mn56) 48 vn57) 49 vt58)) := mW_D hD
  refine W.widen (k := 0) (n := 0) (Nat.le_of_ble_eq_true rfl) (Nat.le_of_ble_eq_true rfl) ?_
  refine W.eq (g2 := F0 m 69 ls []) rfl ?_
  have hch68 : ChS B nd n9 ty ty55 mn mn56 nc nc54 := (ChS.trans hch28 (ChS.kid h63 (by omega) hp36))
  have hsl69 : If (fa16 = 0) (slP B n9 (sc, il, ev) (fun c e9 => TyS B dc fd md nd ty55 mn56 nc54 k9 rs c e9) 35 1) := (fun e => slP.beside (kk := 35) (s := 1) hF (by omega) hn9 hkd (by decide) (by decide) (by decide) h35 hp36 hg40 (by decide) h63 (hsl30 e))
  have ho70 : mn56 n9 = nI sc := ((ChS.own hF (by omega) hn9 h35 hp36 h63).1.trans ho29)
  have hq871 : ∀ i : Nat, i < sc → vt58 i = vt i := (fun i h => (h66 i (by omega)).trans ((fun i h => rfl) i h))
  have hvt72 : ∀ i : Nat, i < sc → tyOK dc (vt58 i) := (fun i h => by rw [h66 i h]; exact hvt i h)
  have hve73 : ∀ i : Nat, i < sc → vt58 i = ev i := (fun i h => (h66 i h).trans (hve i h))
  have hsl74 : If (fa46 = 0) (slP B n9 (sc, il, ev) (fun c e9 => TyS B dc fd md nd ty55 mn56 nc54 k9 rs c e9) 35 2) := (fun e => slP.one (by decide) (by omega) e34 (h67 e).1)
  refine lv_aload_n hx hb dX12_lookWhile_69 rfl (lv_at hl 3 rfl) ?_
  refine lv_dup hx hb dX12_lookWhile_70 rfl ?_
  refine r_get (v := .int (nI (il + 1))) hx hb hown hq hE hP 76 630 tFX12_76 (by decide) pw_1880 rfl dX12_lookWhile_71 ?_
  refine lv_iconst (v := 1) hx hb dX12_lookWhile_74 (by decide) ?_
  refine lv_isub hx hb dX12_lookWhile_75 ?_
  refine lv_topi (fun x75 e76 => ?_)
  obtain rfl : x75 = nI ((il + 1) - 1) := e76.trans (nI_subN (a := 1) (b := (il + 1)) (by omega))
  refine lv_topi (fun x77 e78 => ?_)
  obtain rfl : x77 = nI il := e78.trans (congrArg nI (by omega))
  refine r_put (v := (nI il)) (ty := .int) hx hb hown hq hE hP hD hS 76 630 tFX12_76 (by decide) pw_1880 (by decide) rfl rfl (ms_76 a _ _) dX12_lookWhile_76 (fun H locs hP hD hS => ?_)
  refine lv_aload_n hx hb dX12_lookWhile_79 rfl (lv_at hl 3 rfl) ?_
  refine lv_iload hx hb dX12_lookWhile_80 (lv_at hl 0 rfl) ?_
  refine lv_aload_n hx hb dX12_lookWhile_82 rfl (lv_at hl 3 rfl) ?_
  refine r_get (v := .int ab52) hx hb hown hq hE hP 80 633 tFX12_80 (by decide) pw_1878 rfl dX12_lookWhile_83 ?_
  refine lv_iand hx hb dX12_lookWhile_86 ?_
  refine lv_topi (fun x79 e80 => ?_)
  refine r_put (v := x79) (ty := .int) hx hb hown hq hE hP hD hS 77 544 tFX12_77 (by decide) pw_1796 (by decide) rfl rfl (ms_77 a _ _) dX12_lookWhile_87 (fun H locs hP hD hS => ?_)
  refine lv_aload_n hx hb dX12_lookWhile_90 rfl (lv_at hl 3 rfl) ?_
  refine lv_iload_n hx hb dX12_lookWhile_91 rfl (lv_at hl 2 rfl) ?_
  refine r_put (v := ab) (ty := .int) hx hb hown hq hE hP hD hS 80 633 tFX12_80 (by decide) pw_1878 (by decide) rfl rfl (ms_80 a _ _) dX12_lookWhile_92 (fun H locs hP hD hS => ?_)
  refine lv_aload_n hx hb dX12_lookWhile_95 rfl (lv_at hl 3 rfl) ?_
  refine lv_iload_n hx hb dX12_lookWhile_96 rfl (lv_at hl 1 rfl) ?_
  refine r_put (v := ac) (ty := .int) hx hb hown hq hE hP hD hS 81 636 tFX12_81 (by decide) pw_1879 (by decide) rfl rfl (ms_81 a _ _) dX12_lookWhile_97 (fun H locs hP hD hS => ?_)
  have hse81 : If (fa46 = 0) (sc47 = sc) := (fun e => by have z := (h67 e).2.1; rw [aft_no (kcl_no30 (q := 3) (by omega) hc38)] at z; exact z)
  have hz82 : fa ≤ fa46 := (by omega)
  have hz83 : fa46 ≤ 15 := (by omega)
  have hz84 : sc ≤ sc47 := (by omega)
  have hz85 : sc47 ≤ 30 := (by omega)
  have hz86 : ChS B nd n9 ty ty55 mn mn56 nc nc54 := hch68
  have hz87 : mnN B nd mn56 := h64
  have hz88 : ∀ i : Nat, i < nd → ¬ (B) 9 i = 44 → nc54 i = (B) 14 i := h65
  have hz89 : ∀ i : Nat, i < sc → vt58 i = vt i := hq871
  have hz90 : If (fa46 = 0) (TyS B dc fd md nd ty55 mn56 nc54 k9 rs n9 (sc, il, ev) ∧ sc47 = (aft B n9 (sc, il, ev)).1 ∧ ∀ i : Nat, i < sc47 → vt58 i = (aft B n9 (sc, il, ev)).2.2 i ∧ tyOK dc (vt58 i)) := (fun e => ⟨TyS.of (steps (kk := 35) hkd (by decide) (hsl69 (by omega)) (hsl74 (by omega)) (slP.no (by decide)) (slP.no (by decide))) (LTX.st hkd (by decide) (by decide) (show LSk B dc ty55 mn56 nc54 rs n9 (sc, il, ev) 35 from ⟨ho70, by rw [hh9]; exact ((ChS.at hF (by omega) hn9 h5 h35 hp6 hp36 (fun e => by have z := hg10; rw [e] at z; have := hg40; omega) h63).trans (h27 (by omega)).2)⟩)), (by rw [(aft_no (by rw [hkd]; decide))]; exact hse81 (by omega)), (fun i h => by rw [(aft_no (by rw [hkd]; decide))]; have z := hse81 (by omega); exact ⟨hve73 i (by omega), hvt72 i (by omega)⟩)⟩)
  have hP : va_P G.1 pCl (mW G h0 a (upd (upd (upd (upd (upd (upd (upd (upd (upd (upd (upd (upd (upd F 15 (nI fa46)) 16 pl48) 44 (nI fd)) 49 (nI md)) 73 (nI sc47)) 74 (nI k9)) 75 (nI rs)) 76 (nI il)) 77 x79) 78 wt50) 79 wf51) 80 ab) 81 ac) (updA (updA (updA (updA (updA B 14 nc54) 17 ty55) 18 mn56) 48 vn57) 49 vt58)) _ := mW_to (F := F) (l1 := [(15, (nI fa46)), (16, pl48), (44, (nI fd)), (49, (nI md)), (73, (nI sc47)), (74, (nI k9)), (75, (nI rs)), (76, (nI (il + 1))), (77, dn49), (78, wt50), (79, wf51), (80, ab52), (81, ac53), (76, (nI il)), (77, x79), (80, ab), (81, ac)]) (l2 := [(15, (nI fa46)), (16, pl48), (44, (nI fd)), (49, (nI md)), (73, (nI sc47)), (74, (nI k9)), (75, (nI rs)), (76, (nI il)), (77, x79), (78, wt50), (79, wf51), (80, ab), (81, ac)]) (V := [(nI fa46), pl48, (nI fd), (nI md), (nI sc47), (nI k9), (nI rs), (nI il), x79, wt50, wf51, ab, ac, (nI il), x79, ab, ac, (nI fa46), pl48, (nI fd), (nI md), (nI sc47), (nI k9), (nI rs), (nI il), x79, wt50, wf51, ab, ac]) rfl rfl rfl hP
  have hD : va_D A (mW G h0 a (upd (upd (upd (upd (upd (upd (upd (upd (upd (upd (upd (upd (upd F 15 (nI fa46)) 16 pl48) 44 (nI fd)) 49 (nI md)) 73 (nI sc47)) 74 (nI k9)) 75 (nI rs)) 76 (nI il)) 77 x79) 78 wt50) 79 wf51) 80 ab) 81 ac) (updA (updA (updA (updA (updA B 14 nc54) 17 ty55) 18 mn56) 48 vn57) 49 vt58)) := mW_D hD
  exact W.vret hx hb hr (fun t9 ht9 hW9 => ⟨⟨_, (fa46, sc47, pl48, x79, wt50, wf51, ab, ac, nc54, ty55, mn56, vn57, vt58), rfl, ⟨rfl, hz82, hz83, hz84, hz85, hz86, hz87, hz88, hz89, hz90⟩, by rw [ht9]; exact hP, hD⟩, hS.F ht9⟩) hS.2.2 dX12_lookWhile_100
set_option maxHeartbeats 2000000 in
set_option maxRecDepth 100000 in
/-- comes(token, type, isAssigned), 15 at most -/
theorem R_comesL (l : Launch) (G : pT) (h0 : Nat) (a : Nat → Nat) (F : Nat → Int32) (B : Nat → Nat → Int32) (tk : Nat) (bs : Nat) (sc : Nat) (fa : Nat) (ty : Int32) (dn : Int32) (vt : Nat → Int32) (htk : tk ≤ 5000) (hbs : bs ≤ 1) (hsc : sc ≤ 30) (hfa : fa ≤ 15) : PM l G pX0 yX12_comes cX12_comes 6 (some .int) ({ frames := 4, cells := 0, slots := 0, locals := 105 }) [.ref h0, .int (nI tk), .int ty, .int (nI bs)] (mW G h0 a (upd (upd (upd F 15 (nI fa)) 73 (nI sc)) 77 dn) (updA B 49 vt)) (fun (v : Option Value) (u : Nat × Nat × Nat × Int32 × Int32 × (Nat → Int32) × (Nat → Int32)) => v = some (.int (nI u.1)) ∧ (u.1 ≤ 30) ∧ (fa ≤ u.2.1) ∧ (u.2.1 ≤ 15) ∧ (sc ≤ u.2.2.1) ∧ (u.2.2.1 ≤ 30) ∧ (If (u.2.1 = 0) (u.2.2.1 = sc + 1 ∧ u.1 = sc ∧ u.2.2.2.2.2.2 = upd vt sc ty ∧ sc < 30)) ∧ (∀ i : Nat, i < sc → u.2.2.2.2.2.2 i = vt i)) (fun u => (mW G h0 a (upd (upd (upd (upd F 15 (nI u.2.1)) 16 u.2.2.2.1) 73 (nI u.2.2.1)) 77 u.2.2.2.2.1) (updA (updA B 48 u.2.2.2.2.2.1) 49 u.2.2.2.2.2.2))) := by
  intro sz
  refine Met.ofW (cc := cX12_comes) (maxL := 6) (ret := (some .int)) (by decide) rfl ?_
  intro p e s m args below meth c s₁ B9 hml hv
  obtain ⟨rfl, hsz, hP, hD0, hE, hX⟩ := hv
  have hx := B9.exec
  have hb := B9.bytes
  have hr := B9.returns
  have hts := atoms_spec (ws := Cond.code yX12_comes cX12_comes 6 (some .int) :: pw) B9.pre
  have hq : ∀ w ∈ pw, w.before _ s = true := fun w h => hts w (List.mem_cons_of_mem _ h)
  have hown : s.vm.findClass RX12 = some m.cls := findClass_of_methodNamed B9.named
  have hlocks := B9.notSynchronized
  subst hsz
  have hD := hD0.self (sz := s.heap.size)
  have hA : ∀ q : Nat, s.heap.size ≤ q → va_A (mW G h0 a (upd (upd (upd F 15 (nI fa)) 73 (nI sc)) 77 dn) (updA B 49 vt)) s.heap.size q := fun q h => Or.inr h
  have hP : va_P G.1 pCl (mW G h0 a (upd (upd (upd F 15 (nI fa)) 73 (nI sc)) 77 dn) (updA B 49 vt)) s.heap := hP
  generalize va_A (mW G h0 a (upd (upd (upd F 15 (nI fa)) 73 (nI sc)) 77 dn) (updA B 49 vt)) s.heap.size = A at hD hE hA ⊢
  have hS : va_S A s.heap s.heap [] := va_S.rf
  have hl := lv_entry ([.ref h0, .int (nI tk), .int ty, .int (nI bs)]) (n := 6) (Nat.le_of_ble_eq_true rfl)
  rw [lg_entry_eq]
  generalize (lg_sl ([.ref h0, .int (nI tk), .int ty, .int (nI bs)]) ++ List.replicate (6 - (lg_sl ([.ref h0, .int (nI tk), .int ty, .int (nI bs)])).length) Slot.unset).toArray = ls at hl ⊢
  have hl : lv_has ls 6 [(0, .ref h0), (1, .int (nI tk)), (2, .int ty), (3, .int (nI bs))] := hl
  refine lv_iconst (v := 0) hx hb dX12_comes_0 (by decide) ?_
  refine lv_istore (lv' := [(4, .int 0), (0, .ref h0), (1, .int (nI tk)), (2, .int ty), (3, .int (nI bs))]) hx hb dX12_comes_1 hl (by decide) rfl (fun ls hl => ?_)
  refine lv_iconst (v := 0) hx hb dX12_comes_3 (by decide) ?_
  refine lv_istore (lv' := [(5, .int 0), (4, .int 0), (0, .ref h0), (1, .int (nI tk)), (2, .int ty), (3, .int (nI bs))]) hx hb dX12_comes_4 hl (by decide) rfl (fun ls hl => ?_)
  have loop_o : ∀ (n_o : Nat) (v2 : Nat) (th : Nat) (H : Heap) (locs : List Loc) (ls : Array Slot), v2 ≤ sc → sc + 1 ≤ v2 + n_o → (th ≤ 1) → va_P G.1 pCl (mW G h0 a (upd (upd (upd F 15 (nI fa)) 73 (nI sc)) 77 dn) (updA B 49 vt)) H → va_D A (mW G h0 a (upd (upd (upd F 15 (nI fa)) 73 (nI sc)) 77 dn) (updA B 49 vt)) → va_S A s.heap H locs → lv_has ls 6 [(5, .int (nI v2)), (4, .int (nI th)), (3, .int (nI bs)), (2, .int ty), (1, .int (nI tk)), (0, .ref h0)] → W p l e (headSpec (Cond.code yX12_comes cX12_comes 6 (some .int) :: pw) ({ frames := 4, cells := 0, slots := 0, locals := 105 } : Room)).room s m ([.ref h0, .int (nI tk), .int ty, .int (nI bs)] : List Value).toArray below meth c H locs 0 0 (MQ below (pQ G A (fun (v : Option Value) (u : Nat × Nat × Nat × Int32 × Int32 × (Nat → Int32) × (Nat → Int32)) => v = some (.int (nI u.1)) ∧ (u.1 ≤ 30) ∧ (fa ≤ u.2.1) ∧ (u.2.1 ≤ 15) ∧ (sc ≤ u.2.2.1) ∧ (u.2.2.1 ≤ 30) ∧ (If (u.2.1 = 0) (u.2.2.1 = sc + 1 ∧ u.1 = sc ∧ u.2.2.2.2.2.2 = upd vt sc ty ∧ sc < 30)) ∧ (∀ i : Nat, i < sc → u.2.2.2.2.2.2 i = vt i)) (fun u => (mW G h0 a (upd (upd (upd (upd F 15 (nI u.2.1)) 16 u.2.2.2.1) 73 (nI u.2.2.1)) 77 u.2.2.2.2.1) (updA (updA B 48 u.2.2.2.2.2.1) 49 u.2.2.2.2.2.2)))) ([.ref h0, .int (nI tk), .int ty, .int (nI bs)] : List Value).toArray s ({ frames := 4, cells := 0, slots := 0, locals := 105 } : Room).cells ({ frames := 4, cells := 0, slots := 0, locals := 105 } : Room).slots A) (F0 m 6 ls []) := by
    intro n_o
    induction n_o with
    | zero => intro v2 th H locs ls hk_o hn_o; omega
    | succ n_o ih_o =>
      intro v2 th H locs ls hk_o hn_o hth hP hD hS hl
      refine lv_iload hx hb dX12_comes_6 (lv_at hl 0 rfl) ?_
      refine lv_aload_n hx hb dX12_comes_8 rfl (lv_at hl 5 rfl) ?_
      refine r_get (v := .int (nI sc)) hx hb hown hq hE hP 73 537 tFX12_73 (by decide) pw_1795 rfl dX12_comes_9 ?_
      refine lv_icmp_ge (tgt := 49) hx hb dX12_comes_12 (by decide) (fun c1 => ?_) (fun c1 => ?_)
      · have n2 : sc ≤ v2 := (nI_leI (a := sc) (b := v2) (by omega) (by omega)).mp c1
        refine lv_aload_n hx hb dX12_comes_49 rfl (lv_at hl 5 rfl) ?_
        refine lv_iload hx hb dX12_comes_50 (lv_at hl 1 rfl) ?_
        refine lv_if_ne (tgt := 68) hx hb dX12_comes_52 (by decide) (fun c3 => ?_) (fun c3 => ?_)
        · have n4 : ¬ (th = 0) := fun h9 => c3 ((nI_eq (a := th) (b := 0) (by omega) (by omega)).mpr h9)
          refine lv_iconst (v := 0) hx hb dX12_comes_68 (by decide) ?_
          refine lv_bipush (v := 14) hx hb dX12_comes_69 (by decide) ?_
          refine lv_iload_n hx hb dX12_comes_71 rfl (lv_at hl 4 rfl) ?_
          have hP : va_P G.1 pCl (mW G h0 a (upd (upd (upd (upd F 15 (nI fa)) 73 (nI sc)) 77 dn) 15 (nI fa)) (updA B 49 vt)) _ := mW_to (F := F) (l1 := [(15, (nI fa)), (73, (nI sc)), (77, dn)]) (l2 := [(15, (nI fa)), (73, (nI sc)), (77, dn), (15, (nI fa))]) (V := [(nI fa), (nI sc), dn, (nI fa), (nI sc), dn, (nI fa)]) rfl rfl rfl hP
          have hD : va_D A (mW G h0 a (upd (upd (upd (upd F 15 (nI fa)) 73 (nI sc)) 77 dn) 15 (nI fa)) (updA B 49 vt)) := mW_D hD
          refine pc_V0 (G := G) (As := [.int (nI 0), .int (nI 14), .int (nI tk)]) (rest := []) hx hb hml hown hq hE hX pX0_al hP hD hS hA hl.1 (R_judgeL l G h0 a (upd (upd (upd F 15 (nI fa)) 73 (nI sc)) 77 dn) (updA B 49 vt) 0 14 tk fa (by omega) (by omega) (by omega) (by omega)) (gV pw_1798 pw_1799 pw_1800 pw_1523 pw_1793) hV_X12_judge 0 9 rfl rfl rfl rfl (Nat.le_of_ble_eq_true rfl) dX12_comes_72 ⟨Nat.le_of_ble_eq_true rfl, Nat.le_of_ble_eq_true rfl⟩ ⟨Nat.le_of_ble_eq_true rfl, Nat.le_of_ble_eq_true rfl⟩ (fun v7 u5 H locs hw6 hP hD hS => ?_)
          obtain ⟨r8, fa9, pl10⟩ := u5
          obtain ⟨hw6, h11, h12, h13, h14, h15, h16, h17⟩ := hw6
          replace h11 : r8 ≤ 1 := h11
          replace h12 : fa ≤ fa9 := h12
          replace h13 : fa9 ≤ 15 := h13
          replace h14 : fa9 + 15 * r8 ≤ 15 := h14
          replace h15 : 1 ≤ r8 + fa9 := h15
          replace h16 : 1 ≤ 0 + fa9 := h16
          replace h17 : fa9 ≤ fa + 15 * (1 - 0) := h17
          obtain rfl : v7 = some (.int (nI r8)) := hw6
          have hP : va_P G.1 pCl (mW G h0 a (upd (upd (upd (upd F 15 (nI fa9)) 16 pl10) 73 (nI sc)) 77 dn) (updA B 49 vt)) _ := mW_to (F := F) (l1 := [(15, (nI fa)), (73, (nI sc)), (77, dn), (15, (nI fa9)), (16, pl10)]) (l2 := [(15, (nI fa9)), (16, pl10), (73, (nI sc)), (77, dn)]) (V := [(nI fa9), (nI sc), dn, (nI fa9), pl10, (nI fa9), pl10, (nI sc), dn]) rfl rfl rfl hP
          have hD : va_D A (mW G h0 a (upd (upd (upd (upd F 15 (nI fa9)) 16 pl10) 73 (nI sc)) 77 dn) (updA B 49 vt)) := mW_D hD
          refine W.widen (k := 0) (n := 0) (Nat.le_of_ble_eq_true rfl) (Nat.le_of_ble_eq_true rfl) ?_
          refine W.eq (g2 := F0 m 75 ls [.int (nI r8)]) rfl ?_
          refine lv_if_ne (tgt := 80) hx hb dX12_comes_75 (by decide) (fun c18 => ?_) (fun c18 => ?_)
          · have n19 : ¬ (r8 = 0) := fun h9 => c18 ((nI_eq (a := r8) (b := 0) (by omega) (by omega)).mpr h9)
            refine lv_aload_n hx hb dX12_comes_80 rfl (lv_at hl 5 rfl) ?_
            refine r_get (v := .ref (a 48)) hx hb hown hq hE hP 71 156 tFX12_71 (by decide) pw_1479 rfl dX12_comes_81 ?_
            refine lv_aload_n hx hb dX12_comes_84 rfl (lv_at hl 5 rfl) ?_
            refine r_get (v := .int (nI sc)) hx hb hown hq hE hP 73 537 tFX12_73 (by decide) pw_1795 rfl dX12_comes_85 ?_
            refine lv_aload_n hx hb dX12_comes_88 rfl (lv_at hl 5 rfl) ?_
            refine r_get (v := .ref (a 5)) hx hb hown hq hE hP 8 25 tFX12_8 (by decide) pw_1435 rfl dX12_comes_89 ?_
            refine lv_iload_n hx hb dX12_comes_92 rfl (lv_at hl 4 rfl) ?_
            refine r_ldi (f := (B 5)) (j := tk) hx hb hE hP 5 (ma_5 G a _) rfl (by omega) (by decide) dX12_comes_93 ?_
            refine r_sti (f := (B 48)) (j := sc) hx hb hE hP hD hS 48 (ma_48 G a _) rfl (mas_48 G a _) (by omega) (by decide) dX12_comes_94 (fun H locs hP hD hS => ?_)
            refine lv_aload_n hx hb dX12_comes_95 rfl (lv_at hl 5 rfl) ?_
            refine r_get (v := .ref (a 49)) hx hb hown hq hE hP 72 159 tFX12_72 (by decide) pw_1480 rfl dX12_comes_96 ?_
            refine lv_aload_n hx hb dX12_comes_99 rfl (lv_at hl 5 rfl) ?_
            refine r_get (v := .int (nI sc)) hx hb hown hq hE hP 73 537 tFX12_73 (by decide) pw_1795 rfl dX12_comes_100 ?_
            refine lv_iload_n hx hb dX12_comes_103 rfl (lv_at hl 3 rfl) ?_
            refine r_sti (f := vt) (j := sc) hx hb hE hP hD hS 49 (ma_49 G a _) rfl (mas_49 G a _) (by omega) (by decide) dX12_comes_104 (fun H locs hP hD hS => ?_)
            refine lv_aload_n hx hb dX12_comes_105 rfl (lv_at hl 5 rfl) ?_
            refine lv_dup hx hb dX12_comes_106 rfl ?_
            refine r_get (v := .int (nI sc)) hx hb hown hq hE hP 73 537 tFX12_73 (by decide) pw_1795 rfl dX12_comes_107 ?_
            refine lv_iconst (v := 1) hx hb dX12_comes_110 (by decide) ?_
            refine lv_iadd hx hb dX12_comes_111 ?_
            refine lv_topi (fun x20 e21 => ?_)
            obtain rfl : x20 = nI (sc + 1) := e21.trans (nI_add (sc) (1))
            refine r_put (v := (nI (sc + 1))) (ty := .int) hx hb hown hq hE hP hD hS 73 537 tFX12_73 (by decide) pw_1795 (by decide) rfl rfl (ms_73 a _ _) dX12_comes_112 (fun H locs hP hD hS => ?_)
            refine lv_iload_n hx hb dX12_comes_115 rfl (lv_at hl 2 rfl) ?_
            refine lv_if_eq (tgt := 139) hx hb dX12_comes_116 (by decide) (fun c22 => ?_) (fun c22 => ?_)
            · have n23 : bs = 0 := (nI_eq (a := bs) (b := 0) (by omega) (by omega)).mp c22
              refine lv_aload_n hx hb dX12_comes_139 rfl (lv_at hl 5 rfl) ?_
              refine r_get (v := .int dn) hx hb hown hq hE hP 77 544 tFX12_77 (by decide) pw_1796 rfl dX12_comes_140 ?_
              refine lv_ldcw (v := 1073741824) hx hb hown (hq _ pw_1797) dX12_comes_143 ?_
              refine lv_iand hx hb dX12_comes_146 ?_
              refine lv_topi (fun x24 e25 => ?_)
              refine lv_if_ne (tgt := 169) hx hb dX12_comes_147 (by decide) (fun c26 => ?_) (fun c26 => ?_)
              · refine lv_aload_n hx hb dX12_comes_169 rfl (lv_at hl 5 rfl) ?_
                refine r_get (v := .int (nI (sc + 1))) hx hb hown hq hE hP 73 537 tFX12_73 (by decide) pw_1795 rfl dX12_comes_170 ?_
                refine lv_iconst (v := 1) hx hb dX12_comes_173 (by decide) ?_
                refine lv_isub hx hb dX12_comes_174 ?_
                refine lv_topi (fun x27 e28 => ?_)
                obtain rfl : x27 = nI ((sc + 1) - 1) := e28.trans (nI_subN (a := 1) (b := (sc + 1)) (by omega))
                have hz29 : ((sc + 1) - 1) ≤ 30 := (by omega)
                have hz30 : fa ≤ fa9 := (by omega)
                have hz31 : fa9 ≤ 15 := (by omega)
                have hz32 : sc ≤ (sc + 1) := (by omega)
                have hz33 : (sc + 1) ≤ 30 := (by omega)
                have hz34 : If (fa9 = 0) ((sc + 1) = sc + 1 ∧ ((sc + 1) - 1) = sc ∧ (upd vt sc ty) = upd vt sc ty ∧ sc < 30) := (fun e => ⟨by omega, by omega, rfl, by omega⟩)
                have hz35 : ∀ i : Nat, i < sc → (upd vt sc ty) i = vt i := (fun i h => upd_lt i h)
                have hP : va_P G.1 pCl (mW G h0 a (upd (upd (upd (upd F 15 (nI fa9)) 16 pl10) 73 (nI (sc + 1))) 77 dn) (updA (updA B 48 (upd (B 48) sc ((B 5) tk))) 49 (upd vt sc ty))) _ := mW_to (F := F) (l1 := [(15, (nI fa9)), (16, pl10), (73, (nI sc)), (77, dn), (73, (nI (sc + 1)))]) (l2 := [(15, (nI fa9)), (16, pl10), (73, (nI (sc + 1))), (77, dn)]) (V := [(nI fa9), pl10, (nI (sc + 1)), dn, (nI (sc + 1)), (nI fa9), pl10, (nI (sc + 1)), dn]) rfl rfl (show (updA (updA (updA B 49 vt) 48 (upd (B 48) sc ((B 5) tk))) 49 (upd vt sc ty)) = (updA (updA B 48 (upd (B 48) sc ((B 5) tk))) 49 (upd vt sc ty)) from updsA_eq2 (F := B) (l1 := [(49, vt), (48, (upd (B 48) sc ((B 5) tk))), (49, (upd vt sc ty))]) (l2 := [(48, (upd (B 48) sc ((B 5) tk))), (49, (upd vt sc ty))]) (V := [(upd vt sc ty), (upd (B 48) sc ((B 5) tk)), (upd vt sc ty), (upd (B 48) sc ((B 5) tk)), (upd vt sc ty)]) rfl rfl) hP
                have hD : va_D A (mW G h0 a (upd (upd (upd (upd F 15 (nI fa9)) 16 pl10) 73 (nI (sc + 1))) 77 dn) (updA (updA B 48 (upd (B 48) sc ((B 5) tk))) 49 (upd vt sc ty))) := mW_D hD
                exact W.iret (v := (nI ((sc + 1) - 1))) hx hb hr (fun t9 ht9 hW9 => ⟨⟨_, (((sc + 1) - 1), fa9, (sc + 1), pl10, dn, (upd (B 48) sc ((B 5) tk)), (upd vt sc ty)), rfl, ⟨rfl, hz29, hz30, hz31, hz32, hz33, hz34, hz35⟩, by rw [ht9]; exact hP, hD⟩, hS.F ht9⟩) hS.2.2 dX12_comes_175
              · refine lv_aload_n hx hb dX12_comes_150 rfl (lv_at hl 5 rfl) ?_
                refine lv_dup hx hb dX12_comes_151 rfl ?_
                refine r_get (v := .int dn) hx hb hown hq hE hP 77 544 tFX12_77 (by decide) pw_1796 rfl dX12_comes_152 ?_
                refine lv_iconst (v := 1) hx hb dX12_comes_155 (by decide) ?_
                refine lv_aload_n hx hb dX12_comes_156 rfl (lv_at hl 5 rfl) ?_
                refine r_get (v := .int (nI (sc + 1))) hx hb hown hq hE hP 73 537 tFX12_73 (by decide) pw_1795 rfl dX12_comes_157 ?_
                refine lv_iconst (v := 1) hx hb dX12_comes_160 (by decide) ?_
                refine lv_isub hx hb dX12_comes_161 ?_
                refine lv_topi (fun x36 e37 => ?_)
                obtain rfl : x36 = nI ((sc + 1) - 1) := e37.trans (nI_subN (a := 1) (b := (sc + 1)) (by omega))
                refine lv_ishl hx hb dX12_comes_162 ?_
                refine lv_topi (fun x38 e39 => ?_)
                refine lv_iconst (v := (-1)) hx hb dX12_comes_163 (by decide) ?_
                refine lv_ixor hx hb dX12_comes_164 ?_
                refine lv_topi (fun x40 e41 => ?_)
                refine lv_iand hx hb dX12_comes_165 ?_
                refine lv_topi (fun x42 e43 => ?_)
                refine r_put (v := x42) (ty := .int) hx hb hown hq hE hP hD hS 77 544 tFX12_77 (by decide) pw_1796 (by decide) rfl rfl (ms_77 a _ _) dX12_comes_166 (fun H locs hP hD hS => ?_)
                refine lv_aload_n hx hb dX12_comes_169 rfl (lv_at hl 5 rfl) ?_
                refine r_get (v := .int (nI (sc + 1))) hx hb hown hq hE hP 73 537 tFX12_73 (by decide) pw_1795 rfl dX12_comes_170 ?_
                refine lv_iconst (v := 1) hx hb dX12_comes_173 (by decide) ?_
                refine lv_isub hx hb dX12_comes_174 ?_
                refine lv_topi (fun x44 e45 => ?_)
                obtain rfl : x44 = nI ((sc + 1) - 1) := e45.trans (nI_subN (a := 1) (b := (sc + 1)) (by omega))
                have hz46 : ((sc + 1) - 1) ≤ 30 := (by omega)
                have hz47 : fa ≤ fa9 := (by omega)
                have hz48 : fa9 ≤ 15 := (by omega)
                have hz49 : sc ≤ (sc + 1) := (by omega)
                have hz50 : (sc + 1) ≤ 30 := (by omega)
                have hz51 : If (fa9 = 0) ((sc + 1) = sc + 1 ∧ ((sc + 1) - 1) = sc ∧ (upd vt sc ty) = upd vt sc ty ∧ sc < 30) := (fun e => ⟨by omega, by omega, rfl, by omega⟩)
                have hz52 : ∀ i : Nat, i < sc → (upd vt sc ty) i = vt i := (fun i h => upd_lt i h)
                have hP : va_P G.1 pCl (mW G h0 a (upd (upd (upd (upd F 15 (nI fa9)) 16 pl10) 73 (nI (sc + 1))) 77 x42) (updA (updA B 48 (upd (B 48) sc ((B 5) tk))) 49 (upd vt sc ty))) _ := mW_to (F := F) (l1 := [(15, (nI fa9)), (16, pl10), (73, (nI sc)), (77, dn), (73, (nI (sc + 1))), (77, x42)]) (l2 := [(15, (nI fa9)), (16, pl10), (73, (nI (sc + 1))), (77, x42)]) (V := [(nI fa9), pl10, (nI (sc + 1)), x42, (nI (sc + 1)), x42, (nI fa9), pl10, (nI (sc + 1)), x42]) rfl rfl (show (updA (updA (updA B 49 vt) 48 (upd (B 48) sc ((B 5) tk))) 49 (upd vt sc ty)) = (updA (updA B 48 (upd (B 48) sc ((B 5) tk))) 49 (upd vt sc ty)) from updsA_eq2 (F := B) (l1 := [(49, vt), (48, (upd (B 48) sc ((B 5) tk))), (49, (upd vt sc ty))]) (l2 := [(48, (upd (B 48) sc ((B 5) tk))), (49, (upd vt sc ty))]) (V := [(upd vt sc ty), (upd (B 48) sc ((B 5) tk)), (upd vt sc ty), (upd (B 48) sc ((B 5) tk)), (upd vt sc ty)]) rfl rfl) hP
                have hD : va_D A (mW G h0 a (upd (upd (upd (upd F 15 (nI fa9)) 16 pl10) 73 (nI (sc + 1))) 77 x42) (updA (updA B 48 (upd (B 48) sc ((B 5) tk))) 49 (upd vt sc ty))) := mW_D hD
                exact W.iret (v := (nI ((sc + 1) - 1))) hx hb hr (fun t9 ht9 hW9 => ⟨⟨_, (((sc + 1) - 1), fa9, (sc + 1), pl10, x42, (upd (B 48) sc ((B 5) tk)), (upd vt sc ty)), rfl, ⟨rfl, hz46, hz47, hz48, hz49, hz50, hz51, hz52⟩, by rw [ht9]; exact hP, hD⟩, hS.F ht9⟩) hS.2.2 dX12_comes_175
            · have n53 : ¬ (bs = 0) := fun h9 => c22 ((nI_eq (a := bs) (b := 0) (by omega) (by omega)).mpr h9)
              refine lv_aload_n hx hb dX12_comes_119 rfl (lv_at hl 5 rfl) ?_
              refine lv_dup hx hb dX12_comes_120 rfl ?_
              refine r_get (v := .int dn) hx hb hown hq hE hP 77 544 tFX12_77 (by decide) pw_1796 rfl dX12_comes_121 ?_
              refine lv_iconst (v := 1) hx hb dX12_comes_124 (by decide) ?_
              refine lv_aload_n hx hb dX12_comes_125 rfl (lv_at hl 5 rfl) ?_
              refine r_get (v := .int (nI (sc + 1))) hx hb hown hq hE hP 73 537 tFX12_73 (by decide) pw_1795 rfl dX12_comes_126 ?_
              refine lv_iconst (v := 1) hx hb dX12_comes_129 (by decide) ?_
              refine lv_isub hx hb dX12_comes_130 ?_
              refine lv_topi (fun x54 e55 => ?_)
              obtain rfl : x54 = nI ((sc + 1) - 1) := e55.trans (nI_subN (a := 1) (b := (sc + 1)) (by omega))
              refine lv_ishl hx hb dX12_comes_131 ?_
              refine lv_topi (fun x56 e57 => ?_)
              refine lv_ior hx hb dX12_comes_132 ?_
              refine lv_topi (fun x58 e59 => ?_)
              refine r_put (v := x58) (ty := .int) hx hb hown hq hE hP hD hS 77 544 tFX12_77 (by decide) pw_1796 (by decide) rfl rfl (ms_77 a _ _) dX12_comes_133 (fun H locs hP hD hS => ?_)
              refine lv_goto (tgt := 169) hx hb dX12_comes_136 (by decide) ?_
              refine lv_aload_n hx hb dX12_comes_169 rfl (lv_at hl 5 rfl) ?_
              refine r_get (v := .int (nI (sc + 1))) hx hb hown hq hE hP 73 537 tFX12_73 (by decide) pw_1795 rfl dX12_comes_170 ?_
              refine lv_iconst (v := 1) hx hb dX12_comes_173 (by decide) ?_
              refine lv_isub hx hb dX12_comes_174 ?_
              refine lv_topi (fun x60 e61 => ?_)
              obtain rfl : x60 = nI ((sc + 1) - 1) := e61.trans (nI_subN (a := 1) (b := (sc + 1)) (by omega))
              have hz62 : ((sc + 1) - 1) ≤ 30 := (by omega)
              have hz63 : fa ≤ fa9 := (by omega)
              have hz64 : fa9 ≤ 15 := (by omega)
              have hz65 : sc ≤ (sc + 1) := (by omega)
              have hz66 : (sc + 1) ≤ 30 := (by omega)
              have hz67 : If (fa9 = 0) ((sc + 1) = sc + 1 ∧ ((sc + 1) - 1) = sc ∧ (upd vt sc ty) = upd vt sc ty ∧ sc < 30) := (fun e => ⟨by omega, by omega, rfl, by omega⟩)
              have hz68 : ∀ i : Nat, i < sc → (upd vt sc ty) i = vt i := (fun i h => upd_lt i h)
              have hP : va_P G.1 pCl (mW G h0 a (upd (upd (upd (upd F 15 (nI fa9)) 16 pl10) 73 (nI (sc + 1))) 77 x58) (updA (updA B 48 (upd (B 48) sc ((B 5) tk))) 49 (upd vt sc ty))) _ := mW_to (F := F) (l1 := [(15, (nI fa9)), (16, pl10), (73, (nI sc)), (77, dn), (73, (nI (sc + 1))), (77, x58)]) (l2 := [(15, (nI fa9)), (16, pl10), (73, (nI (sc + 1))), (77, x58)]) (V := [(nI fa9), pl10, (nI (sc + 1)), x58, (nI (sc + 1)), x58, (nI fa9), pl10, (nI (sc + 1)), x58]) rfl rfl (show (updA (updA (updA B 49 vt) 48 (upd (B 48) sc ((B 5) tk))) 49 (upd vt sc ty)) = (updA (updA B 48 (upd (B 48) sc ((B 5) tk))) 49 (upd vt sc ty)) from updsA_eq2 (F := B) (l1 := [(49, vt), (48, (upd (B 48) sc ((B 5) tk))), (49, (upd vt sc ty))]) (l2 := [(48, (upd (B 48) sc ((B 5) tk))), (49, (upd vt sc ty))]) (V := [(upd vt sc ty), (upd (B 48) sc ((B 5) tk)), (upd vt sc ty), (upd (B 48) sc ((B 5) tk)), (upd vt sc ty)]) rfl rfl) hP
              have hD : va_D A (mW G h0 a (upd (upd (upd (upd F 15 (nI fa9)) 16 pl10) 73 (nI (sc + 1))) 77 x58) (updA (updA B 48 (upd (B 48) sc ((B 5) tk))) 49 (upd vt sc ty))) := mW_D hD
              exact W.iret (v := (nI ((sc + 1) - 1))) hx hb hr (fun t9 ht9 hW9 => ⟨⟨_, (((sc + 1) - 1), fa9, (sc + 1), pl10, x58, (upd (B 48) sc ((B 5) tk)), (upd vt sc ty)), rfl, ⟨rfl, hz62, hz63, hz64, hz65, hz66, hz67, hz68⟩, by rw [ht9]; exact hP, hD⟩, hS.F ht9⟩) hS.2.2 dX12_comes_175
          · have n69 : r8 = 0 := (nI_eq (a := r8) (b := 0) (by omega) (by omega)).mp c18
            refine lv_iconst (v := 0) hx hb dX12_comes_78 (by decide) ?_
            have hz70 : 0 ≤ 30 := (by omega)
            have hz71 : fa ≤ fa9 := (by omega)
            have hz72 : fa9 ≤ 15 := (by omega)
            have hz73 : sc ≤ sc := (by omega)
            have hz74 : sc ≤ 30 := (by omega)
            have hz75 : If (fa9 = 0) (sc = sc + 1 ∧ 0 = sc ∧ vt = upd vt sc ty ∧ sc < 30) := (fun e => absurd e (by omega))
            have hz76 : ∀ i : Nat, i < sc → vt i = vt i := (fun i h => rfl)
            have hP : va_P G.1 pCl (mW G h0 a (upd (upd (upd (upd F 15 (nI fa9)) 16 pl10) 73 (nI sc)) 77 dn) (updA (updA B 48 (B 48)) 49 vt)) _ := mW_to (F := F) (l1 := [(15, (nI fa9)), (16, pl10), (73, (nI sc)), (77, dn)]) (l2 := [(15, (nI fa9)), (16, pl10), (73, (nI sc)), (77, dn)]) (V := [(nI fa9), pl10, (nI sc), dn, (nI fa9), pl10, (nI sc), dn]) rfl rfl (show (updA B 49 vt) = (updA (updA B 48 (B 48)) 49 vt) from updsA_eq2 (F := B) (l1 := [(49, vt)]) (l2 := [(48, (B 48)), (49, vt)]) (V := [vt, (B 48), vt]) rfl rfl) hP
            have hD : va_D A (mW G h0 a (upd (upd (upd (upd F 15 (nI fa9)) 16 pl10) 73 (nI sc)) 77 dn) (updA (updA B 48 (B 48)) 49 vt)) := mW_D hD
            exact W.iret (v := 0) hx hb hr (fun t9 ht9 hW9 => ⟨⟨_, (0, fa9, sc, pl10, dn, (B 48), vt), rfl, ⟨rfl, hz70, hz71, hz72, hz73, hz74, hz75, hz76⟩, by rw [ht9]; exact hP, hD⟩, hS.F ht9⟩) hS.2.2 dX12_comes_79
        · have n77 : th = 0 := (nI_eq (a := th) (b := 0) (by omega) (by omega)).mp c3
          refine lv_aload_n hx hb dX12_comes_55 rfl (lv_at hl 5 rfl) ?_
          refine r_get (v := .int (nI sc)) hx hb hown hq hE hP 73 537 tFX12_73 (by decide) pw_1795 rfl dX12_comes_56 ?_
          refine lv_bipush (v := 30) hx hb dX12_comes_59 (by decide) ?_
          refine lv_icmp_ge (tgt := 68) hx hb dX12_comes_61 (by decide) (fun c78 => ?_) (fun c78 => ?_)
          · have n79 : 30 ≤ sc := (nI_leI (a := 30) (b := sc) (by omega) (by omega)).mp c78
            refine lv_iconst (v := 0) hx hb dX12_comes_68 (by decide) ?_
            refine lv_bipush (v := 14) hx hb dX12_comes_69 (by decide) ?_
            refine lv_iload_n hx hb dX12_comes_71 rfl (lv_at hl 4 rfl) ?_
            have hP : va_P G.1 pCl (mW G h0 a (upd (upd (upd (upd F 15 (nI fa)) 73 (nI sc)) 77 dn) 15 (nI fa)) (updA B 49 vt)) _ := mW_to (F := F) (l1 := [(15, (nI fa)), (73, (nI sc)), (77, dn)]) (l2 := [(15, (nI fa)), (73, (nI sc)), (77, dn), (15, (nI fa))]) (V := [(nI fa), (nI sc), dn, (nI fa), (nI sc), dn, (nI fa)]) rfl rfl rfl hP
            have hD : va_D A (mW G h0 a (upd (upd (upd (upd F 15 (nI fa)) 73 (nI sc)) 77 dn) 15 (nI fa)) (updA B 49 vt)) := mW_D hD
            refine pc_V0 (G := G) (As := [.int (nI 0), .int (nI 14), .int (nI tk)]) (rest := []) hx hb hml hown hq hE hX pX0_al hP hD hS hA hl.1 (R_judgeL l G h0 a (upd (upd (upd F 15 (nI fa)) 73 (nI sc)) 77 dn) (updA B 49 vt) 0 14 tk fa (by omega) (by omega) (by omega) (by omega)) (gV pw_1798 pw_1799 pw_1800 pw_1523 pw_1793) hV_X12_judge 0 9 rfl rfl rfl rfl (Nat.le_of_ble_eq_true rfl) dX12_comes_72 ⟨Nat.le_of_ble_eq_true rfl, Nat.le_of_ble_eq_true rfl⟩ ⟨Nat.le_of_ble_eq_true rfl, Nat.le_of_ble_eq_true rfl⟩ (fun v82 u80 H locs hw81 hP hD hS => ?_)
            obtain ⟨r83, fa84, pl85⟩ := u80
            obtain ⟨hw81, h86, h87, h88, h89, h90, h91, h92⟩ := hw81
            replace h86 : r83 ≤ 1 := h86
            replace h87 : fa ≤ fa84 := h87
            replace h88 : fa84 ≤ 15 := h88
            replace h89 : fa84 + 15 * r83 ≤ 15 := h89
            replace h90 : 1 ≤ r83 + fa84 := h90
            replace h91 : 1 ≤ 0 + fa84 := h91
            replace h92 : fa84 ≤ fa + 15 * (1 - 0) := h92
            obtain rfl : v82 = some (.int (nI r83)) := hw81
            have hP : va_P G.1 pCl (mW G h0 a (upd (upd (upd (upd F 15 (nI fa84)) 16 pl85) 73 (nI sc)) 77 dn) (updA B 49 vt)) _ := mW_to (F := F) (l1 := [(15, (nI fa)), (73, (nI sc)), (77, dn), (15, (nI fa84)), (16, pl85)]) (l2 := [(15, (nI fa84)), (16, pl85), (73, (nI sc)), (77, dn)]) (V := [(nI fa84), (nI sc), dn, (nI fa84), pl85, (nI fa84), pl85, (nI sc), dn]) rfl rfl rfl hP
            have hD : va_D A (mW G h0 a (upd (upd (upd (upd F 15 (nI fa84)) 16 pl85) 73 (nI sc)) 77 dn) (updA B 49 vt)) := mW_D hD
            refine W.widen (k := 0) (n := 0) (Nat.le_of_ble_eq_true rfl) (Nat.le_of_ble_eq_true rfl) ?_
            refine W.eq (g2 := F0 m 75 ls [.int (nI r83)]) rfl ?_
            refine lv_if_ne (tgt := 80) hx hb dX12_comes_75 (by decide) (fun c93 => ?_) (fun c93 => ?_)
            · have n94 : ¬ (r83 = 0) := fun h9 => c93 ((nI_eq (a := r83) (b := 0) (by omega) (by omega)).mpr h9)
              refine lv_aload_n hx hb dX12_comes_80 rfl (lv_at hl 5 rfl) ?_
              refine r_get (v := .ref (a 48)) hx hb hown hq hE hP 71 156 tFX12_71 (by decide) pw_1479 rfl dX12_comes_81 ?_
              refine lv_aload_n hx hb dX12_comes_84 rfl (lv_at hl 5 rfl) ?_
              refine r_get (v := .int (nI sc)) hx hb hown hq hE hP 73 537 tFX12_73 (by decide) pw_1795 rfl dX12_comes_85 ?_
              refine lv_aload_n hx hb dX12_comes_88 rfl (lv_at hl 5 rfl) ?_
              refine r_get (v := .ref (a 5)) hx hb hown hq hE hP 8 25 tFX12_8 (by decide) pw_1435 rfl dX12_comes_89 ?_
              refine lv_iload_n hx hb dX12_comes_92 rfl (lv_at hl 4 rfl) ?_
              refine r_ldi (f := (B 5)) (j := tk) hx hb hE hP 5 (ma_5 G a _) rfl (by omega) (by decide) dX12_comes_93 ?_
              refine r_sti (f := (B 48)) (j := sc) hx hb hE hP hD hS 48 (ma_48 G a _) rfl (mas_48 G a _) (by omega) (by decide) dX12_comes_94 (fun H locs hP hD hS => ?_)
              refine lv_aload_n hx hb dX12_comes_95 rfl (lv_at hl 5 rfl) ?_
              refine r_get (v := .ref (a 49)) hx hb hown hq hE hP 72 159 tFX12_72 (by decide) pw_1480 rfl dX12_comes_96 ?_
              refine lv_aload_n hx hb dX12_comes_99 rfl (lv_at hl 5 rfl) ?_
              refine r_get (v := .int (nI sc)) hx hb hown hq hE hP 73 537 tFX12_73 (by decide) pw_1795 rfl dX12_comes_100 ?_
              refine lv_iload_n hx hb dX12_comes_103 rfl (lv_at hl 3 rfl) ?_
              refine r_sti (f := vt) (j := sc) hx hb hE hP hD hS 49 (ma_49 G a _) rfl (mas_49 G a _) (by omega) (by decide) dX12_comes_104 (fun H locs hP hD hS => ?_)
              refine lv_aload_n hx hb dX12_comes_105 rfl (lv_at hl 5 rfl) ?_
              refine lv_dup hx hb dX12_comes_106 rfl ?_
              refine r_get (v := .int (nI sc)) hx hb hown hq hE hP 73 537 tFX12_73 (by decide) pw_1795 rfl dX12_comes_107 ?_
              refine lv_iconst (v := 1) hx hb dX12_comes_110 (by decide) ?_
              refine lv_iadd hx hb dX12_comes_111 ?_
              refine lv_topi (fun x95 e96 => ?_)
              obtain rfl : x95 = nI (sc + 1) := e96.trans (nI_add (sc) (1))
              refine r_put (v := (nI (sc + 1))) (ty := .int) hx hb hown hq hE hP hD hS 73 537 tFX12_73 (by decide) pw_1795 (by decide) rfl rfl (ms_73 a _ _) dX12_comes_112 (fun H locs hP hD hS => ?_)
              refine lv_iload_n hx hb dX12_comes_115 rfl (lv_at hl 2 rfl) ?_
              refine lv_if_eq (tgt := 139) hx hb dX12_comes_116 (by decide) (fun c97 => ?_) (fun c97 => ?_)
              · have n98 : bs = 0 := (nI_eq (a := bs) (b := 0) (by omega) (by omega)).mp c97
                refine lv_aload_n hx hb dX12_comes_139 rfl (lv_at hl 5 rfl) ?_
                refine r_get (v := .int dn) hx hb hown hq hE hP 77 544 tFX12_77 (by decide) pw_1796 rfl dX12_comes_140 ?_
                refine lv_ldcw (v := 1073741824) hx hb hown (hq _ pw_1797) dX12_comes_143 ?_
                refine lv_iand hx hb dX12_comes_146 ?_
                refine lv_topi (fun x99 e100 => ?_)
                refine lv_if_ne (tgt := 169) hx hb dX12_comes_147 (by decide) (fun c101 => ?_) (fun c101 => ?_)
                · refine lv_aload_n hx hb dX12_comes_169 rfl (lv_at hl 5 rfl) ?_
                  refine r_get (v := .int (nI (sc + 1))) hx hb hown hq hE hP 73 537 tFX12_73 (by decide) pw_1795 rfl dX12_comes_170 ?_
                  refine lv_iconst (v := 1) hx hb dX12_comes_173 (by decide) ?_
                  refine lv_isub hx hb dX12_comes_174 ?_
                  refine lv_topi (fun x102 e103 => ?_)
                  obtain rfl : x102 = nI ((sc + 1) - 1) := e103.trans (nI_subN (a := 1) (b := (sc + 1)) (by omega))
                  have hz104 : ((sc + 1) - 1) ≤ 30 := (by omega)
                  have hz105 : fa ≤ fa84 := (by omega)
                  have hz106 : fa84 ≤ 15 := (by omega)
                  have hz107 : sc ≤ (sc + 1) := (by omega)
                  have hz108 : (sc + 1) ≤ 30 := (by omega)
                  have hz109 : If (fa84 = 0) ((sc + 1) = sc + 1 ∧ ((sc + 1) - 1) = sc ∧ (upd vt sc ty) = upd vt sc ty ∧ sc < 30) := (fun e => ⟨by omega, by omega, rfl, by omega⟩)
                  have hz110 : ∀ i : Nat, i < sc → (upd vt sc ty) i = vt i := (fun i h => upd_lt i h)
                  have hP : va_P G.1 pCl (mW G h0 a (upd (upd (upd (upd F 15 (nI fa84)) 16 pl85) 73 (nI (sc + 1))) 77 dn) (updA (updA B 48 (upd (B 48) sc ((B 5) tk))) 49 (upd vt sc ty))) _ := mW_to (F := F) (l1 := [(15, (nI fa84)), (16, pl85), (73, (nI sc)), (77, dn), (73, (nI (sc + 1)))]) (l2 := [(15, (nI fa84)), (16, pl85), (73, (nI (sc + 1))), (77, dn)]) (V := [(nI fa84), pl85, (nI (sc + 1)), dn, (nI (sc + 1)), (nI fa84), pl85, (nI (sc + 1)), dn]) rfl rfl (show (updA (updA (updA B 49 vt) 48 (upd (B 48) sc ((B 5) tk))) 49 (upd vt sc ty)) = (updA (updA B 48 (upd (B 48) sc ((B 5) tk))) 49 (upd vt sc ty)) from updsA_eq2 (F := B) (l1 := [(49, vt), (48, (upd (B 48) sc ((B 5) tk))), (49, (upd vt sc ty))]) (l2 := [(48, (upd (B 48) sc ((B 5) tk))), (49, (upd vt sc ty))]) (V := [(upd vt sc ty), (upd (B 48) sc ((B 5) tk)), (upd vt sc ty), (upd (B 48) sc ((B 5) tk)), (upd vt sc ty)]) rfl rfl) hP
                  have hD : va_D A (mW G h0 a (upd (upd (upd (upd F 15 (nI fa84)) 16 pl85) 73 (nI (sc + 1))) 77 dn) (updA (updA B 48 (upd (B 48) sc ((B 5) tk))) 49 (upd vt sc ty))) := mW_D hD
                  exact W.iret (v := (nI ((sc + 1) - 1))) hx hb hr (fun t9 ht9 hW9 => ⟨⟨_, (((sc + 1) - 1), fa84, (sc + 1), pl85, dn, (upd (B 48) sc ((B 5) tk)), (upd vt sc ty)), rfl, ⟨rfl, hz104, hz105, hz106, hz107, hz108, hz109, hz110⟩, by rw [ht9]; exact hP, hD⟩, hS.F ht9⟩) hS.2.2 dX12_comes_175
                · refine lv_aload_n hx hb dX12_comes_150 rfl (lv_at hl 5 rfl) ?_
                  refine lv_dup hx hb dX12_comes_151 rfl ?_
                  refine r_get (v := .int dn) hx hb hown hq hE hP 77 544 tFX12_77 (by decide) pw_1796 rfl dX12_comes_152 ?_
                  refine lv_iconst (v := 1) hx hb dX12_comes_155 (by decide) ?_
                  refine lv_aload_n hx hb dX12_comes_156 rfl (lv_at hl 5 rfl) ?_
                  refine r_get (v := .int (nI (sc + 1))) hx hb hown hq hE hP 73 537 tFX12_73 (by decide) pw_1795 rfl dX12_comes_157 ?_
                  refine lv_iconst (v := 1) hx hb dX12_comes_160 (by decide) ?_
                  refine lv_isub hx hb dX12_comes_161 ?_
                  refine lv_topi (fun x111 e112 => ?_)
                  obtain rfl : x111 = nI ((sc + 1) - 1) := e112.trans (nI_subN (a := 1) (b := (sc + 1)) (by omega))
                  refine lv_ishl hx hb dX12_comes_162 ?_
                  refine lv_topi (fun x113 e114 => ?_)
                  refine lv_iconst (v := (-1)) hx hb dX12_comes_163 (by decide) ?_
                  refine lv_ixor hx hb dX12_comes_164 ?_
                  refine lv_topi (fun x115 e116 => ?_)
                  refine lv_iand hx hb dX12_comes_165 ?_
                  refine lv_topi (fun x117 e118 => ?_)
                  refine r_put (v := x117) (ty := .int) hx hb hown hq hE hP hD hS 77 544 tFX12_77 (by decide) pw_1796 (by decide) rfl rfl (ms_77 a _ _) dX12_comes_166 (fun H locs hP hD hS => ?_)
                  refine lv_aload_n hx hb dX12_comes_169 rfl (lv_at hl 5 rfl) ?_
                  refine r_get (v := .int (nI (sc + 1))) hx hb hown hq hE hP 73 537 tFX12_73 (by decide) pw_1795 rfl dX12_comes_170 ?_
                  refine lv_iconst (v := 1) hx hb dX12_comes_173 (by decide) ?_
                  refine lv_isub hx hb dX12_comes_174 ?_
                  refine lv_topi (fun x119 e120 => ?_)
                  obtain rfl : x119 = nI ((sc + 1) - 1) := e120.trans (nI_subN (a := 1) (b := (sc + 1)) (by omega))
                  have hz121 : ((sc + 1) - 1) ≤ 30 := (by omega)
                  have hz122 : fa ≤ fa84 := (by omega)
                  have hz123 : fa84 ≤ 15 := (by omega)
                  have hz124 : sc ≤ (sc + 1) := (by omega)
                  have hz125 : (sc + 1) ≤ 30 := (by omega)
                  have hz126 : If (fa84 = 0) ((sc + 1) = sc + 1 ∧ ((sc + 1) - 1) = sc ∧ (upd vt sc ty) = upd vt sc ty ∧ sc < 30) := (fun e => ⟨by omega, by omega, rfl, by omega⟩)
                  have hz127 : ∀ i : Nat, i < sc → (upd vt sc ty) i = vt i := (fun i h => upd_lt i h)
                  have hP : va_P G.1 pCl (mW G h0 a (upd (upd (upd (upd F 15 (nI fa84)) 16 pl85) 73 (nI (sc + 1))) 77 x117) (updA (updA B 48 (upd (B 48) sc ((B 5) tk))) 49 (upd vt sc ty))) _ := mW_to (F := F) (l1 := [(15, (nI fa84)), (16, pl85), (73, (nI sc)), (77, dn), (73, (nI (sc + 1))), (77, x117)]) (l2 := [(15, (nI fa84)), (16, pl85), (73, (nI (sc + 1))), (77, x117)]) (V := [(nI fa84), pl85, (nI (sc + 1)), x117, (nI (sc + 1)), x117, (nI fa84), pl85, (nI (sc + 1)), x117]) rfl rfl (show (updA (updA (updA B 49 vt) 48 (upd (B 48) sc ((B 5) tk))) 49 (upd vt sc ty)) = (updA (updA B 48 (upd (B 48) sc ((B 5) tk))) 49 (upd vt sc ty)) from updsA_eq2 (F := B) (l1 := [(49, vt), (48, (upd (B 48) sc ((B 5) tk))), (49, (upd vt sc ty))]) (l2 := [(48, (upd (B 48) sc ((B 5) tk))), (49, (upd vt sc ty))]) (V := [(upd vt sc ty), (upd (B 48) sc ((B 5) tk)), (upd vt sc ty), (upd (B 48) sc ((B 5) tk)), (upd vt sc ty)]) rfl rfl) hP
                  have hD : va_D A (mW G h0 a (upd (upd (upd (upd F 15 (nI fa84)) 16 pl85) 73 (nI (sc + 1))) 77 x117) (updA (updA B 48 (upd (B 48) sc ((B 5) tk))) 49 (upd vt sc ty))) := mW_D hD
                  exact W.iret (v := (nI ((sc + 1) - 1))) hx hb hr (fun t9 ht9 hW9 => ⟨⟨_, (((sc + 1) - 1), fa84, (sc + 1), pl85, x117, (upd (B 48) sc ((B 5) tk)), (upd vt sc ty)), rfl, ⟨rfl, hz121, hz122, hz123, hz124, hz125, hz126, hz127⟩, by rw [ht9]; exact hP, hD⟩, hS.F ht9⟩) hS.2.2 dX12_comes_175
              · have n128 : ¬ (bs = 0) := fun h9 => c97 ((nI_eq (a := bs) (b := 0) (by omega) (by omega)).mpr h9)
                refine lv_aload_n hx hb dX12_comes_119 rfl (lv_at hl 5 rfl) ?_
                refine lv_dup hx hb dX12_comes_120 rfl ?_
                refine r_get (v := .int dn) hx hb hown hq hE hP 77 544 tFX12_77 (by decide) pw_1796 rfl dX12_comes_121 ?_
                refine lv_iconst (v := 1) hx hb dX12_comes_124 (by decide) ?_
                refine lv_aload_n hx hb dX12_comes_125 rfl (lv_at hl 5 rfl) ?_
                refine r_get (v := .int (nI (sc + 1))) hx hb hown hq hE hP 73 537 tFX12_73 (by decide) pw_1795 rfl dX12_comes_126 ?_
                refine lv_iconst (v := 1) hx hb dX12_comes_129 (by decide) ?_
                refine lv_isub hx hb dX12_comes_130 ?_
                refine lv_topi (fun x129 e130 => ?_)
                obtain rfl : x129 = nI ((sc + 1) - 1) := e130.trans (nI_subN (a := 1) (b := (sc + 1)) (by omega))
                refine lv_ishl hx hb dX12_comes_131 ?_
                refine lv_topi (fun x131 e132 => ?_)
                refine lv_ior hx hb dX12_comes_132 ?_
                refine lv_topi (fun x133 e134 => ?_)
                refine r_put (v := x133) (ty := .int) hx hb hown hq hE hP hD hS 77 544 tFX12_77 (by decide) pw_1796 (by decide) rfl rfl (ms_77 a _ _) dX12_comes_133 (fun H locs hP hD hS => ?_)
                refine lv_goto (tgt := 169) hx hb dX12_comes_136 (by decide) ?_
                refine lv_aload_n hx hb dX12_comes_169 rfl (lv_at hl 5 rfl) ?_
                refine r_get (v := .int (nI (sc + 1))) hx hb hown hq hE hP 73 537 tFX12_73 (by decide) pw_1795 rfl dX12_comes_170 ?_
                refine lv_iconst (v := 1) hx hb dX12_comes_173 (by decide) ?_
                refine lv_isub hx hb dX12_comes_174 ?_
                refine lv_topi (fun x135 e136 => ?_)
                obtain rfl : x135 = nI ((sc + 1) - 1) := e136.trans (nI_subN (a := 1) (b := (sc + 1)) (by omega))
                have hz137 : ((sc + 1) - 1) ≤ 30 := (by omega)
                have hz138 : fa ≤ fa84 := (by omega)
                have hz139 : fa84 ≤ 15 := (by omega)
                have hz140 : sc ≤ (sc + 1) := (by omega)
                have hz141 : (sc + 1) ≤ 30 := (by omega)
                have hz142 : If (fa84 = 0) ((sc + 1) = sc + 1 ∧ ((sc + 1) - 1) = sc ∧ (upd vt sc ty) = upd vt sc ty ∧ sc < 30) := (fun e => ⟨by omega, by omega, rfl, by omega⟩)
                have hz143 : ∀ i : Nat, i < sc → (upd vt sc ty) i = vt i := (fun i h => upd_lt i h)
                have hP : va_P G.1 pCl (mW G h0 a (upd (upd (upd (upd F 15 (nI fa84)) 16 pl85) 73 (nI (sc + 1))) 77 x133) (updA (updA B 48 (upd (B 48) sc ((B 5) tk))) 49 (upd vt sc ty))) _ := mW_to (F := F) (l1 := [(15, (nI fa84)), (16, pl85), (73, (nI sc)), (77, dn), (73, (nI (sc + 1))), (77, x133)]) (l2 := [(15, (nI fa84)), (16, pl85), (73, (nI (sc + 1))), (77, x133)]) (V := [(nI fa84), pl85, (nI (sc + 1)), x133, (nI (sc + 1)), x133, (nI fa84), pl85, (nI (sc + 1)), x133]) rfl rfl (show (updA (updA (updA B 49 vt) 48 (upd (B 48) sc ((B 5) tk))) 49 (upd vt sc ty)) = (updA (updA B 48 (upd (B 48) sc ((B 5) tk))) 49 (upd vt sc ty)) from updsA_eq2 (F := B) (l1 := [(49, vt), (48, (upd (B 48) sc ((B 5) tk))), (49, (upd vt sc ty))]) (l2 := [(48, (upd (B 48) sc ((B 5) tk))), (49, (upd vt sc ty))]) (V := [(upd vt sc ty), (upd (B 48) sc ((B 5) tk)), (upd vt sc ty), (upd (B 48) sc ((B 5) tk)), (upd vt sc ty)]) rfl rfl) hP
                have hD : va_D A (mW G h0 a (upd (upd (upd (upd F 15 (nI fa84)) 16 pl85) 73 (nI (sc + 1))) 77 x133) (updA (updA B 48 (upd (B 48) sc ((B 5) tk))) 49 (upd vt sc ty))) := mW_D hD
                exact W.iret (v := (nI ((sc + 1) - 1))) hx hb hr (fun t9 ht9 hW9 => ⟨⟨_, (((sc + 1) - 1), fa84, (sc + 1), pl85, x133, (upd (B 48) sc ((B 5) tk)), (upd vt sc ty)), rfl, ⟨rfl, hz137, hz138, hz139, hz140, hz141, hz142, hz143⟩, by rw [ht9]; exact hP, hD⟩, hS.F ht9⟩) hS.2.2 dX12_comes_175
            · have n144 : r83 = 0 := (nI_eq (a := r83) (b := 0) (by omega) (by omega)).mp c93
              refine lv_iconst (v := 0) hx hb dX12_comes_78 (by decide) ?_
              have hz145 : 0 ≤ 30 := (by omega)
              have hz146 : fa ≤ fa84 := (by omega)
              have hz147 : fa84 ≤ 15 := (by omega)
              have hz148 : sc ≤ sc := (by omega)
              have hz149 : sc ≤ 30 := (by omega)
              have hz150 : If (fa84 = 0) (sc = sc + 1 ∧ 0 = sc ∧ vt = upd vt sc ty ∧ sc < 30) := (fun e => absurd e (by omega))
              have hz151 : ∀ i : Nat, i < sc → vt i = vt i := (fun i h => rfl)
              have hP : va_P G.1 pCl (mW G h0 a (upd (upd (upd (upd F 15 (nI fa84)) 16 pl85) 73 (nI sc)) 77 dn) (updA (updA B 48 (B 48)) 49 vt)) _ := mW_to (F := F) (l1 := [(15, (nI fa84)), (16, pl85), (73, (nI sc)), (77, dn)]) (l2 := [(15, (nI fa84)), (16, pl85), (73, (nI sc)), (77, dn)]) (V := [(nI fa84), pl85, (nI sc), dn, (nI fa84), pl85, (nI sc), dn]) rfl rfl (show (updA B 49 vt) = (updA (updA B 48 (B 48)) 49 vt) from updsA_eq2 (F := B) (l1 := [(49, vt)]) (l2 := [(48, (B 48)), (49, vt)]) (V := [vt, (B 48), vt]) rfl rfl) hP
              have hD : va_D A (mW G h0 a (upd (upd (upd (upd F 15 (nI fa84)) 16 pl85) 73 (nI sc)) 77 dn) (updA (updA B 48 (B 48)) 49 vt)) := mW_D hD
              exact W.iret (v := 0) hx hb hr (fun t9 ht9 hW9 => ⟨⟨_, (0, fa84, sc, pl85, dn, (B 48), vt), rfl, ⟨rfl, hz145, hz146, hz147, hz148, hz149, hz150, hz151⟩, by rw [ht9]; exact hP, hD⟩, hS.F ht9⟩) hS.2.2 dX12_comes_79
          · have n152 : ¬ (30 ≤ sc) := fun h9 => c78 ((nI_leI (a := 30) (b := sc) (by omega) (by omega)).mpr h9)
            refine lv_iconst (v := 1) hx hb dX12_comes_64 (by decide) ?_
            refine lv_goto (tgt := 69) hx hb dX12_comes_65 (by decide) ?_
            refine lv_bipush (v := 14) hx hb dX12_comes_69 (by decide) ?_
            refine lv_iload_n hx hb dX12_comes_71 rfl (lv_at hl 4 rfl) ?_
            have hP : va_P G.1 pCl (mW G h0 a (upd (upd (upd (upd F 15 (nI fa)) 73 (nI sc)) 77 dn) 15 (nI fa)) (updA B 49 vt)) _ := mW_to (F := F) (l1 := [(15, (nI fa)), (73, (nI sc)), (77, dn)]) (l2 := [(15, (nI fa)), (73, (nI sc)), (77, dn), (15, (nI fa))]) (V := [(nI fa), (nI sc), dn, (nI fa), (nI sc), dn, (nI fa)]) rfl rfl rfl hP
            have hD : va_D A (mW G h0 a (upd (upd (upd (upd F 15 (nI fa)) 73 (nI sc)) 77 dn) 15 (nI fa)) (updA B 49 vt)) := mW_D hD
            refine pc_V0 (G := G) (As := [.int (nI 1), .int (nI 14), .int (nI tk)]) (rest := []) hx hb hml hown hq hE hX pX0_al hP hD hS hA hl.1 (R_judgeL l G h0 a (upd (upd (upd F 15 (nI fa)) 73 (nI sc)) 77 dn) (updA B 49 vt) 1 14 tk fa (by omega) (by omega) (by omega) (by omega)) (gV pw_1798 pw_1799 pw_1800 pw_1523 pw_1793) hV_X12_judge 0 9 rfl rfl rfl rfl (Nat.le_of_ble_eq_true rfl) dX12_comes_72 ⟨Nat.le_of_ble_eq_true rfl, Nat.le_of_ble_eq_true rfl⟩ ⟨Nat.le_of_ble_eq_true rfl, Nat.le_of_ble_eq_true rfl⟩ (fun v155 u153 H locs hw154 hP hD hS => ?_)
            obtain ⟨r156, fa157, pl158⟩ := u153
            obtain ⟨hw154, h159, h160, h161, h162, h163, h164, h165⟩ := hw154
            replace h159 : r156 ≤ 1 := h159
            replace h160 : fa ≤ fa157 := h160
            replace h161 : fa157 ≤ 15 := h161
            replace h162 : fa157 + 15 * r156 ≤ 15 := h162
            replace h163 : 1 ≤ r156 + fa157 := h163
            replace h164 : 1 ≤ 1 + fa157 := h164
            replace h165 : fa157 ≤ fa + 15 * (1 - 1) := h165
            obtain rfl : v155 = some (.int (nI r156)) := hw154
            have hP : va_P G.1 pCl (mW G h0 a (upd (upd (upd (upd F 15 (nI fa157)) 16 pl158) 73 (nI sc)) 77 dn) (updA B 49 vt)) _ := mW_to (F := F) (l1 := [(15, (nI fa)), (73, (nI sc)), (77, dn), (15, (nI fa157)), (16, pl158)]) (l2 := [(15, (nI fa157)), (16, pl158), (73, (nI sc)), (77, dn)]) (V := [(nI fa157), (nI sc), dn, (nI fa157), pl158, (nI fa157), pl158, (nI sc), dn]) rfl rfl rfl hP
            have hD : va_D A (mW G h0 a (upd (upd (upd (upd F 15 (nI fa157)) 16 pl158) 73 (nI sc)) 77 dn) (updA B 49 vt)) := mW_D hD
            refine W.widen (k := 0) (n := 0) (Nat.le_of_ble_eq_true rfl) (Nat.le_of_ble_eq_true rfl) ?_
            refine W.eq (g2 := F0 m 75 ls [.int (nI r156)]) rfl ?_
            refine lv_if_ne (tgt := 80) hx hb dX12_comes_75 (by decide) (fun c166 => ?_) (fun c166 => ?_)
            · have n167 : ¬ (r156 = 0) := fun h9 => c166 ((nI_eq (a := r156) (b := 0) (by omega) (by omega)).mpr h9)
              refine lv_aload_n hx hb dX12_comes_80 rfl (lv_at hl 5 rfl) ?_
              refine r_get (v := .ref (a 48)) hx hb hown hq hE hP 71 156 tFX12_71 (by decide) pw_1479 rfl dX12_comes_81 ?_
              refine lv_aload_n hx hb dX12_comes_84 rfl (lv_at hl 5 rfl) ?_
              refine r_get (v := .int (nI sc)) hx hb hown hq hE hP 73 537 tFX12_73 (by decide) pw_1795 rfl dX12_comes_85 ?_
              refine lv_aload_n hx hb dX12_comes_88 rfl (lv_at hl 5 rfl) ?_
              refine r_get (v := .ref (a 5)) hx hb hown hq hE hP 8 25 tFX12_8 (by decide) pw_1435 rfl dX12_comes_89 ?_
              refine lv_iload_n hx hb dX12_comes_92 rfl (lv_at hl 4 rfl) ?_
              refine r_ldi (f := (B 5)) (j := tk) hx hb hE hP 5 (ma_5 G a _) rfl (by omega) (by decide) dX12_comes_93 ?_
              refine r_sti (f := (B 48)) (j := sc) hx hb hE hP hD hS 48 (ma_48 G a _) rfl (mas_48 G a _) (by omega) (by decide) dX12_comes_94 (fun H locs hP hD hS => ?_)
              refine lv_aload_n hx hb dX12_comes_95 rfl (lv_at hl 5 rfl) ?_
              refine r_get (v := .ref (a 49)) hx hb hown hq hE hP 72 159 tFX12_72 (by decide) pw_1480 rfl dX12_comes_96 ?_
              refine lv_aload_n hx hb dX12_comes_99 rfl (lv_at hl 5 rfl) ?_
              refine r_get (v := .int (nI sc)) hx hb hown hq hE hP 73 537 tFX12_73 (by decide) pw_1795 rfl dX12_comes_100 ?_
              refine lv_iload_n hx hb dX12_comes_103 rfl (lv_at hl 3 rfl) ?_
              refine r_sti (f := vt) (j := sc) hx hb hE hP hD hS 49 (ma_49 G a _) rfl (mas_49 G a _) (by omega) (by decide) dX12_comes_104 (fun H locs hP hD hS => ?_)
              refine lv_aload_n hx hb dX12_comes_105 rfl (lv_at hl 5 rfl) ?_
              refine lv_dup hx hb dX12_comes_106 rfl ?_
              refine r_get (v := .int (nI sc)) hx hb hown hq hE hP 73 537 tFX12_73 (by decide) pw_1795 rfl dX12_comes_107 ?_
              refine lv_iconst (v := 1) hx hb dX12_comes_110 (by decide) ?_
              refine lv_iadd hx hb dX12_comes_111 ?_
              refine lv_topi (fun x168 e169 => ?_)
              obtain rfl : x168 = nI (sc + 1) := e169.trans (nI_add (sc) (1))
              refine r_put (v := (nI (sc + 1))) (ty := .int) hx hb hown hq hE hP hD hS 73 537 tFX12_73 (by decide) pw_1795 (by decide) rfl rfl (ms_73 a _ _) dX12_comes_112 (fun H locs hP hD hS => ?_)
              refine lv_iload_n hx hb dX12_comes_115 rfl (lv_at hl 2 rfl) ?_
              refine lv_if_eq (tgt := 139) hx hb dX12_comes_116 (by decide) (fun c170 => ?_) (fun c170 => ?_)
              · have n171 : bs = 0 := (nI_eq (a := bs) (b := 0) (by omega) (by omega)).mp c170
                refine lv_aload_n hx hb dX12_comes_139 rfl (lv_at hl 5 rfl) ?_
                refine r_get (v := .int dn) hx hb hown hq hE hP 77 544 tFX12_77 (by decide) pw_1796 rfl dX12_comes_140 ?_
                refine lv_ldcw (v := 1073741824) hx hb hown (hq _ pw_1797) dX12_comes_143 ?_
                refine lv_iand hx hb dX12_comes_146 ?_
                refine lv_topi (fun x172 e173 => ?_)
                refine lv_if_ne (tgt := 169) hx hb dX12_comes_147 (by decide) (fun c174 => ?_) (fun c174 => ?_)
                · refine lv_aload_n hx hb dX12_comes_169 rfl (lv_at hl 5 rfl) ?_
                  refine r_get (v := .int (nI (sc + 1))) hx hb hown hq hE hP 73 537 tFX12_73 (by decide) pw_1795 rfl dX12_comes_170 ?_
                  refine lv_iconst (v := 1) hx hb dX12_comes_173 (by decide) ?_
                  refine lv_isub hx hb dX12_comes_174 ?_
                  refine lv_topi (fun x175 e176 => ?_)
                  obtain rfl : x175 = nI ((sc + 1) - 1) := e176.trans (nI_subN (a := 1) (b := (sc + 1)) (by omega))
                  have hz177 : ((sc + 1) - 1) ≤ 30 := (by omega)
                  have hz178 : fa ≤ fa157 := (by omega)
                  have hz179 : fa157 ≤ 15 := (by omega)
                  have hz180 : sc ≤ (sc + 1) := (by omega)
                  have hz181 : (sc + 1) ≤ 30 := (by omega)
                  have hz182 : If (fa157 = 0) ((sc + 1) = sc + 1 ∧ ((sc + 1) - 1) = sc ∧ (upd vt sc ty) = upd vt sc ty ∧ sc < 30) := (fun e => ⟨by omega, by omega, rfl, by omega⟩)
                  have hz183 : ∀ i : Nat, i < sc → (upd vt sc ty) i = vt i := (fun i h => upd_lt i h)
                  have hP : va_P G.1 pCl (mW G h0 a (upd (upd (upd (upd F 15 (nI fa157)) 16 pl158) 73 (nI (sc + 1))) 77 dn) (updA (updA B 48 (upd (B 48) sc ((B 5) tk))) 49 (upd vt sc ty))) _ := mW_to (F := F) (l1 := [(15, (nI fa157)), (16, pl158), (73, (nI sc)), (77, dn), (73, (nI (sc + 1)))]) (l2 := [(15, (nI fa157)), (16, pl158), (73, (nI (sc + 1))), (77, dn)]) (V := [(nI fa157), pl158, (nI (sc + 1)), dn, (nI (sc + 1)), (nI fa157), pl158, (nI (sc + 1)), dn]) rfl rfl (show (updA (updA (updA B 49 vt) 48 (upd (B 48) sc ((B 5) tk))) 49 (upd vt sc ty)) = (updA (updA B 48 (upd (B 48) sc ((B 5) tk))) 49 (upd vt sc ty)) from updsA_eq2 (F := B) (l1 := [(49, vt), (48, (upd (B 48) sc ((B 5) tk))), (49, (upd vt sc ty))]) (l2 := [(48, (upd (B 48) sc ((B 5) tk))), (49, (upd vt sc ty))]) (V := [(upd vt sc ty), (upd (B 48) sc ((B 5) tk)), (upd vt sc ty), (upd (B 48) sc ((B 5) tk)), (upd vt sc ty)]) rfl rfl) hP
                  have hD : va_D A (mW G h0 a (upd (upd (upd (upd F 15 (nI fa157)) 16 pl158) 73 (nI (sc + 1))) 77 dn) (updA (updA B 48 (upd (B 48) sc ((B 5) tk))) 49 (upd vt sc ty))) := mW_D hD
                  exact W.iret (v := (nI ((sc + 1) - 1))) hx hb hr (fun t9 ht9 hW9 => ⟨⟨_, (((sc + 1) - 1), fa157, (sc + 1), pl158, dn, (upd (B 48) sc ((B 5) tk)), (upd vt sc ty)), rfl, ⟨rfl, hz177, hz178, hz179, hz180, hz181, hz182, hz183⟩, by rw [ht9]; exact hP, hD⟩, hS.F ht9⟩) hS.2.2 dX12_comes_175
                · refine lv_aload_n hx hb dX12_comes_150 rfl (lv_at hl 5 rfl) ?_
                  refine lv_dup hx hb dX12_comes_151 rfl ?_
                  refine r_get (v := .int dn) hx hb hown hq hE hP 77 544 tFX12_77 (by decide) pw_1796 rfl dX12_comes_152 ?_
                  refine lv_iconst (v := 1) hx hb dX12_comes_155 (by decide) ?_
                  refine lv_aload_n hx hb dX12_comes_156 rfl (lv_at hl 5 rfl) ?_
                  refine r_get (v := .int (nI (sc + 1))) hx hb hown hq hE hP 73 537 tFX12_73 (by decide) pw_1795 rfl dX12_comes_157 ?_
                  refine lv_iconst (v := 1) hx hb dX12_comes_160 (by decide) ?_
                  refine lv_isub hx hb dX12_comes_161 ?_
                  refine lv_topi (fun x184 e185 => ?_)
                  obtain rfl : x184 = nI ((sc + 1) - 1) := e185.trans (nI_subN (a := 1) (b := (sc + 1)) (by omega))
                  refine lv_ishl hx hb dX12_comes_162 ?_
                  refine lv_topi (fun x186 e187 => ?_)
                  refine lv_iconst (v := (-1)) hx hb dX12_comes_163 (by decide) ?_
                  refine lv_ixor hx hb dX12_comes_164 ?_
                  refine lv_topi (fun x188 e189 => ?_)
                  refine lv_iand hx hb dX12_comes_165 ?_
                  refine lv_topi (fun x190 e191 => ?_)
                  refine r_put (v := x190) (ty := .int) hx hb hown hq hE hP hD hS 77 544 tFX12_77 (by decide) pw_1796 (by decide) rfl rfl (ms_77 a _ _) dX12_comes_166 (fun H locs hP hD hS => ?_)
                  refine lv_aload_n hx hb dX12_comes_169 rfl (lv_at hl 5 rfl) ?_
                  refine r_get (v := .int (nI (sc + 1))) hx hb hown hq hE hP 73 537 tFX12_73 (by decide) pw_1795 rfl dX12_comes_170 ?_
                  refine lv_iconst (v := 1) hx hb dX12_comes_173 (by decide) ?_
                  refine lv_isub hx hb dX12_comes_174 ?_
                  refine lv_topi (fun x192 e193 => ?_)
                  obtain rfl : x192 = nI ((sc + 1) - 1) := e193.trans (nI_subN (a := 1) (b := (sc + 1)) (by omega))
                  have hz194 : ((sc + 1) - 1) ≤ 30 := (by omega)
                  have hz195 : fa ≤ fa157 := (by omega)
                  have hz196 : fa157 ≤ 15 := (by omega)
                  have hz197 : sc ≤ (sc + 1) := (by omega)
                  have hz198 : (sc + 1) ≤ 30 := (by omega)
                  have hz199 : If (fa157 = 0) ((sc + 1) = sc + 1 ∧ ((sc + 1) - 1) = sc ∧ (upd vt sc ty) = upd vt sc ty ∧ sc < 30) := (fun e => ⟨by omega, by omega, rfl, by omega⟩)
                  have hz200 : ∀ i : Nat, i < sc → (upd vt sc ty) i = vt i := (fun i h => upd_lt i h)
                  have hP : va_P G.1 pCl (mW G h0 a (upd (upd (upd (upd F 15 (nI fa157)) 16 pl158) 73 (nI (sc + 1))) 77 x190) (updA (updA B 48 (upd (B 48) sc ((B 5) tk))) 49 (upd vt sc ty))) _ := mW_to (F := F) (l1 := [(15, (nI fa157)), (16, pl158), (73, (nI sc)), (77, dn), (73, (nI (sc + 1))), (77, x190)]) (l2 := [(15, (nI fa157)), (16, pl158), (73, (nI (sc + 1))), (77, x190)]) (V := [(nI fa157), pl158, (nI (sc + 1)), x190, (nI (sc + 1)), x190, (nI fa157), pl158, (nI (sc + 1)), x190]) rfl rfl (show (updA (updA (updA B 49 vt) 48 (upd (B 48) sc ((B 5) tk))) 49 (upd vt sc ty)) = (updA (updA B 48 (upd (B 48) sc ((B 5) tk))) 49 (upd vt sc ty)) from updsA_eq2 (F := B) (l1 := [(49, vt), (48, (upd (B 48) sc ((B 5) tk))), (49, (upd vt sc ty))]) (l2 := [(48, (upd (B 48) sc ((B 5) tk))), (49, (upd vt sc ty))]) (V := [(upd vt sc ty), (upd (B 48) sc ((B 5) tk)), (upd vt sc ty), (upd (B 48) sc ((B 5) tk)), (upd vt sc ty)]) rfl rfl) hP
                  have hD : va_D A (mW G h0 a (upd (upd (upd (upd F 15 (nI fa157)) 16 pl158) 73 (nI (sc + 1))) 77 x190) (updA (updA B 48 (upd (B 48) sc ((B 5) tk))) 49 (upd vt sc ty))) := mW_D hD
                  exact W.iret (v := (nI ((sc + 1) - 1))) hx hb hr (fun t9 ht9 hW9 => ⟨⟨_, (((sc + 1) - 1), fa157, (sc + 1), pl158, x190, (upd (B 48) sc ((B 5) tk)), (upd vt sc ty)), rfl, ⟨rfl, hz194, hz195, hz196, hz197, hz198, hz199, hz200⟩, by rw [ht9]; exact hP, hD⟩, hS.F ht9⟩) hS.2.2 dX12_comes_175
              · have n201 : ¬ (bs = 0) := fun h9 => c170 ((nI_eq (a := bs) (b := 0) (by omega) (by omega)).mpr h9)
                refine lv_aload_n hx hb dX12_comes_119 rfl (lv_at hl 5 rfl) ?_
                refine lv_dup hx hb dX12_comes_120 rfl ?_
                refine r_get (v := .int dn) hx hb hown hq hE hP 77 544 tFX12_77 (by decide) pw_1796 rfl dX12_comes_121 ?_
                refine lv_iconst (v := 1) hx hb dX12_comes_124 (by decide) ?_
                refine lv_aload_n hx hb dX12_comes_125 rfl (lv_at hl 5 rfl) ?_
                refine r_get (v := .int (nI (sc + 1))) hx hb hown hq hE hP 73 537 tFX12_73 (by decide) pw_1795 rfl dX12_comes_126 ?_
                refine lv_iconst (v := 1) hx hb dX12_comes_129 (by decide) ?_
                refine lv_isub hx hb dX12_comes_130 ?_
                refine lv_topi (fun x202 e203 => ?_)
                obtain rfl : x202 = nI ((sc + 1) - 1) := e203.trans (nI_subN (a := 1) (b := (sc + 1)) (by omega))
                refine lv_ishl hx hb dX12_comes_131 ?_
                refine lv_topi (fun x204 e205 => ?_)
                refine lv_ior hx hb dX12_comes_132 ?_
                refine lv_topi (fun x206 e207 => ?_)
                refine r_put (v := x206) (ty := .int) hx hb hown hq hE hP hD hS 77 544 tFX12_77 (by decide) pw_1796 (by decide) rfl rfl (ms_77 a _ _) dX12_comes_133 (fun H locs hP hD hS => ?_)
                refine lv_goto (tgt := 169) hx hb dX12_comes_136 (by decide) ?_
                refine lv_aload_n hx hb dX12_comes_169 rfl (lv_at hl 5 rfl) ?_
                refine r_get (v := .int (nI (sc + 1))) hx hb hown hq hE hP 73 537 tFX12_73 (by decide) pw_1795 rfl dX12_comes_170 ?_
                refine lv_iconst (v := 1) hx hb dX12_comes_173 (by decide) ?_
                refine lv_isub hx hb dX12_comes_174 ?_
                refine lv_topi (fun x208 e209 => ?_)
                obtain rfl : x208 = nI ((sc + 1) - 1) := e209.trans (nI_subN (a := 1) (b := (sc + 1)) (by omega))
                have hz210 : ((sc + 1) - 1) ≤ 30 := (by omega)
                have hz211 : fa ≤ fa157 := (by omega)
                have hz212 : fa157 ≤ 15 := (by omega)
                have hz213 : sc ≤ (sc + 1) := (by omega)
                have hz214 : (sc + 1) ≤ 30 := (by omega)
                have hz215 : If (fa157 = 0) ((sc + 1) = sc + 1 ∧ ((sc + 1) - 1) = sc ∧ (upd vt sc ty) = upd vt sc ty ∧ sc < 30) := (fun e => ⟨by omega, by omega, rfl, by omega⟩)
                have hz216 : ∀ i : Nat, i < sc → (upd vt sc ty) i = vt i := (fun i h => upd_lt i h)
                have hP : va_P G.1 pCl (mW G h0 a (upd (upd (upd (upd F 15 (nI fa157)) 16 pl158) 73 (nI (sc + 1))) 77 x206) (updA (updA B 48 (upd (B 48) sc ((B 5) tk))) 49 (upd vt sc ty))) _ := mW_to (F := F) (l1 := [(15, (nI fa157)), (16, pl158), (73, (nI sc)), (77, dn), (73, (nI (sc + 1))), (77, x206)]) (l2 := [(15, (nI fa157)), (16, pl158), (73, (nI (sc + 1))), (77, x206)]) (V := [(nI fa157), pl158, (nI (sc + 1)), x206, (nI (sc + 1)), x206, (nI fa157), pl158, (nI (sc + 1)), x206]) rfl rfl (show (updA (updA (updA B 49 vt) 48 (upd (B 48) sc ((B 5) tk))) 49 (upd vt sc ty)) = (updA (updA B 48 (upd (B 48) sc ((B 5) tk))) 49 (upd vt sc ty)) from updsA_eq2 (F := B) (l1 := [(49, vt), (48, (upd (B 48) sc ((B 5) tk))), (49, (upd vt sc ty))]) (l2 := [(48, (upd (B 48) sc ((B 5) tk))), (49, (upd vt sc ty))]) (V := [(upd vt sc ty), (upd (B 48) sc ((B 5) tk)), (upd vt sc ty), (upd (B 48) sc ((B 5) tk)), (upd vt sc ty)]) rfl rfl) hP
                have hD : va_D A (mW G h0 a (upd (upd (upd (upd F 15 (nI fa157)) 16 pl158) 73 (nI (sc + 1))) 77 x206) (updA (updA B 48 (upd (B 48) sc ((B 5) tk))) 49 (upd vt sc ty))) := mW_D hD
                exact W.iret (v := (nI ((sc + 1) - 1))) hx hb hr (fun t9 ht9 hW9 => ⟨⟨_, (((sc + 1) - 1), fa157, (sc + 1), pl158, x206, (upd (B 48) sc ((B 5) tk)), (upd vt sc ty)), rfl, ⟨rfl, hz210, hz211, hz212, hz213, hz214, hz215, hz216⟩, by rw [ht9]; exact hP, hD⟩, hS.F ht9⟩) hS.2.2 dX12_comes_175
            · have n217 : r156 = 0 := (nI_eq (a := r156) (b := 0) (by omega) (by omega)).mp c166
              refine lv_iconst (v := 0) hx hb dX12_comes_78 (by decide) ?_
              have hz218 : 0 ≤ 30 := (by omega)
              have hz219 : fa ≤ fa157 := (by omega)
              have hz220 : fa157 ≤ 15 := (by omega)
              have hz221 : sc ≤ sc := (by omega)
              have hz222 : sc ≤ 30 := (by omega)
              have hz223 : If (fa157 = 0) (sc = sc + 1 ∧ 0 = sc ∧ vt = upd vt sc ty ∧ sc < 30) := (fun e => absurd e (by omega))
              have hz224 : ∀ i : Nat, i < sc → vt i = vt i := (fun i h => rfl)
              have hP : va_P G.1 pCl (mW G h0 a (upd (upd (upd (upd F 15 (nI fa157)) 16 pl158) 73 (nI sc)) 77 dn) (updA (updA B 48 (B 48)) 49 vt)) _ := mW_to (F := F) (l1 := [(15, (nI fa157)), (16, pl158), (73, (nI sc)), (77, dn)]) (l2 := [(15, (nI fa157)), (16, pl158), (73, (nI sc)), (77, dn)]) (V := [(nI fa157), pl158, (nI sc), dn, (nI fa157), pl158, (nI sc), dn]) rfl rfl (show (updA B 49 vt) = (updA (updA B 48 (B 48)) 49 vt) from updsA_eq2 (F := B) (l1 := [(49, vt)]) (l2 := [(48, (B 48)), (49, vt)]) (V := [vt, (B 48), vt]) rfl rfl) hP
              have hD : va_D A (mW G h0 a (upd (upd (upd (upd F 15 (nI fa157)) 16 pl158) 73 (nI sc)) 77 dn) (updA (updA B 48 (B 48)) 49 vt)) := mW_D hD
              exact W.iret (v := 0) hx hb hr (fun t9 ht9 hW9 => ⟨⟨_, (0, fa157, sc, pl158, dn, (B 48), vt), rfl, ⟨rfl, hz218, hz219, hz220, hz221, hz222, hz223, hz224⟩, by rw [ht9]; exact hP, hD⟩, hS.F ht9⟩) hS.2.2 dX12_comes_79
      · have n225 : ¬ (sc ≤ v2) := fun h9 => c1 ((nI_leI (a := sc) (b := v2) (by omega) (by omega)).mpr h9)
        refine lv_iload hx hb dX12_comes_15 (lv_at hl 1 rfl) ?_
        refine lv_if_ne (tgt := 36) hx hb dX12_comes_17 (by decide) (fun c226 => ?_) (fun c226 => ?_)
        · have n227 : ¬ (th = 0) := fun h9 => c226 ((nI_eq (a := th) (b := 0) (by omega) (by omega)).mpr h9)
          refine lv_iconst (v := 1) hx hb dX12_comes_36 (by decide) ?_
          refine lv_goto (tgt := 41) hx hb dX12_comes_37 (by decide) ?_
          refine lv_istore (lv' := [(4, .int 1), (5, .int (nI v2)), (3, .int (nI bs)), (2, .int ty), (1, .int (nI tk)), (0, .ref h0)]) hx hb dX12_comes_41 hl (by decide) rfl (fun ls hl => ?_)
          refine lv_iinc (v := (nI (v2 + 1))) (lv' := [(5, .int (nI (v2 + 1))), (4, .int 1), (3, .int (nI bs)), (2, .int ty), (1, .int (nI tk)), (0, .ref h0)]) hx hb dX12_comes_43 hl (k := 1) rfl (nI_1 v2) (by decide) rfl (fun ls hl => ?_)
          refine lv_goto (tgt := 6) hx hb dX12_comes_46 (by decide) ?_
          have hP : va_P G.1 pCl (mW G h0 a (upd (upd (upd F 15 (nI fa)) 73 (nI sc)) 77 dn) (updA B 49 vt)) _ := hP
          have hD : va_D A (mW G h0 a (upd (upd (upd F 15 (nI fa)) 73 (nI sc)) 77 dn) (updA B 49 vt)) := mW_D hD
          exact ih_o (v2 + 1) 1 _ _ _ (by omega) (by omega) (by omega) hP hD hS (lv_sub hl [0, 1, 2, 3, 4, 5] rfl)
        · have n228 : th = 0 := (nI_eq (a := th) (b := 0) (by omega) (by omega)).mp c226
          refine lv_aload_n hx hb dX12_comes_20 rfl (lv_at hl 5 rfl) ?_
          refine r_get (v := .ref (a 48)) hx hb hown hq hE hP 71 156 tFX12_71 (by decide) pw_1479 rfl dX12_comes_21 ?_
          refine lv_iload hx hb dX12_comes_24 (lv_at hl 0 rfl) ?_
          refine r_ldi (f := (B 48)) (j := v2) hx hb hE hP 48 (ma_48 G a _) rfl (by omega) (by decide) dX12_comes_26 ?_
          refine lv_aload_n hx hb dX12_comes_27 rfl (lv_at hl 5 rfl) ?_
          refine r_get (v := .ref (a 5)) hx hb hown hq hE hP 8 25 tFX12_8 (by decide) pw_1435 rfl dX12_comes_28 ?_
          refine lv_iload_n hx hb dX12_comes_31 rfl (lv_at hl 4 rfl) ?_
          refine r_ldi (f := (B 5)) (j := tk) hx hb hE hP 5 (ma_5 G a _) rfl (by omega) (by decide) dX12_comes_32 ?_
          refine lv_icmp_ne (tgt := 40) hx hb dX12_comes_33 (by decide) (fun c229 => ?_) (fun c229 => ?_)
          · refine lv_iconst (v := 0) hx hb dX12_comes_40 (by decide) ?_
            refine lv_istore (lv' := [(4, .int 0), (5, .int (nI v2)), (3, .int (nI bs)), (2, .int ty), (1, .int (nI tk)), (0, .ref h0)]) hx hb dX12_comes_41 hl (by decide) rfl (fun ls hl => ?_)
            refine lv_iinc (v := (nI (v2 + 1))) (lv' := [(5, .int (nI (v2 + 1))), (4, .int 0), (3, .int (nI bs)), (2, .int ty), (1, .int (nI tk)), (0, .ref h0)]) hx hb dX12_comes_43 hl (k := 1) rfl (nI_1 v2) (by decide) rfl (fun ls hl => ?_)
            refine lv_goto (tgt := 6) hx hb dX12_comes_46 (by decide) ?_
            have hP : va_P G.1 pCl (mW G h0 a (upd (upd (upd F 15 (nI fa)) 73 (nI sc)) 77 dn) (updA B 49 vt)) _ := hP
            have hD : va_D A (mW G h0 a (upd (upd (upd F 15 (nI fa)) 73 (nI sc)) 77 dn) (updA B 49 vt)) := mW_D hD
            exact ih_o (v2 + 1) 0 _ _ _ (by omega) (by omega) (by omega) hP hD hS (lv_sub hl [0, 1, 2, 3, 4, 5] rfl)
          · refine lv_iconst (v := 1) hx hb dX12_comes_36 (by decide) ?_
            refine lv_goto (tgt := 41) hx hb dX12_comes_37 (by decide) ?_
            refine lv_istore (lv' := [(4, .int 1), (5, .int (nI v2)), (3, .int (nI bs)), (2, .int ty), (1, .int (nI tk)), (0, .ref h0)]) hx hb dX12_comes_41 hl (by decide) rfl (fun ls hl => ?_)
            refine lv_iinc (v := (nI (v2 + 1))) (lv' := [(5, .int (nI (v2 + 1))), (4, .int 1), (3, .int (nI bs)), (2, .int ty), (1, .int (nI tk)), (0, .ref h0)]) hx hb dX12_comes_43 hl (k := 1) rfl (nI_1 v2) (by decide) rfl (fun ls hl => ?_)
            refine lv_goto (tgt := 6) hx hb dX12_comes_46 (by decide) ?_
            have hP : va_P G.1 pCl (mW G h0 a (upd (upd (upd F 15 (nI fa)) 73 (nI sc)) 77 dn) (updA B 49 vt)) _ := hP
            have hD : va_D A (mW G h0 a (upd (upd (upd F 15 (nI fa)) 73 (nI sc)) 77 dn) (updA B 49 vt)) := mW_D hD
            exact ih_o (v2 + 1) 1 _ _ _ (by omega) (by omega) (by omega) hP hD hS (lv_sub hl [0, 1, 2, 3, 4, 5] rfl)
  have hP : va_P G.1 pCl (mW G h0 a (upd (upd (upd F 15 (nI fa)) 73 (nI sc)) 77 dn) (updA B 49 vt)) _ := hP
  have hD : va_D A (mW G h0 a (upd (upd (upd F 15 (nI fa)) 73 (nI sc)) 77 dn) (updA B 49 vt)) := mW_D hD
  exact loop_o (sc + 1) 0 0 _ _ _ (by omega) (by omega) (by omega) hP hD hS (lv_sub hl [0, 1, 5, 4, 3, 2] rfl)

theorem dX12_fielded_0 : decode cX12_fielded 0 = .ok (.aload_n 0, 1) := by decide +kernel
theorem dX12_fielded_1 : decode cX12_fielded 1 = .ok (.aload_n 0, 1) := by decide +kernel
theorem dX12_fielded_2 : decode cX12_fielded 2 = .ok (.getfield 47, 3) := by decide +kernel
theorem dX12_fielded_5 : decode cX12_fielded 5 = .ok (.iload_n 1, 1) := by decide +kernel
theorem dX12_fielded_6 : decode cX12_fielded 6 = .ok (.iaload, 1) := by decide +kernel
theorem dX12_fielded_7 : decode cX12_fielded 7 = .ok (.invokevirtual 557, 3) := by decide +kernel
theorem dX12_fielded_10 : decode cX12_fielded 10 = .ok (.istore_n 2, 1) := by decide +kernel
theorem dX12_fielded_11 : decode cX12_fielded 11 = .ok (.aload_n 0, 1) := by decide +kernel
theorem dX12_fielded_12 : decode cX12_fielded 12 = .ok (.iload_n 2, 1) := by decide +kernel
theorem dX12_fielded_13 : decode cX12_fielded 13 = .ok (.invokestatic 528, 3) := by decide +kernel
theorem dX12_fielded_16 : decode cX12_fielded 16 = .ok (.ifCond .eq 30, 3) := by decide +kernel
theorem dX12_fielded_46 : decode cX12_fielded 46 = .ok (.iconst 0, 1) := by decide +kernel
theorem dX12_fielded_47 : decode cX12_fielded 47 = .ok (.bipush 11, 2) := by decide +kernel
theorem dX12_fielded_49 : decode cX12_fielded 49 = .ok (.aload_n 0, 1) := by decide +kernel
theorem dX12_fielded_50 : decode cX12_fielded 50 = .ok (.getfield 41, 3) := by decide +kernel
theorem dX12_fielded_53 : decode cX12_fielded 53 = .ok (.iload_n 1, 1) := by decide +kernel
theorem dX12_fielded_54 : decode cX12_fielded 54 = .ok (.iaload, 1) := by decide +kernel
theorem dX12_fielded_55 : decode cX12_fielded 55 = .ok (.invokevirtual 540, 3) := by decide +kernel
theorem dX12_fielded_58 : decode cX12_fielded 58 = .ok (.ifCond .ne 5, 3) := by decide +kernel
theorem dX12_fielded_61 : decode cX12_fielded 61 = .ok (.iconst 1, 1) := by decide +kernel
theorem dX12_fielded_62 : decode cX12_fielded 62 = .ok (.ireturn, 1) := by decide +kernel
theorem dX12_fielded_19 : decode cX12_fielded 19 = .ok (.aload_n 0, 1) := by decide +kernel
theorem dX12_fielded_20 : decode cX12_fielded 20 = .ok (.getfield 90, 3) := by decide +kernel
theorem dX12_fielded_23 : decode cX12_fielded 23 = .ok (.iload_n 2, 1) := by decide +kernel
theorem dX12_fielded_24 : decode cX12_fielded 24 = .ok (.invokestatic 528, 3) := by decide +kernel
theorem dX12_fielded_27 : decode cX12_fielded 27 = .ok (.ifCond .eq 10, 3) := by decide +kernel
theorem dX12_fielded_30 : decode cX12_fielded 30 = .ok (.iload_n 2, 1) := by decide +kernel
theorem dX12_fielded_31 : decode cX12_fielded 31 = .ok (.bipush 10, 2) := by decide +kernel
theorem dX12_fielded_33 : decode cX12_fielded 33 = .ok (.isub, 1) := by decide +kernel
theorem dX12_fielded_34 : decode cX12_fielded 34 = .ok (.goto 4, 3) := by decide +kernel
theorem dX12_fielded_38 : decode cX12_fielded 38 = .ok (.baload, 1) := by decide +kernel
theorem dX12_fielded_39 : decode cX12_fielded 39 = .ok (.ifCond .ne 7, 3) := by decide +kernel
theorem dX12_fielded_42 : decode cX12_fielded 42 = .ok (.iconst 1, 1) := by decide +kernel
theorem dX12_fielded_43 : decode cX12_fielded 43 = .ok (.goto 4, 3) := by decide +kernel
theorem dX12_fielded_63 : decode cX12_fielded 63 = .ok (.aload_n 0, 1) := by decide +kernel
theorem dX12_fielded_64 : decode cX12_fielded 64 = .ok (.iload_n 2, 1) := by decide +kernel
theorem dX12_fielded_65 : decode cX12_fielded 65 = .ok (.bipush 10, 2) := by decide +kernel
theorem dX12_fielded_67 : decode cX12_fielded 67 = .ok (.isub, 1) := by decide +kernel
theorem dX12_fielded_68 : decode cX12_fielded 68 = .ok (.aload_n 0, 1) := by decide +kernel
theorem dX12_fielded_69 : decode cX12_fielded 69 = .ok (.getfield 25, 3) := by decide +kernel
theorem dX12_fielded_72 : decode cX12_fielded 72 = .ok (.aload_n 0, 1) := by decide +kernel
theorem dX12_fielded_73 : decode cX12_fielded 73 = .ok (.getfield 44, 3) := by decide +kernel
theorem dX12_fielded_76 : decode cX12_fielded 76 = .ok (.iload_n 1, 1) := by decide +kernel
theorem dX12_fielded_77 : decode cX12_fielded 77 = .ok (.iaload, 1) := by decide +kernel
theorem dX12_fielded_78 : decode cX12_fielded 78 = .ok (.iaload, 1) := by decide +kernel
theorem dX12_fielded_79 : decode cX12_fielded 79 = .ok (.invokevirtual 597, 3) := by decide +kernel
theorem dX12_fielded_82 : decode cX12_fielded 82 = .ok (.istore_n 3, 1) := by decide +kernel
theorem dX12_fielded_83 : decode cX12_fielded 83 = .ok (.aload_n 0, 1) := by decide +kernel
theorem dX12_fielded_84 : decode cX12_fielded 84 = .ok (.getfield 65, 3) := by decide +kernel
theorem dX12_fielded_87 : decode cX12_fielded 87 = .ok (.iload_n 1, 1) := by decide +kernel
theorem dX12_fielded_88 : decode cX12_fielded 88 = .ok (.iload_n 3, 1) := by decide +kernel
theorem dX12_fielded_89 : decode cX12_fielded 89 = .ok (.iastore, 1) := by decide +kernel
theorem dX12_fielded_90 : decode cX12_fielded 90 = .ok (.aload_n 0, 1) := by decide +kernel
theorem dX12_fielded_91 : decode cX12_fielded 91 = .ok (.iload_n 3, 1) := by decide +kernel
theorem dX12_fielded_92 : decode cX12_fielded 92 = .ok (.iconst (-1), 1) := by decide +kernel
theorem dX12_fielded_93 : decode cX12_fielded 93 = .ok (.if_icmp .eq 7, 3) := by decide +kernel
theorem dX12_fielded_100 : decode cX12_fielded 100 = .ok (.iconst 0, 1) := by decide +kernel
theorem dX12_fielded_101 : decode cX12_fielded 101 = .ok (.bipush 10, 2) := by decide +kernel
theorem dX12_fielded_103 : decode cX12_fielded 103 = .ok (.aload_n 0, 1) := by decide +kernel
theorem dX12_fielded_104 : decode cX12_fielded 104 = .ok (.getfield 44, 3) := by decide +kernel
theorem dX12_fielded_107 : decode cX12_fielded 107 = .ok (.iload_n 1, 1) := by decide +kernel
theorem dX12_fielded_108 : decode cX12_fielded 108 = .ok (.iaload, 1) := by decide +kernel
theorem dX12_fielded_109 : decode cX12_fielded 109 = .ok (.invokevirtual 540, 3) := by decide +kernel
theorem dX12_fielded_112 : decode cX12_fielded 112 = .ok (.ifCond .eq 17, 3) := by decide +kernel
theorem dX12_fielded_129 : decode cX12_fielded 129 = .ok (.iconst 1, 1) := by decide +kernel
theorem dX12_fielded_130 : decode cX12_fielded 130 = .ok (.ireturn, 1) := by decide +kernel
theorem dX12_fielded_96 : decode cX12_fielded 96 = .ok (.iconst 1, 1) := by decide +kernel
theorem dX12_fielded_97 : decode cX12_fielded 97 = .ok (.goto 4, 3) := by decide +kernel
theorem dX12_fielded_115 : decode cX12_fielded 115 = .ok (.aload_n 0, 1) := by decide +kernel
theorem dX12_fielded_116 : decode cX12_fielded 116 = .ok (.getfield 75, 3) := by decide +kernel
theorem dX12_fielded_119 : decode cX12_fielded 119 = .ok (.aload_n 0, 1) := by decide +kernel
theorem dX12_fielded_120 : decode cX12_fielded 120 = .ok (.getfield 117, 3) := by decide +kernel
theorem dX12_fielded_123 : decode cX12_fielded 123 = .ok (.iload_n 3, 1) := by decide +kernel
theorem dX12_fielded_124 : decode cX12_fielded 124 = .ok (.iaload, 1) := by decide +kernel
theorem dX12_fielded_125 : decode cX12_fielded 125 = .ok (.iaload, 1) := by decide +kernel
theorem dX12_fielded_126 : decode cX12_fielded 126 = .ok (.goto 4, 3) := by decide +kernel
set_option maxHeartbeats 6000000 in
set_option maxRecDepth 100000 in
/-- fielded(n) -/
theorem L_fielded (l : Launch) (G : pT) (h0 : Nat) (a : Nat → Nat) (F : Nat → Int32) (B : Nat → Nat → Int32) (n9 : Nat) (z9 : Nat) (fa : Nat) (sc : Nat) (k9 : Nat) (nd : Nat) (T : Nat) (nm : Nat) (wr : Nat) (lz : Nat) (dc : Nat) (fd : Nat) (md : Nat) (pr : Nat) (bk : Nat) (gh : Nat → Nat → Nat) (dn : Int32) (wt : Int32) (wf : Int32) (nc : Nat → Int32) (ty : Nat → Int32) (mn : Nat → Int32) (vn : Nat → Int32) (vt : Nat → Int32) (hst : St B gh nd T nm wr lz dc fd md pr bk) (hnm : nd ≤ 12000 ∧ T ≤ 5000 ∧ wr ≤ 5000 ∧ 7 ≤ dc ∧ dc ≤ 37 ∧ fd ≤ 620 ∧ md ≤ 920 ∧ pr ≤ 5000) (hn9 : n9 < nd) (hz : gh 1 n9 < z9) (hfa : fa ≤ 15) (hsc : sc ≤ 30) (hk9 : 7 ≤ k9 ∧ k9 < dc) (hnc : ∀ i : Nat, i < nd → ¬ B 9 i = 44 → nc i = B 14 i) (hmn : mnN B nd mn) (hvt : ∀ i : Nat, i < sc → tyOK dc (vt i)) (hkd : B 9 n9 = nI 12) (ihL : Plook l G (z9 - 1)) : PM l G pX0 yX12_fielded cX12_fielded 4 (some .int) ({ frames := (4 * z9 + 9), cells := 0, slots := 0, locals := (160 * z9 + 1360) }) [.ref h0, .int (nI n9)] (mW G h0 a (upd (upd (upd (upd (upd (upd (upd (upd F 15 (nI fa)) 44 (nI fd)) 49 (nI md)) 73 (nI sc)) 74 (nI k9)) 77 dn) 78 wt) 79 wf) (updA (updA (updA (updA (updA B 14 nc) 17 ty) 18 mn) 48 vn) 49 vt)) (fun (v : Option Value) (u : Nat × Nat × Int32 × Int32 × Int32 × Int32 × (Nat → Int32) × (Nat → Int32)) => v = some (.int (nI u.1)) ∧ (fa ≤ u.2.1) ∧ (u.2.1 ≤ 15) ∧ (TyC dc u.1) ∧ (u.1 ≤ 2050) ∧ (ChE B nd n9 ty u.2.2.2.2.2.2.1 mn u.2.2.2.2.2.2.2) ∧ (mnN B nd u.2.2.2.2.2.2.2) ∧ (If (u.2.1 = 0) (Typ0 B dc fd md nd u.2.2.2.2.2.2.1 u.2.2.2.2.2.2.2 vt sc k9 n9 (nI u.1)))) (fun u => (mW G h0 a (upd (upd (upd (upd (upd (upd (upd (upd (upd F 15 (nI u.2.1)) 16 u.2.2.1) 44 (nI fd)) 49 (nI md)) 73 (nI sc)) 74 (nI k9)) 77 u.2.2.2.1) 78 u.2.2.2.2.1) 79 u.2.2.2.2.2.1) (updA (updA (updA (updA (updA B 14 nc) 17 u.2.2.2.2.2.2.1) 18 u.2.2.2.2.2.2.2) 48 vn) 49 vt))) := by
  intro sz
  refine Met.ofW (cc := cX12_fielded) (maxL := 4) (ret := (some .int)) (by decide) rfl ?_
  intro p e s m args below meth c s₁ B9 hml hv
  obtain ⟨rfl, hsz, hP, hD0, hE, hX⟩ := hv
  have hx := B9.exec
  have hb := B9.bytes
  have hr := B9.returns
  have hts := atoms_spec (ws := Cond.code yX12_fielded cX12_fielded 4 (some .int) :: pw) B9.pre
  have hq : ∀ w ∈ pw, w.before _ s = true := fun w h => hts w (List.mem_cons_of_mem _ h)
  have hown : s.vm.findClass RX12 = some m.cls := findClass_of_methodNamed B9.named
  have hlocks := B9.notSynchronized
  subst hsz
  have hD := hD0.self (sz := s.heap.size)
  have hA : ∀ q : Nat, s.heap.size ≤ q → va_A (mW G h0 a (upd (upd (upd (upd (upd (upd (upd (upd F 15 (nI fa)) 44 (nI fd)) 49 (nI md)) 73 (nI sc)) 74 (nI k9)) 77 dn) 78 wt) 79 wf) (updA (updA (updA (updA (updA B 14 nc) 17 ty) 18 mn) 48 vn) 49 vt)) s.heap.size q := fun q h => Or.inr h
  have hP : va_P G.1 pCl (mW G h0 a (upd (upd (upd (upd (upd (upd (upd (upd F 15 (nI fa)) 44 (nI fd)) 49 (nI md)) 73 (nI sc)) 74 (nI k9)) 77 dn) 78 wt) 79 wf) (updA (updA (updA (updA (updA B 14 nc) 17 ty) 18 mn) 48 vn) 49 vt)) s.heap := hP
  generalize va_A (mW G h0 a (upd (upd (upd (upd (upd (upd (upd (upd F 15 (nI fa)) 44 (nI fd)) 49 (nI md)) 73 (nI sc)) 74 (nI k9)) 77 dn) 78 wt) 79 wf) (updA (updA (updA (updA (updA B 14 nc) 17 ty) 18 mn) 48 vn) 49 vt)) s.heap.size = A at hD hE hA ⊢
  have hS : va_S A s.heap s.heap [] := va_S.rf
  have hl := lv_entry ([.ref h0, .int (nI n9)]) (n := 4) (Nat.le_of_ble_eq_true rfl)
  rw [lg_entry_eq]
  generalize (lg_sl ([.ref h0, .int (nI n9)]) ++ List.replicate (4 - (lg_sl ([.ref h0, .int (nI n9)])).length) Slot.unset).toArray = ls at hl ⊢
  have hl : lv_has ls 4 [(0, .ref h0), (1, .int (nI n9))] := hl
  have hF := hst.1
  have hPS := hst.2.1
  have hBI := hst.2.2.1
  have hRK := hst.2.2.2.1
  have hTY := hst.2.2.2.2.1
  have hNW := hst.2.2.2.2.2.1
  have hTK := hst.2.2.2.2.2.2
  refine lv_aload_n hx hb dX12_fielded_0 rfl (lv_at hl 0 rfl) ?_
  refine lv_aload_n hx hb dX12_fielded_1 rfl (lv_at hl 0 rfl) ?_
  refine r_get (v := .ref (a 12)) hx hb hown hq hE hP 20 47 tFX12_20 (by decide) pw_1442 rfl dX12_fielded_2 ?_
  refine lv_iload_n hx hb dX12_fielded_5 rfl (lv_at hl 1 rfl) ?_
  refine r_ldi (f := (B 12)) (j := n9) hx hb hE hP 12 (ma_12 G a _) rfl (by omega) (by decide) dX12_fielded_6 ?_
  obtain ⟨c1, e2, h3, hp4, h5, hc6, hh7, hg8⟩ := Fs2.kid (kk := 12) (s := 1) hF hn9 hkd (by decide) (by decide) (by decide) (by decide) (by omega)
  refine lv_topi (fun x9 e10 => ?_)
  obtain rfl : x9 = nI c1 := e10.trans e2
  have hP : va_P G.1 pCl (mW G h0 a (upd (upd (upd (upd (upd (upd (upd (upd (upd (upd (upd (upd (upd (upd (upd (upd F 15 (nI fa)) 44 (nI fd)) 49 (nI md)) 73 (nI sc)) 74 (nI k9)) 77 dn) 78 wt) 79 wf) 15 (nI fa)) 44 (nI fd)) 49 (nI md)) 73 (nI sc)) 74 (nI k9)) 77 dn) 78 wt) 79 wf) (updA (updA (updA (updA (updA B 14 nc) 17 ty) 18 mn) 48 vn) 49 vt)) _ := mW_to (F := F) (l1 := [(15, (nI fa)), (44, (nI fd)), (49, (nI md)), (73, (nI sc)), (74, (nI k9)), (77, dn), (78, wt), (79, wf)]) (l2 := [(15, (nI fa)), (44, (nI fd)), (49, (nI md)), (73, (nI sc)), (74, (nI k9)), (77, dn), (78, wt), (79, wf), (15, (nI fa)), (44, (nI fd)), (49, (nI md)), (73, (nI sc)), (74, (nI k9)), (77, dn), (78, wt), (79, wf)]) (V := [(nI fa), (nI fd), (nI md), (nI sc), (nI k9), dn, wt, wf, (nI fa), (nI fd), (nI md), (nI sc), (nI k9), dn, wt, wf, (nI fa), (nI fd), (nI md), (nI sc), (nI k9), dn, wt, wf]) rfl rfl rfl hP
  have hD : va_D A (mW G h0 a (upd (upd (upd (upd (upd (upd (upd (upd (upd (upd (upd (upd (upd (upd (upd (upd F 15 (nI fa)) 44 (nI fd)) 49 (nI md)) 73 (nI sc)) 74 (nI k9)) 77 dn) 78 wt) 79 wf) 15 (nI fa)) 44 (nI fd)) 49 (nI md)) 73 (nI sc)) 74 (nI k9)) 77 dn) 78 wt) 79 wf) (updA (updA (updA (updA (updA B 14 nc) 17 ty) 18 mn) 48 vn) 49 vt)) := mW_D hD
  refine pc_V0 (G := G) (As := [.int (nI c1)]) (rest := []) hx hb hml hown hq hE hX pX0_al hP hD hS hA hl.1 (ihL h0 a (upd (upd (upd (upd (upd (upd (upd (upd F 15 (nI fa)) 44 (nI fd)) 49 (nI md)) 73 (nI sc)) 74 (nI k9)) 77 dn) 78 wt) 79 wf) B c1 fa sc k9 nd T nm wr lz dc fd md pr bk gh dn wt wf nc ty mn vn vt hst hnm h3 (by omega) (by omega) (by omega) hk9 hnc hmn hvt (show kcl 1 _ = true from hc6)) (gV pw_1822 pw_1823 pw_1824 pw_1523 pw_1830) hV_X12_look 0 9 rfl rfl rfl rfl (Nat.le_of_ble_eq_true rfl) dX12_fielded_7 ⟨Nat.le_of_ble_eq_true rfl, Nat.le_of_ble_eq_true rfl⟩ ⟨(by show (4 * (z9 - 1) + 11) + 1 ≤ (4 * z9 + 9); omega), (by show 8 + (3 + 11) + (160 * (z9 - 1) + 1440) ≤ (160 * z9 + 1360); omega)⟩ (fun v13 u11 H locs hw12 hP hD hS => ?_)
  obtain ⟨r14, fa15, pl16, dn17, wt18, wf19, ty20, mn21⟩ := u11
  obtain ⟨hw12, h22, h23, h24, h25, h26, h27, h28, h29⟩ := hw12
  replace h22 : fa ≤ fa15 := h22
  replace h23 : fa15 ≤ 15 := h23
  replace h24 : TyC dc r14 := h24
  replace h25 : r14 ≤ 2050 := h25
  replace h26 : ChE B nd c1 ty ty20 mn mn21 := h26
  replace h27 : mnN B nd mn21 := h27
  replace h28 : If (fa15 = 0) (Typ B dc fd md nd ty20 mn21 vt sc k9 c1) := h28
  replace h29 : ty20 c1 = nI r14 := h29
  obtain rfl : v13 = some (.int (nI r14)) := hw12
  have hP : va_P G.1 pCl (mW G h0 a (upd (upd (upd (upd (upd (upd (upd (upd (upd F 15 (nI fa15)) 16 pl16) 44 (nI fd)) 49 (nI md)) 73 (nI sc)) 74 (nI k9)) 77 dn17) 78 wt18) 79 wf19) (updA (updA (updA (updA (updA B 14 nc) 17 ty20) 18 mn21) 48 vn) 49 vt)) _ := mW_to (F := F) (l1 := [(15, (nI fa)), (44, (nI fd)), (49, (nI md)), (73, (nI sc)), (74, (nI k9)), (77, dn), (78, wt), (79, wf), (15, (nI fa15)), (16, pl16), (44, (nI fd)), (49, (nI md)), (73, (nI sc)), (74, (nI k9)), (77, dn17), (78, wt18), (79, wf19)]) (l2 := [(15, (nI fa15)), (16, pl16), (44, (nI fd)), (49, (nI md)), (73, (nI sc)), (74, (nI k9)), (77, dn17), (78, wt18), (79, wf19)]) (V := [(nI fa15), (nI fd), (nI md), (nI sc), (nI k9), dn17, wt18, wf19, (nI fa15), pl16, (nI fd), (nI md), (nI sc), (nI k9), dn17, wt18, wf19, (nI fa15), pl16, (nI fd), (nI md), (nI sc), (nI k9), dn17, wt18, wf19]) rfl rfl rfl hP
  have hD : va_D A (mW G h0 a (upd (upd (upd (upd (upd (upd (upd (upd (upd F 15 (nI fa15)) 16 pl16) 44 (nI fd)) 49 (nI md)) 73 (nI sc)) 74 (nI k9)) 77 dn17) 78 wt18) 79 wf19) (updA (updA (updA (updA (updA B 14 nc) 17 ty20) 18 mn21) 48 vn) 49 vt)) := mW_D hD
  refine W.widen (k := 0) (n := 0) (Nat.le_of_ble_eq_true rfl) (Nat.le_of_ble_eq_true rfl) ?_
  refine W.eq (g2 := F0 m 10 ls [.int (nI r14)]) rfl ?_
  have hch30 : ChE B nd n9 ty ty20 mn mn21 := (ChE.trans ChE.rfl (ChE.kid h26 (by omega) hp4))
  refine lv_istore_n (lv' := [(2, .int (nI r14)), (0, .ref h0), (1, .int (nI n9))]) hx hb dX12_fielded_10 rfl hl (by decide) rfl (fun ls hl => ?_)
  refine lv_aload_n hx hb dX12_fielded_11 rfl (lv_at hl 1 rfl) ?_
  refine lv_iload_n hx hb dX12_fielded_12 rfl (lv_at hl 0 rfl) ?_
  refine pc_SN (G := G) (As := [.int (nI r14)]) (rest := [.ref h0]) hx hb hml hown hq hE hX pX0_al hP hS hA hl.1 (s_isClassType l G r14 (by omega)) (gS pw_1786 pw_1787 pw_1523 pw_1781) hS_X12_isClassType rfl (Nat.le_of_ble_eq_true rfl) dX12_fielded_13 ⟨Nat.le_of_ble_eq_true rfl, Nat.le_of_ble_eq_true rfl⟩ ⟨(by show 2 + 1 ≤ (4 * z9 + 9); omega), (by show 8 + (1 + 11) + 60 ≤ (160 * z9 + 1360); omega)⟩ (fun v33 u31 H locs hw32 hP hS => ?_)
  obtain ⟨r34, rfl, h35, h36, h37, h38⟩ := hw32
  refine W.widen (k := 0) (n := 0) (Nat.le_of_ble_eq_true rfl) (Nat.le_of_ble_eq_true rfl) ?_
  refine W.eq (g2 := F0 m 16 ls [.int (nI r34), .ref h0]) rfl ?_
  refine lv_if_eq (tgt := 46) hx hb dX12_fielded_16 (by decide) (fun c39 => ?_) (fun c39 => ?_)
  · have n40 : r34 = 0 := (nI_eq (a := r34) (b := 0) (by omega) (by omega)).mp c39
    refine lv_iconst (v := 0) hx hb dX12_fielded_46 (by decide) ?_
    refine lv_bipush (v := 11) hx hb dX12_fielded_47 (by decide) ?_
    refine lv_aload_n hx hb dX12_fielded_49 rfl (lv_at hl 1 rfl) ?_
    refine r_get (v := .ref (a 10)) hx hb hown hq hE hP 18 41 tFX12_18 (by decide) pw_1440 rfl dX12_fielded_50 ?_
    refine lv_iload_n hx hb dX12_fielded_53 rfl (lv_at hl 2 rfl) ?_
    refine r_ldi (f := (B 10)) (j := n9) hx hb hE hP 10 (ma_10 G a _) rfl (by omega) (by decide) dX12_fielded_54 ?_
    obtain ⟨⟨t41, e42, h43⟩, -⟩ := hF n9 hn9
    refine lv_topi (fun x44 e45 => ?_)
    obtain rfl : x44 = nI t41 := e45.trans e42
    have hP : va_P G.1 pCl (mW G h0 a (upd (upd (upd (upd (upd (upd (upd (upd (upd (upd F 15 (nI fa15)) 16 pl16) 44 (nI fd)) 49 (nI md)) 73 (nI sc)) 74 (nI k9)) 77 dn17) 78 wt18) 79 wf19) 15 (nI fa15)) (updA (updA (updA (updA (updA B 14 nc) 17 ty20) 18 mn21) 48 vn) 49 vt)) _ := hP
    have hD : va_D A (mW G h0 a (upd (upd (upd (upd (upd (upd (upd (upd (upd (upd F 15 (nI fa15)) 16 pl16) 44 (nI fd)) 49 (nI md)) 73 (nI sc)) 74 (nI k9)) 77 dn17) 78 wt18) 79 wf19) 15 (nI fa15)) (updA (updA (updA (updA (updA B 14 nc) 17 ty20) 18 mn21) 48 vn) 49 vt)) := mW_D hD
    refine pc_V0 (G := G) (As := [.int (nI 0), .int (nI 11), .int (nI t41)]) (rest := []) hx hb hml hown hq hE hX pX0_al hP hD hS hA hl.1 (R_judgeL l G h0 a (upd (upd (upd (upd (upd (upd (upd (upd (upd F 15 (nI fa15)) 16 pl16) 44 (nI fd)) 49 (nI md)) 73 (nI sc)) 74 (nI k9)) 77 dn17) 78 wt18) 79 wf19) (updA (updA (updA (updA (updA B 14 nc) 17 ty20) 18 mn21) 48 vn) 49 vt) 0 11 t41 fa15 (by omega) (by omega) (by omega) (by omega)) (gV pw_1798 pw_1799 pw_1800 pw_1523 pw_1793) hV_X12_judge 0 9 rfl rfl rfl rfl (Nat.le_of_ble_eq_true rfl) dX12_fielded_55 ⟨Nat.le_of_ble_eq_true rfl, Nat.le_of_ble_eq_true rfl⟩ ⟨(by show 3 + 1 ≤ (4 * z9 + 9); omega), (by show 8 + (4 + 11) + 82 ≤ (160 * z9 + 1360); omega)⟩ (fun v48 u46 H locs hw47 hP hD hS => ?_)
    obtain ⟨r49, fa50, pl51⟩ := u46
    obtain ⟨hw47, h52, h53, h54, h55, h56, h57, h58⟩ := hw47
    replace h52 : r49 ≤ 1 := h52
    replace h53 : fa15 ≤ fa50 := h53
    replace h54 : fa50 ≤ 15 := h54
    replace h55 : fa50 + 15 * r49 ≤ 15 := h55
    replace h56 : 1 ≤ r49 + fa50 := h56
    replace h57 : 1 ≤ 0 + fa50 := h57
    replace h58 : fa50 ≤ fa15 + 15 * (1 - 0) := h58
    obtain rfl : v48 = some (.int (nI r49)) := hw47
    have hP : va_P G.1 pCl (mW G h0 a (upd (upd (upd (upd (upd (upd (upd (upd (upd F 15 (nI fa50)) 16 pl51) 44 (nI fd)) 49 (nI md)) 73 (nI sc)) 74 (nI k9)) 77 dn17) 78 wt18) 79 wf19) (updA (updA (updA (updA (updA B 14 nc) 17 ty20) 18 mn21) 48 vn) 49 vt)) _ := mW_to (F := F) (l1 := [(15, (nI fa15)), (16, pl16), (44, (nI fd)), (49, (nI md)), (73, (nI sc)), (74, (nI k9)), (77, dn17), (78, wt18), (79, wf19), (15, (nI fa50)), (16, pl51)]) (l2 := [(15, (nI fa50)), (16, pl51), (44, (nI fd)), (49, (nI md)), (73, (nI sc)), (74, (nI k9)), (77, dn17), (78, wt18), (79, wf19)]) (V := [(nI fa50), pl51, (nI fd), (nI md), (nI sc), (nI k9), dn17, wt18, wf19, (nI fa50), pl51, (nI fa50), pl51, (nI fd), (nI md), (nI sc), (nI k9), dn17, wt18, wf19]) rfl rfl rfl hP
    have hD : va_D A (mW G h0 a (upd (upd (upd (upd (upd (upd (upd (upd (upd F 15 (nI fa50)) 16 pl51) 44 (nI fd)) 49 (nI md)) 73 (nI sc)) 74 (nI k9)) 77 dn17) 78 wt18) 79 wf19) (updA (updA (updA (updA (updA B 14 nc) 17 ty20) 18 mn21) 48 vn) 49 vt)) := mW_D hD
    refine W.widen (k := 0) (n := 0) (Nat.le_of_ble_eq_true rfl) (Nat.le_of_ble_eq_true rfl) ?_
    refine W.eq (g2 := F0 m 58 ls [.int (nI r49)]) rfl ?_
    refine lv_if_ne (tgt := 63) hx hb dX12_fielded_58 (by decide) (fun c59 => (by have n60 : ¬ (r49 = 0) := fun h9 => c59 ((nI_eq (a := r49) (b := 0) (by omega) (by omega)).mpr h9); omega)) (fun c59 => ?_)
    refine lv_iconst (v := 1) hx hb dX12_fielded_61 (by decide) ?_
    have hz61 : fa ≤ fa50 := (by omega)
    have hz62 : fa50 ≤ 15 := (by omega)
    have hz63 : TyC dc 1 := (by unfold TyC; omega)
    have hz64 : 1 ≤ 2050 := (by omega)
    have hz65 : ChE B nd n9 ty ty20 mn mn21 := hch30
    have hz66 : mnN B nd mn21 := h27
    have hz67 : If (fa50 = 0) (Typ0 B dc fd md nd ty20 mn21 vt sc k9 n9 (nI 1)) := (fun e => absurd e (by omega))
    have hP : va_P G.1 pCl (mW G h0 a (upd (upd (upd (upd (upd (upd (upd (upd (upd F 15 (nI fa50)) 16 pl51) 44 (nI fd)) 49 (nI md)) 73 (nI sc)) 74 (nI k9)) 77 dn17) 78 wt18) 79 wf19) (updA (updA (updA (updA (updA B 14 nc) 17 ty20) 18 mn21) 48 vn) 49 vt)) _ := hP
    have hD : va_D A (mW G h0 a (upd (upd (upd (upd (upd (upd (upd (upd (upd F 15 (nI fa50)) 16 pl51) 44 (nI fd)) 49 (nI md)) 73 (nI sc)) 74 (nI k9)) 77 dn17) 78 wt18) 79 wf19) (updA (updA (updA (updA (updA B 14 nc) 17 ty20) 18 mn21) 48 vn) 49 vt)) := mW_D hD
    exact W.iret (v := 1) hx hb hr (fun t9 ht9 hW9 => ⟨⟨_, (1, fa50, pl51, dn17, wt18, wf19, ty20, mn21), rfl, ⟨rfl, hz61, hz62, hz63, hz64, hz65, hz66, hz67⟩, by rw [ht9]; exact hP, hD⟩, hS.F ht9⟩) hS.2.2 dX12_fielded_62
  · have n68 : ¬ (r34 = 0) := fun h9 => c39 ((nI_eq (a := r34) (b := 0) (by omega) (by omega)).mpr h9)
    have h1c := TyC.cls h24 (by omega) (by omega)
    refine lv_aload_n hx hb dX12_fielded_19 rfl (lv_at hl 1 rfl) ?_
    refine r_get (v := .ref (a 26)) hx hb hown hq hE hP 38 90 tFX12_38 (by decide) pw_1457 rfl dX12_fielded_20 ?_
    refine lv_iload_n hx hb dX12_fielded_23 rfl (lv_at hl 0 rfl) ?_
    refine pc_SN (G := G) (As := [.int (nI r14)]) (rest := [.ref (a 26), .ref h0]) hx hb hml hown hq hE hX pX0_al hP hS hA hl.1 (s_isClassType l G r14 (by omega)) (gS pw_1786 pw_1787 pw_1523 pw_1781) hS_X12_isClassType rfl (Nat.le_of_ble_eq_true rfl) dX12_fielded_24 ⟨Nat.le_of_ble_eq_true rfl, Nat.le_of_ble_eq_true rfl⟩ ⟨(by show 2 + 1 ≤ (4 * z9 + 9); omega), (by show 8 + (1 + 11) + 60 ≤ (160 * z9 + 1360); omega)⟩ (fun v71 u69 H locs hw70 hP hS => ?_)
    obtain ⟨r72, rfl, h73, h74, h75, h76⟩ := hw70
    refine W.widen (k := 0) (n := 0) (Nat.le_of_ble_eq_true rfl) (Nat.le_of_ble_eq_true rfl) ?_
    refine W.eq (g2 := F0 m 27 ls [.int (nI r72), .ref (a 26), .ref h0]) rfl ?_
    refine lv_if_eq (tgt := 37) hx hb dX12_fielded_27 (by decide) (fun c77 => absurd (h76 ((nI_eq (a := r72) (b := 0) (by omega) (by omega)).mp c77)) (by omega)) (fun c77 => ?_)
    refine lv_iload_n hx hb dX12_fielded_30 rfl (lv_at hl 0 rfl) ?_
    refine lv_bipush (v := 10) hx hb dX12_fielded_31 (by decide) ?_
    refine lv_isub hx hb dX12_fielded_33 ?_
    refine lv_topi (fun x78 e79 => ?_)
    obtain rfl : x78 = nI (r14 - 10) := e79.trans (nI_subN (a := 10) (b := r14) (by omega))
    refine lv_goto (tgt := 38) hx hb dX12_fielded_34 (by decide) ?_
    refine r_ldz (f := (B 26)) (j := (r14 - 10)) hx hb hE hP 26 (ma_26 G a _) rfl (by omega) (by decide) dX12_fielded_38 ?_
    refine lv_if_ne (tgt := 46) hx hb dX12_fielded_39 (by decide) (fun c80 => ?_) (fun c80 => ?_)
    · refine lv_iconst (v := 0) hx hb dX12_fielded_46 (by decide) ?_
      refine lv_bipush (v := 11) hx hb dX12_fielded_47 (by decide) ?_
      refine lv_aload_n hx hb dX12_fielded_49 rfl (lv_at hl 1 rfl) ?_
      refine r_get (v := .ref (a 10)) hx hb hown hq hE hP 18 41 tFX12_18 (by decide) pw_1440 rfl dX12_fielded_50 ?_
      refine lv_iload_n hx hb dX12_fielded_53 rfl (lv_at hl 2 rfl) ?_
      refine r_ldi (f := (B 10)) (j := n9) hx hb hE hP 10 (ma_10 G a _) rfl (by omega) (by decide) dX12_fielded_54 ?_
      obtain ⟨⟨t81, e82, h83⟩, -⟩ := hF n9 hn9
      refine lv_topi (fun x84 e85 => ?_)
      obtain rfl : x84 = nI t81 := e85.trans e82
      have hP : va_P G.1 pCl (mW G h0 a (upd (upd (upd (upd (upd (upd (upd (upd (upd (upd F 15 (nI fa15)) 16 pl16) 44 (nI fd)) 49 (nI md)) 73 (nI sc)) 74 (nI k9)) 77 dn17) 78 wt18) 79 wf19) 15 (nI fa15)) (updA (updA (updA (updA (updA B 14 nc) 17 ty20) 18 mn21) 48 vn) 49 vt)) _ := hP
      have hD : va_D A (mW G h0 a (upd (upd (upd (upd (upd (upd (upd (upd (upd (upd F 15 (nI fa15)) 16 pl16) 44 (nI fd)) 49 (nI md)) 73 (nI sc)) 74 (nI k9)) 77 dn17) 78 wt18) 79 wf19) 15 (nI fa15)) (updA (updA (updA (updA (updA B 14 nc) 17 ty20) 18 mn21) 48 vn) 49 vt)) := mW_D hD
      refine pc_V0 (G := G) (As := [.int (nI 0), .int (nI 11), .int (nI t81)]) (rest := []) hx hb hml hown hq hE hX pX0_al hP hD hS hA hl.1 (R_judgeL l G h0 a (upd (upd (upd (upd (upd (upd (upd (upd (upd F 15 (nI fa15)) 16 pl16) 44 (nI fd)) 49 (nI md)) 73 (nI sc)) 74 (nI k9)) 77 dn17) 78 wt18) 79 wf19) (updA (updA (updA (updA (updA B 14 nc) 17 ty20) 18 mn21) 48 vn) 49 vt) 0 11 t81 fa15 (by omega) (by omega) (by omega) (by omega)) (gV pw_1798 pw_1799 pw_1800 pw_1523 pw_1793) hV_X12_judge 0 9 rfl rfl rfl rfl (Nat.le_of_ble_eq_true rfl) dX12_fielded_55 ⟨Nat.le_of_ble_eq_true rfl, Nat.le_of_ble_eq_true rfl⟩ ⟨(by show 3 + 1 ≤ (4 * z9 + 9); omega), (by show 8 + (4 + 11) + 82 ≤ (160 * z9 + 1360); omega)⟩ (fun v88 u86 H locs hw87 hP hD hS => ?_)
      obtain ⟨r89, fa90, pl91⟩ := u86
      obtain ⟨hw87, h92, h93, h94, h95, h96, h97, h98⟩ := hw87
      replace h92 : r89 ≤ 1 := h92
      replace h93 : fa15 ≤ fa90 := h93
      replace h94 : fa90 ≤ 15 := h94
      replace h95 : fa90 + 15 * r89 ≤ 15 := h95
      replace h96 : 1 ≤ r89 + fa90 := h96
      replace h97 : 1 ≤ 0 + fa90 := h97
      replace h98 : fa90 ≤ fa15 + 15 * (1 - 0) := h98
      obtain rfl : v88 = some (.int (nI r89)) := hw87
      have hP : va_P G.1 pCl (mW G h0 a (upd (upd (upd (upd (upd (upd (upd (upd (upd F 15 (nI fa90)) 16 pl91) 44 (nI fd)) 49 (nI md)) 73 (nI sc)) 74 (nI k9)) 77 dn17) 78 wt18) 79 wf19) (updA (updA (updA (updA (updA B 14 nc) 17 ty20) 18 mn21) 48 vn) 49 vt)) _ := mW_to (F := F) (l1 := [(15, (nI fa15)), (16, pl16), (44, (nI fd)), (49, (nI md)), (73, (nI sc)), (74, (nI k9)), (77, dn17), (78, wt18), (79, wf19), (15, (nI fa90)), (16, pl91)]) (l2 := [(15, (nI fa90)), (16, pl91), (44, (nI fd)), (49, (nI md)), (73, (nI sc)), (74, (nI k9)), (77, dn17), (78, wt18), (79, wf19)]) (V := [(nI fa90), pl91, (nI fd), (nI md), (nI sc), (nI k9), dn17, wt18, wf19, (nI fa90), pl91, (nI fa90), pl91, (nI fd), (nI md), (nI sc), (nI k9), dn17, wt18, wf19]) rfl rfl rfl hP
      have hD : va_D A (mW G h0 a (upd (upd (upd (upd (upd (upd (upd (upd (upd F 15 (nI fa90)) 16 pl91) 44 (nI fd)) 49 (nI md)) 73 (nI sc)) 74 (nI k9)) 77 dn17) 78 wt18) 79 wf19) (updA (updA (updA (updA (updA B 14 nc) 17 ty20) 18 mn21) 48 vn) 49 vt)) := mW_D hD
      refine W.widen (k := 0) (n := 0) (Nat.le_of_ble_eq_true rfl) (Nat.le_of_ble_eq_true rfl) ?_
      refine W.eq (g2 := F0 m 58 ls [.int (nI r89)]) rfl ?_
      refine lv_if_ne (tgt := 63) hx hb dX12_fielded_58 (by decide) (fun c99 => (by have n100 : ¬ (r89 = 0) := fun h9 => c99 ((nI_eq (a := r89) (b := 0) (by omega) (by omega)).mpr h9); omega)) (fun c99 => ?_)
      refine lv_iconst (v := 1) hx hb dX12_fielded_61 (by decide) ?_
      have hz101 : fa ≤ fa90 := (by omega)
      have hz102 : fa90 ≤ 15 := (by omega)
      have hz103 : TyC dc 1 := (by unfold TyC; omega)
      have hz104 : 1 ≤ 2050 := (by omega)
      have hz105 : ChE B nd n9 ty ty20 mn mn21 := hch30
      have hz106 : mnN B nd mn21 := h27
      have hz107 : If (fa90 = 0) (Typ0 B dc fd md nd ty20 mn21 vt sc k9 n9 (nI 1)) := (fun e => absurd e (by omega))
      have hP : va_P G.1 pCl (mW G h0 a (upd (upd (upd (upd (upd (upd (upd (upd (upd F 15 (nI fa90)) 16 pl91) 44 (nI fd)) 49 (nI md)) 73 (nI sc)) 74 (nI k9)) 77 dn17) 78 wt18) 79 wf19) (updA (updA (updA (updA (updA B 14 nc) 17 ty20) 18 mn21) 48 vn) 49 vt)) _ := hP
      have hD : va_D A (mW G h0 a (upd (upd (upd (upd (upd (upd (upd (upd (upd F 15 (nI fa90)) 16 pl91) 44 (nI fd)) 49 (nI md)) 73 (nI sc)) 74 (nI k9)) 77 dn17) 78 wt18) 79 wf19) (updA (updA (updA (updA (updA B 14 nc) 17 ty20) 18 mn21) 48 vn) 49 vt)) := mW_D hD
      exact W.iret (v := 1) hx hb hr (fun t9 ht9 hW9 => ⟨⟨_, (1, fa90, pl91, dn17, wt18, wf19, ty20, mn21), rfl, ⟨rfl, hz101, hz102, hz103, hz104, hz105, hz106, hz107⟩, by rw [ht9]; exact hP, hD⟩, hS.F ht9⟩) hS.2.2 dX12_fielded_62
    · refine lv_iconst (v := 1) hx hb dX12_fielded_42 (by decide) ?_
      refine lv_goto (tgt := 47) hx hb dX12_fielded_43 (by decide) ?_
      refine lv_bipush (v := 11) hx hb dX12_fielded_47 (by decide) ?_
      refine lv_aload_n hx hb dX12_fielded_49 rfl (lv_at hl 1 rfl) ?_
      refine r_get (v := .ref (a 10)) hx hb hown hq hE hP 18 41 tFX12_18 (by decide) pw_1440 rfl dX12_fielded_50 ?_
      refine lv_iload_n hx hb dX12_fielded_53 rfl (lv_at hl 2 rfl) ?_
      refine r_ldi (f := (B 10)) (j := n9) hx hb hE hP 10 (ma_10 G a _) rfl (by omega) (by decide) dX12_fielded_54 ?_
      obtain ⟨⟨t108, e109, h110⟩, -⟩ := hF n9 hn9
      refine lv_topi (fun x111 e112 => ?_)
      obtain rfl : x111 = nI t108 := e112.trans e109
      have hP : va_P G.1 pCl (mW G h0 a (upd (upd (upd (upd (upd (upd (upd (upd (upd (upd F 15 (nI fa15)) 16 pl16) 44 (nI fd)) 49 (nI md)) 73 (nI sc)) 74 (nI k9)) 77 dn17) 78 wt18) 79 wf19) 15 (nI fa15)) (updA (updA (updA (updA (updA B 14 nc) 17 ty20) 18 mn21) 48 vn) 49 vt)) _ := hP
      have hD : va_D A (mW G h0 a (upd (upd (upd (upd (upd (upd (upd (upd (upd (upd F 15 (nI fa15)) 16 pl16) 44 (nI fd)) 49 (nI md)) 73 (nI sc)) 74 (nI k9)) 77 dn17) 78 wt18) 79 wf19) 15 (nI fa15)) (updA (updA (updA (updA (updA B 14 nc) 17 ty20) 18 mn21) 48 vn) 49 vt)) := mW_D hD
      refine pc_V0 (G := G) (As := [.int (nI 1), .int (nI 11), .int (nI t108)]) (rest := []) hx hb hml hown hq hE hX pX0_al hP hD hS hA hl.1 (R_judgeL l G h0 a (upd (upd (upd (upd (upd (upd (upd (upd (upd F 15 (nI fa15)) 16 pl16) 44 (nI fd)) 49 (nI md)) 73 (nI sc)) 74 (nI k9)) 77 dn17) 78 wt18) 79 wf19) (updA (updA (updA (updA (updA B 14 nc) 17 ty20) 18 mn21) 48 vn) 49 vt) 1 11 t108 fa15 (by omega) (by omega) (by omega) (by omega)) (gV pw_1798 pw_1799 pw_1800 pw_1523 pw_1793) hV_X12_judge 0 9 rfl rfl rfl rfl (Nat.le_of_ble_eq_true rfl) dX12_fielded_55 ⟨Nat.le_of_ble_eq_true rfl, Nat.le_of_ble_eq_true rfl⟩ ⟨(by show 3 + 1 ≤ (4 * z9 + 9); omega), (by show 8 + (4 + 11) + 82 ≤ (160 * z9 + 1360); omega)⟩ (fun v115 u113 H locs hw114 hP hD hS => ?_)
      obtain ⟨r116, fa117, pl118⟩ := u113
      obtain ⟨hw114, h119, h120, h121, h122, h123, h124, h125⟩ := hw114
      replace h119 : r116 ≤ 1 := h119
      replace h120 : fa15 ≤ fa117 := h120
      replace h121 : fa117 ≤ 15 := h121
      replace h122 : fa117 + 15 * r116 ≤ 15 := h122
      replace h123 : 1 ≤ r116 + fa117 := h123
      replace h124 : 1 ≤ 1 + fa117 := h124
      replace h125 : fa117 ≤ fa15 + 15 * (1 - 1) := h125
      obtain rfl : v115 = some (.int (nI r116)) := hw114
      have hP : va_P G.1 pCl (mW G h0 a (upd (upd (upd (upd (upd (upd (upd (upd (upd F 15 (nI fa117)) 16 pl118) 44 (nI fd)) 49 (nI md)) 73 (nI sc)) 74 (nI k9)) 77 dn17) 78 wt18) 79 wf19) (updA (updA (updA (updA (updA B 14 nc) 17 ty20) 18 mn21) 48 vn) 49 vt)) _ := mW_to (F := F) (l1 := [(15, (nI fa15)), (16, pl16), (44, (nI fd)), (49, (nI md)), (73, (nI sc)), (74, (nI k9)), (77, dn17), (78, wt18), (79, wf19), (15, (nI fa117)), (16, pl118)]) (l2 := [(15, (nI fa117)), (16, pl118), (44, (nI fd)), (49, (nI md)), (73, (nI sc)), (74, (nI k9)), (77, dn17), (78, wt18), (79, wf19)]) (V := [(nI fa117), pl118, (nI fd), (nI md), (nI sc), (nI k9), dn17, wt18, wf19, (nI fa117), pl118, (nI fa117), pl118, (nI fd), (nI md), (nI sc), (nI k9), dn17, wt18, wf19]) rfl rfl rfl hP
      have hD : va_D A (mW G h0 a (upd (upd (upd (upd (upd (upd (upd (upd (upd F 15 (nI fa117)) 16 pl118) 44 (nI fd)) 49 (nI md)) 73 (nI sc)) 74 (nI k9)) 77 dn17) 78 wt18) 79 wf19) (updA (updA (updA (updA (updA B 14 nc) 17 ty20) 18 mn21) 48 vn) 49 vt)) := mW_D hD
      refine W.widen (k := 0) (n := 0) (Nat.le_of_ble_eq_true rfl) (Nat.le_of_ble_eq_true rfl) ?_
      refine W.eq (g2 := F0 m 58 ls [.int (nI r116)]) rfl ?_
      refine lv_if_ne (tgt := 63) hx hb dX12_fielded_58 (by decide) (fun c126 => ?_) (fun c126 => ?_)
      · have n127 : ¬ (r116 = 0) := fun h9 => c126 ((nI_eq (a := r116) (b := 0) (by omega) (by omega)).mpr h9)
        refine lv_aload_n hx hb dX12_fielded_63 rfl (lv_at hl 1 rfl) ?_
        refine lv_iload_n hx hb dX12_fielded_64 rfl (lv_at hl 0 rfl) ?_
        refine lv_bipush (v := 10) hx hb dX12_fielded_65 (by decide) ?_
        refine lv_isub hx hb dX12_fielded_67 ?_
        refine lv_topi (fun x128 e129 => ?_)
        obtain rfl : x128 = nI (r14 - 10) := e129.trans (nI_subN (a := 10) (b := r14) (by omega))
        refine lv_aload_n hx hb dX12_fielded_68 rfl (lv_at hl 1 rfl) ?_
        refine r_get (v := .ref (a 5)) hx hb hown hq hE hP 8 25 tFX12_8 (by decide) pw_1435 rfl dX12_fielded_69 ?_
        refine lv_aload_n hx hb dX12_fielded_72 rfl (lv_at hl 1 rfl) ?_
        refine r_get (v := .ref (a 11)) hx hb hown hq hE hP 19 44 tFX12_19 (by decide) pw_1441 rfl dX12_fielded_73 ?_
        refine lv_iload_n hx hb dX12_fielded_76 rfl (lv_at hl 2 rfl) ?_
        refine r_ldi (f := (B 11)) (j := n9) hx hb hE hP 11 (ma_11 G a _) rfl (by omega) (by decide) dX12_fielded_77 ?_
        obtain ⟨-, ⟨t130, e131, h132, -⟩, -⟩ := hF n9 hn9
        refine lv_topi (fun x133 e134 => ?_)
        obtain rfl : x133 = nI t130 := e134.trans e131
        refine r_ldi (f := (B 5)) (j := t130) hx hb hE hP 5 (ma_5 G a _) rfl (by omega) (by decide) dX12_fielded_78 ?_
        have hP : va_P G.1 pCl (mW G h0 a (upd (upd (upd (upd (upd (upd (upd (upd (upd (upd F 15 (nI fa117)) 16 pl118) 44 (nI fd)) 49 (nI md)) 73 (nI sc)) 74 (nI k9)) 77 dn17) 78 wt18) 79 wf19) 44 (nI fd)) (updA (updA (updA (updA (updA B 14 nc) 17 ty20) 18 mn21) 48 vn) 49 vt)) _ := mW_to (F := F) (l1 := [(15, (nI fa117)), (16, pl118), (44, (nI fd)), (49, (nI md)), (73, (nI sc)), (74, (nI k9)), (77, dn17), (78, wt18), (79, wf19)]) (l2 := [(15, (nI fa117)), (16, pl118), (44, (nI fd)), (49, (nI md)), (73, (nI sc)), (74, (nI k9)), (77, dn17), (78, wt18), (79, wf19), (44, (nI fd))]) (V := [(nI fa117), pl118, (nI fd), (nI md), (nI sc), (nI k9), dn17, wt18, wf19, (nI fa117), pl118, (nI fd), (nI md), (nI sc), (nI k9), dn17, wt18, wf19, (nI fd)]) rfl rfl rfl hP
        have hD : va_D A (mW G h0 a (upd (upd (upd (upd (upd (upd (upd (upd (upd (upd F 15 (nI fa117)) 16 pl118) 44 (nI fd)) 49 (nI md)) 73 (nI sc)) 74 (nI k9)) 77 dn17) 78 wt18) 79 wf19) 44 (nI fd)) (updA (updA (updA (updA (updA B 14 nc) 17 ty20) 18 mn21) 48 vn) 49 vt)) := mW_D hD
        refine pc_V0 (G := G) (As := [.int (nI (r14 - 10)), .int ((B 5) t130)]) (rest := []) hx hb hml hown hq hE hX pX0_al hP hD hS hA hl.1 (R_fieldOf l G h0 a (upd (upd (upd (upd (upd (upd (upd (upd (upd F 15 (nI fa117)) 16 pl118) 44 (nI fd)) 49 (nI md)) 73 (nI sc)) 74 (nI k9)) 77 dn17) 78 wt18) 79 wf19) (updA (updA (updA (updA (updA B 14 nc) 17 ty20) 18 mn21) 48 vn) 49 vt) (r14 - 10) dc fd ((B 5) t130) (by omega) (by omega) (by omega) hBI (fun f hf => by obtain ⟨⟨d, z1, z2, z3⟩, -⟩ := hPS.2.1 f hf; exact ⟨d, z1, z3⟩)) (gV pw_1811 pw_1812 pw_1813 pw_1523 pw_1802) hV_X12_fieldOf 0 9 rfl rfl rfl rfl (Nat.le_of_ble_eq_true rfl) dX12_fielded_79 ⟨Nat.le_of_ble_eq_true rfl, Nat.le_of_ble_eq_true rfl⟩ ⟨(by show 3 + 1 ≤ (4 * z9 + 9); omega), (by show 8 + (4 + 11) + 82 ≤ (160 * z9 + 1360); omega)⟩ (fun v137 u135 H locs hw136 hP hD hS => ?_)
        obtain ⟨r138, rfl⟩ : ∃ z, z = u135 := ⟨_, rfl⟩
        obtain ⟨hw136, h139⟩ := hw136
        replace h139 : FldQ (updA (updA (updA (updA (updA B 14 nc) 17 ty20) 18 mn21) 48 vn) 49 vt) dc fd (r14 - 10) ((B 5) t130) r138 := h139
        obtain rfl : v137 = some (.int r138) := hw136
        have hP : va_P G.1 pCl (mW G h0 a (upd (upd (upd (upd (upd (upd (upd (upd (upd F 15 (nI fa117)) 16 pl118) 44 (nI fd)) 49 (nI md)) 73 (nI sc)) 74 (nI k9)) 77 dn17) 78 wt18) 79 wf19) (updA (updA (updA (updA (updA B 14 nc) 17 ty20) 18 mn21) 48 vn) 49 vt)) _ := mW_to (F := F) (l1 := [(15, (nI fa117)), (16, pl118), (44, (nI fd)), (49, (nI md)), (73, (nI sc)), (74, (nI k9)), (77, dn17), (78, wt18), (79, wf19), (44, (nI fd))]) (l2 := [(15, (nI fa117)), (16, pl118), (44, (nI fd)), (49, (nI md)), (73, (nI sc)), (74, (nI k9)), (77, dn17), (78, wt18), (79, wf19)]) (V := [(nI fa117), pl118, (nI fd), (nI md), (nI sc), (nI k9), dn17, wt18, wf19, (nI fd), (nI fa117), pl118, (nI fd), (nI md), (nI sc), (nI k9), dn17, wt18, wf19]) rfl rfl rfl hP
        have hD : va_D A (mW G h0 a (upd (upd (upd (upd (upd (upd (upd (upd (upd F 15 (nI fa117)) 16 pl118) 44 (nI fd)) 49 (nI md)) 73 (nI sc)) 74 (nI k9)) 77 dn17) 78 wt18) 79 wf19) (updA (updA (updA (updA (updA B 14 nc) 17 ty20) 18 mn21) 48 vn) 49 vt)) := mW_D hD
        refine W.widen (k := 0) (n := 0) (Nat.le_of_ble_eq_true rfl) (Nat.le_of_ble_eq_true rfl) ?_
        refine W.eq (g2 := F0 m 82 ls [.int r138]) rfl ?_
        refine lv_istore_n (lv' := [(3, .int r138), (2, .int (nI r14)), (0, .ref h0), (1, .int (nI n9))]) hx hb dX12_fielded_82 rfl hl (by decide) rfl (fun ls hl => ?_)
        refine lv_aload_n hx hb dX12_fielded_83 rfl (lv_at hl 2 rfl) ?_
        refine r_get (v := .ref (a 18)) hx hb hown hq hE hP 26 65 tFX12_26 (by decide) pw_1448 rfl dX12_fielded_84 ?_
        refine lv_iload_n hx hb dX12_fielded_87 rfl (lv_at hl 3 rfl) ?_
        refine lv_iload_n hx hb dX12_fielded_88 rfl (lv_at hl 0 rfl) ?_
        refine r_sti (f := mn21) (j := n9) hx hb hE hP hD hS 18 (ma_18 G a _) rfl (mas_18 G a _) (by omega) (by decide) dX12_fielded_89 (fun H locs hP hD hS => ?_)
        have hch140 : ChE B nd n9 ty ty20 mn (upd mn21 n9 r138) := (ChE.trans hch30 (ChE.setM sub.rfl))
        have hmn141 : mnN B nd (upd mn21 n9 r138) := (mnN.up h27 (by rw [hkd]; decide))
        have hy142 : If (fa15 = 0) (Typ B dc fd md nd ty20 (upd mn21 n9 r138) vt sc k9 c1) := (fun e => Typ.mean hF (by omega) hn9 (h28 e) h3 hp4)
        refine lv_aload_n hx hb dX12_fielded_90 rfl (lv_at hl 2 rfl) ?_
        refine lv_iload_n hx hb dX12_fielded_91 rfl (lv_at hl 0 rfl) ?_
        refine lv_iconst (v := (-1)) hx hb dX12_fielded_92 (by decide) ?_
        refine lv_icmp_eq (tgt := 100) hx hb dX12_fielded_93 (by decide) (fun c143 => ?_) (fun c143 => ?_)
        · refine lv_iconst (v := 0) hx hb dX12_fielded_100 (by decide) ?_
          refine lv_bipush (v := 10) hx hb dX12_fielded_101 (by decide) ?_
          refine lv_aload_n hx hb dX12_fielded_103 rfl (lv_at hl 2 rfl) ?_
          refine r_get (v := .ref (a 11)) hx hb hown hq hE hP 19 44 tFX12_19 (by decide) pw_1441 rfl dX12_fielded_104 ?_
          refine lv_iload_n hx hb dX12_fielded_107 rfl (lv_at hl 3 rfl) ?_
          refine r_ldi (f := (B 11)) (j := n9) hx hb hE hP 11 (ma_11 G a _) rfl (by omega) (by decide) dX12_fielded_108 ?_
          refine lv_topi (fun x144 e145 => ?_)
          obtain rfl : x144 = nI t130 := e145.trans e131
          have hP : va_P G.1 pCl (mW G h0 a (upd (upd (upd (upd (upd (upd (upd (upd (upd (upd F 15 (nI fa117)) 16 pl118) 44 (nI fd)) 49 (nI md)) 73 (nI sc)) 74 (nI k9)) 77 dn17) 78 wt18) 79 wf19) 15 (nI fa117)) (updA (updA (updA (updA (updA B 14 nc) 17 ty20) 18 (upd mn21 n9 r138)) 48 vn) 49 vt)) _ := mW_to (F := F) (l1 := [(15, (nI fa117)), (16, pl118), (44, (nI fd)), (49, (nI md)), (73, (nI sc)), (74, (nI k9)), (77, dn17), (78, wt18), (79, wf19)]) (l2 := [(15, (nI fa117)), (16, pl118), (44, (nI fd)), (49, (nI md)), (73, (nI sc)), (74, (nI k9)), (77, dn17), (78, wt18), (79, wf19), (15, (nI fa117))]) (V := [(nI fa117), pl118, (nI fd), (nI md), (nI sc), (nI k9), dn17, wt18, wf19, (nI fa117), pl118, (nI fd), (nI md), (nI sc), (nI k9), dn17, wt18, wf19, (nI fa117)]) rfl rfl (show (updA (updA (updA (updA (updA (updA B 14 nc) 17 ty20) 18 mn21) 48 vn) 49 vt) 18 (upd mn21 n9 r138)) = (updA (updA (updA (updA (updA B 14 nc) 17 ty20) 18 (upd mn21 n9 r138)) 48 vn) 49 vt) from updsA_eq2 (F := B) (l1 := [(14, nc), (17, ty20), (18, mn21), (48, vn), (49, vt), (18, (upd mn21 n9 r138))]) (l2 := [(14, nc), (17, ty20), (18, (upd mn21 n9 r138)), (48, vn), (49, vt)]) (V := [nc, ty20, (upd mn21 n9 r138), vn, vt, (upd mn21 n9 r138), nc, ty20, (upd mn21 n9 r138), vn, vt]) rfl rfl) hP
          have hD : va_D A (mW G h0 a (upd (upd (upd (upd (upd (upd (upd (upd (upd (upd F 15 (nI fa117)) 16 pl118) 44 (nI fd)) 49 (nI md)) 73 (nI sc)) 74 (nI k9)) 77 dn17) 78 wt18) 79 wf19) 15 (nI fa117)) (updA (updA (updA (updA (updA B 14 nc) 17 ty20) 18 (upd mn21 n9 r138)) 48 vn) 49 vt)) := mW_D hD
          refine pc_V0 (G := G) (As := [.int (nI 0), .int (nI 10), .int (nI t130)]) (rest := []) hx hb hml hown hq hE hX pX0_al hP hD hS hA hl.1 (R_judgeL l G h0 a (upd (upd (upd (upd (upd (upd (upd (upd (upd F 15 (nI fa117)) 16 pl118) 44 (nI fd)) 49 (nI md)) 73 (nI sc)) 74 (nI k9)) 77 dn17) 78 wt18) 79 wf19) (updA (updA (updA (updA (updA B 14 nc) 17 ty20) 18 (upd mn21 n9 r138)) 48 vn) 49 vt) 0 10 t130 fa117 (by omega) (by omega) (by omega) (by omega)) (gV pw_1798 pw_1799 pw_1800 pw_1523 pw_1793) hV_X12_judge 0 9 rfl rfl rfl rfl (Nat.le_of_ble_eq_true rfl) dX12_fielded_109 ⟨Nat.le_of_ble_eq_true rfl, Nat.le_of_ble_eq_true rfl⟩ ⟨(by show 3 + 1 ≤ (4 * z9 + 9); omega), (by show 8 + (4 + 11) + 82 ≤ (160 * z9 + 1360); omega)⟩ (fun v148 u146 H locs hw147 hP hD hS => ?_)
          obtain ⟨r149, fa150, pl151⟩ := u146
          obtain ⟨hw147, h152, h153, h154, h155, h156, h157, h158⟩ := hw147
          replace h152 : r149 ≤ 1 := h152
          replace h153 : fa117 ≤ fa150 := h153
          replace h154 : fa150 ≤ 15 := h154
          replace h155 : fa150 + 15 * r149 ≤ 15 := h155
          replace h156 : 1 ≤ r149 + fa150 := h156
          replace h157 : 1 ≤ 0 + fa150 := h157
          replace h158 : fa150 ≤ fa117 + 15 * (1 - 0) := h158
          obtain rfl : v148 = some (.int (nI r149)) := hw147
          have hP : va_P G.1 pCl (mW G h0 a (upd (upd (upd (upd (upd (upd (upd (upd (upd F 15 (nI fa150)) 16 pl151) 44 (nI fd)) 49 (nI md)) 73 (nI sc)) 74 (nI k9)) 77 dn17) 78 wt18) 79 wf19) (updA (updA (updA (updA (updA B 14 nc) 17 ty20) 18 (upd mn21 n9 r138)) 48 vn) 49 vt)) _ := mW_to (F := F) (l1 := [(15, (nI fa117)), (16, pl118), (44, (nI fd)), (49, (nI md)), (73, (nI sc)), (74, (nI k9)), (77, dn17), (78, wt18), (79, wf19), (15, (nI fa150)), (16, pl151)]) (l2 := [(15, (nI fa150)), (16, pl151), (44, (nI fd)), (49, (nI md)), (73, (nI sc)), (74, (nI k9)), (77, dn17), (78, wt18), (79, wf19)]) (V := [(nI fa150), pl151, (nI fd), (nI md), (nI sc), (nI k9), dn17, wt18, wf19, (nI fa150), pl151, (nI fa150), pl151, (nI fd), (nI md), (nI sc), (nI k9), dn17, wt18, wf19]) rfl rfl rfl hP
          have hD : va_D A (mW G h0 a (upd (upd (upd (upd (upd (upd (upd (upd (upd F 15 (nI fa150)) 16 pl151) 44 (nI fd)) 49 (nI md)) 73 (nI sc)) 74 (nI k9)) 77 dn17) 78 wt18) 79 wf19) (updA (updA (updA (updA (updA B 14 nc) 17 ty20) 18 (upd mn21 n9 r138)) 48 vn) 49 vt)) := mW_D hD
          refine W.widen (k := 0) (n := 0) (Nat.le_of_ble_eq_true rfl) (Nat.le_of_ble_eq_true rfl) ?_
          refine W.eq (g2 := F0 m 112 ls [.int (nI r149)]) rfl ?_
          refine lv_if_eq (tgt := 129) hx hb dX12_fielded_112 (by decide) (fun c159 => ?_) (fun c159 => (by have n160 : ¬ (r149 = 0) := fun h9 => c159 ((nI_eq (a := r149) (b := 0) (by omega) (by omega)).mpr h9); omega))
          refine lv_iconst (v := 1) hx hb dX12_fielded_129 (by decide) ?_
          have hz161 : fa ≤ fa150 := (by omega)
          have hz162 : fa150 ≤ 15 := (by omega)
          have hz163 : TyC dc 1 := (by unfold TyC; omega)
          have hz164 : 1 ≤ 2050 := (by omega)
          have hz165 : ChE B nd n9 ty ty20 mn (upd mn21 n9 r138) := hch140
          have hz166 : mnN B nd (upd mn21 n9 r138) := hmn141
          have hz167 : If (fa150 = 0) (Typ0 B dc fd md nd ty20 (upd mn21 n9 r138) vt sc k9 n9 (nI 1)) := (fun e => absurd e (by omega))
          have hP : va_P G.1 pCl (mW G h0 a (upd (upd (upd (upd (upd (upd (upd (upd (upd F 15 (nI fa150)) 16 pl151) 44 (nI fd)) 49 (nI md)) 73 (nI sc)) 74 (nI k9)) 77 dn17) 78 wt18) 79 wf19) (updA (updA (updA (updA (updA B 14 nc) 17 ty20) 18 (upd mn21 n9 r138)) 48 vn) 49 vt)) _ := hP
          have hD : va_D A (mW G h0 a (upd (upd (upd (upd (upd (upd (upd (upd (upd F 15 (nI fa150)) 16 pl151) 44 (nI fd)) 49 (nI md)) 73 (nI sc)) 74 (nI k9)) 77 dn17) 78 wt18) 79 wf19) (updA (updA (updA (updA (updA B 14 nc) 17 ty20) 18 (upd mn21 n9 r138)) 48 vn) 49 vt)) := mW_D hD
          exact W.iret (v := 1) hx hb hr (fun t9 ht9 hW9 => ⟨⟨_, (1, fa150, pl151, dn17, wt18, wf19, ty20, (upd mn21 n9 r138)), rfl, ⟨rfl, hz161, hz162, hz163, hz164, hz165, hz166, hz167⟩, by rw [ht9]; exact hP, hD⟩, hS.F ht9⟩) hS.2.2 dX12_fielded_130
        · obtain ⟨f168, e169, h170, h171⟩ := FldQ.ow (X := B) h139 c143
          subst e169
          refine lv_iconst (v := 1) hx hb dX12_fielded_96 (by decide) ?_
          refine lv_goto (tgt := 101) hx hb dX12_fielded_97 (by decide) ?_
          refine lv_bipush (v := 10) hx hb dX12_fielded_101 (by decide) ?_
          refine lv_aload_n hx hb dX12_fielded_103 rfl (lv_at hl 2 rfl) ?_
          refine r_get (v := .ref (a 11)) hx hb hown hq hE hP 19 44 tFX12_19 (by decide) pw_1441 rfl dX12_fielded_104 ?_
          refine lv_iload_n hx hb dX12_fielded_107 rfl (lv_at hl 3 rfl) ?_
          refine r_ldi (f := (B 11)) (j := n9) hx hb hE hP 11 (ma_11 G a _) rfl (by omega) (by decide) dX12_fielded_108 ?_
          refine lv_topi (fun x172 e173 => ?_)
          obtain rfl : x172 = nI t130 := e173.trans e131
          have hP : va_P G.1 pCl (mW G h0 a (upd (upd (upd (upd (upd (upd (upd (upd (upd (upd F 15 (nI fa117)) 16 pl118) 44 (nI fd)) 49 (nI md)) 73 (nI sc)) 74 (nI k9)) 77 dn17) 78 wt18) 79 wf19) 15 (nI fa117)) (updA (updA (updA (updA (updA B 14 nc) 17 ty20) 18 (upd mn21 n9 (nI f168))) 48 vn) 49 vt)) _ := hP
          have hD : va_D A (mW G h0 a (upd (upd (upd (upd (upd (upd (upd (upd (upd (upd F 15 (nI fa117)) 16 pl118) 44 (nI fd)) 49 (nI md)) 73 (nI sc)) 74 (nI k9)) 77 dn17) 78 wt18) 79 wf19) 15 (nI fa117)) (updA (updA (updA (updA (updA B 14 nc) 17 ty20) 18 (upd mn21 n9 (nI f168))) 48 vn) 49 vt)) := mW_D hD
          refine pc_V0 (G := G) (As := [.int (nI 1), .int (nI 10), .int (nI t130)]) (rest := []) hx hb hml hown hq hE hX pX0_al hP hD hS hA hl.1 (R_judgeL l G h0 a (upd (upd (upd (upd (upd (upd (upd (upd (upd F 15 (nI fa117)) 16 pl118) 44 (nI fd)) 49 (nI md)) 73 (nI sc)) 74 (nI k9)) 77 dn17) 78 wt18) 79 wf19) (updA (updA (updA (updA (updA B 14 nc) 17 ty20) 18 (upd mn21 n9 (nI f168))) 48 vn) 49 vt) 1 10 t130 fa117 (by omega) (by omega) (by omega) (by omega)) (gV pw_1798 pw_1799 pw_1800 pw_1523 pw_1793) hV_X12_judge 0 9 rfl rfl rfl rfl (Nat.le_of_ble_eq_true rfl) dX12_fielded_109 ⟨Nat.le_of_ble_eq_true rfl, Nat.le_of_ble_eq_true rfl⟩ ⟨(by show 3 + 1 ≤ (4 * z9 + 9); omega), (by show 8 + (4 + 11) + 82 ≤ (160 * z9 + 1360); omega)⟩ (fun v176 u174 H locs hw175 hP hD hS => ?_)
          obtain ⟨r177, fa178, pl179⟩ := u174
          obtain ⟨hw175, h180, h181, h182, h183, h184, h185, h186⟩ := hw175
          replace h180 : r177 ≤ 1 := h180
          replace h181 : fa117 ≤ fa178 := h181
          replace h182 : fa178 ≤ 15 := h182
          replace h183 : fa178 + 15 * r177 ≤ 15 := h183
          replace h184 : 1 ≤ r177 + fa178 := h184
          replace h185 : 1 ≤ 1 + fa178 := h185
          replace h186 : fa178 ≤ fa117 + 15 * (1 - 1) := h186
          obtain rfl : v176 = some (.int (nI r177)) := hw175
          have hP : va_P G.1 pCl (mW G h0 a (upd (upd (upd (upd (upd (upd (upd (upd (upd F 15 (nI fa178)) 16 pl179) 44 (nI fd)) 49 (nI md)) 73 (nI sc)) 74 (nI k9)) 77 dn17) 78 wt18) 79 wf19) (updA (updA (updA (updA (updA B 14 nc) 17 ty20) 18 (upd mn21 n9 (nI f168))) 48 vn) 49 vt)) _ := mW_to (F := F) (l1 := [(15, (nI fa117)), (16, pl118), (44, (nI fd)), (49, (nI md)), (73, (nI sc)), (74, (nI k9)), (77, dn17), (78, wt18), (79, wf19), (15, (nI fa178)), (16, pl179)]) (l2 := [(15, (nI fa178)), (16, pl179), (44, (nI fd)), (49, (nI md)), (73, (nI sc)), (74, (nI k9)), (77, dn17), (78, wt18), (79, wf19)]) (V := [(nI fa178), pl179, (nI fd), (nI md), (nI sc), (nI k9), dn17, wt18, wf19, (nI fa178), pl179, (nI fa178), pl179, (nI fd), (nI md), (nI sc), (nI k9), dn17, wt18, wf19]) rfl rfl rfl hP
          have hD : va_D A (mW G h0 a (upd (upd (upd (upd (upd (upd (upd (upd (upd F 15 (nI fa178)) 16 pl179) 44 (nI fd)) 49 (nI md)) 73 (nI sc)) 74 (nI k9)) 77 dn17) 78 wt18) 79 wf19) (updA (updA (updA (updA (updA B 14 nc) 17 ty20) 18 (upd mn21 n9 (nI f168))) 48 vn) 49 vt)) := mW_D hD
          refine W.widen (k := 0) (n := 0) (Nat.le_of_ble_eq_true rfl) (Nat.le_of_ble_eq_true rfl) ?_
          refine W.eq (g2 := F0 m 112 ls [.int (nI r177)]) rfl ?_
          refine lv_if_eq (tgt := 129) hx hb dX12_fielded_112 (by decide) (fun c187 => ?_) (fun c187 => ?_)
          · have n188 : r177 = 0 := (nI_eq (a := r177) (b := 0) (by omega) (by omega)).mp c187
            refine lv_iconst (v := 1) hx hb dX12_fielded_129 (by decide) ?_
            have hz189 : fa ≤ fa178 := (by omega)
            have hz190 : fa178 ≤ 15 := (by omega)
            have hz191 : TyC dc 1 := (by unfold TyC; omega)
            have hz192 : 1 ≤ 2050 := (by omega)
            have hz193 : ChE B nd n9 ty ty20 mn (upd mn21 n9 (nI f168)) := hch140
            have hz194 : mnN B nd (upd mn21 n9 (nI f168)) := hmn141
            have hz195 : If (fa178 = 0) (Typ0 B dc fd md nd ty20 (upd mn21 n9 (nI f168)) vt sc k9 n9 (nI 1)) := (fun e => absurd e (by omega))
            have hP : va_P G.1 pCl (mW G h0 a (upd (upd (upd (upd (upd (upd (upd (upd (upd F 15 (nI fa178)) 16 pl179) 44 (nI fd)) 49 (nI md)) 73 (nI sc)) 74 (nI k9)) 77 dn17) 78 wt18) 79 wf19) (updA (updA (updA (updA (updA B 14 nc) 17 ty20) 18 (upd mn21 n9 (nI f168))) 48 vn) 49 vt)) _ := hP
            have hD : va_D A (mW G h0 a (upd (upd (upd (upd (upd (upd (upd (upd (upd F 15 (nI fa178)) 16 pl179) 44 (nI fd)) 49 (nI md)) 73 (nI sc)) 74 (nI k9)) 77 dn17) 78 wt18) 79 wf19) (updA (updA (updA (updA (updA B 14 nc) 17 ty20) 18 (upd mn21 n9 (nI f168))) 48 vn) 49 vt)) := mW_D hD
            exact W.iret (v := 1) hx hb hr (fun t9 ht9 hW9 => ⟨⟨_, (1, fa178, pl179, dn17, wt18, wf19, ty20, (upd mn21 n9 (nI f168))), rfl, ⟨rfl, hz189, hz190, hz191, hz192, hz193, hz194, hz195⟩, by rw [ht9]; exact hP, hD⟩, hS.F ht9⟩) hS.2.2 dX12_fielded_130
          · have n196 : ¬ (r177 = 0) := fun h9 => c187 ((nI_eq (a := r177) (b := 0) (by omega) (by omega)).mpr h9)
            refine lv_aload_n hx hb dX12_fielded_115 rfl (lv_at hl 2 rfl) ?_
            refine r_get (v := .ref (a 21)) hx hb hown hq hE hP 30 75 tFX12_30 (by decide) pw_1452 rfl dX12_fielded_116 ?_
            refine lv_aload_n hx hb dX12_fielded_119 rfl (lv_at hl 2 rfl) ?_
            refine r_get (v := .ref (a 35)) hx hb hown hq hE hP 48 117 tFX12_48 (by decide) pw_1466 rfl dX12_fielded_120 ?_
            refine lv_iload_n hx hb dX12_fielded_123 rfl (lv_at hl 0 rfl) ?_
            refine r_ldi (f := (B 35)) (j := f168) hx hb hE hP 35 (ma_35 G a _) rfl (by omega) (by decide) dX12_fielded_124 ?_
            obtain ⟨-, -, y197, e198, h199⟩ := hPS.2.1 f168 (by omega)
            refine lv_topi (fun x200 e201 => ?_)
            obtain rfl : x200 = nI y197 := e201.trans e198
            refine r_ldi (f := (B 21)) (j := y197) hx hb hE hP 21 (ma_21 G a _) rfl (by omega) (by decide) dX12_fielded_125 ?_
            obtain ⟨x202, e203, h204, h205, h206, h207⟩ := tyOK.tc (hTY y197 (by omega)) (by omega)
            refine lv_topi (fun x208 e209 => ?_)
            obtain rfl : x208 = nI x202 := e209.trans e203
            refine lv_goto (tgt := 130) hx hb dX12_fielded_126 (by decide) ?_
            have hz210 : fa ≤ fa178 := (by omega)
            have hz211 : fa178 ≤ 15 := (by omega)
            have hz212 : TyC dc x202 := h204
            have hz213 : x202 ≤ 2050 := (by omega)
            have hz214 : ChE B nd n9 ty ty20 mn (upd mn21 n9 (nI f168)) := hch140
            have hz215 : mnN B nd (upd mn21 n9 (nI f168)) := hmn141
            have hz216 : If (fa178 = 0) (Typ0 B dc fd md nd ty20 (upd mn21 n9 (nI f168)) vt sc k9 n9 (nI x202)) := (fun e => Typ0.of (kids (kk := 12) (c1 := c1) (c2 := c1) (c3 := c1) hkd (by decide) ⟨by omega, by omega, by omega⟩ (Or.inr ⟨by decide, e2⟩) (Or.inl (by decide)) (Or.inl (by decide)) (by decide) (hy142 (by omega)) (hy142 (by omega)) (hy142 (by omega))) (LT12 hkd hh7 (h29.trans (by rw [show 10 + (r14 - 10) = r14 by omega])) (by omega) c80 upd_eq h170 h171 (ftF_eq e198 e203 (by omega))))
            have hP : va_P G.1 pCl (mW G h0 a (upd (upd (upd (upd (upd (upd (upd (upd (upd F 15 (nI fa178)) 16 pl179) 44 (nI fd)) 49 (nI md)) 73 (nI sc)) 74 (nI k9)) 77 dn17) 78 wt18) 79 wf19) (updA (updA (updA (updA (updA B 14 nc) 17 ty20) 18 (upd mn21 n9 (nI f168))) 48 vn) 49 vt)) _ := hP
            have hD : va_D A (mW G h0 a (upd (upd (upd (upd (upd (upd (upd (upd (upd F 15 (nI fa178)) 16 pl179) 44 (nI fd)) 49 (nI md)) 73 (nI sc)) 74 (nI k9)) 77 dn17) 78 wt18) 79 wf19) (updA (updA (updA (updA (updA B 14 nc) 17 ty20) 18 (upd mn21 n9 (nI f168))) 48 vn) 49 vt)) := mW_D hD
            exact W.iret (v := (nI x202)) hx hb hr (fun t9 ht9 hW9 => ⟨⟨_, (x202, fa178, pl179, dn17, wt18, wf19, ty20, (upd mn21 n9 (nI f168))), rfl, ⟨rfl, hz210, hz211, hz212, hz213, hz214, hz215, hz216⟩, by rw [ht9]; exact hP, hD⟩, hS.F ht9⟩) hS.2.2 dX12_fielded_130
      · have n217 : r116 = 0 := (nI_eq (a := r116) (b := 0) (by omega) (by omega)).mp c126
        refine lv_iconst (v := 1) hx hb dX12_fielded_61 (by decide) ?_
        have hz218 : fa ≤ fa117 := (by omega)
        have hz219 : fa117 ≤ 15 := (by omega)
        have hz220 : TyC dc 1 := (by unfold TyC; omega)
        have hz221 : 1 ≤ 2050 := (by omega)
        have hz222 : ChE B nd n9 ty ty20 mn mn21 := hch30
        have hz223 : mnN B nd mn21 := h27
        have hz224 : If (fa117 = 0) (Typ0 B dc fd md nd ty20 mn21 vt sc k9 n9 (nI 1)) := (fun e => absurd e (by omega))
        have hP : va_P G.1 pCl (mW G h0 a (upd (upd (upd (upd (upd (upd (upd (upd (upd F 15 (nI fa117)) 16 pl118) 44 (nI fd)) 49 (nI md)) 73 (nI sc)) 74 (nI k9)) 77 dn17) 78 wt18) 79 wf19) (updA (updA (updA (updA (updA B 14 nc) 17 ty20) 18 mn21) 48 vn) 49 vt)) _ := hP
        have hD : va_D A (mW G h0 a (upd (upd (upd (upd (upd (upd (upd (upd (upd F 15 (nI fa117)) 16 pl118) 44 (nI fd)) 49 (nI md)) 73 (nI sc)) 74 (nI k9)) 77 dn17) 78 wt18) 79 wf19) (updA (updA (updA (updA (updA B 14 nc) 17 ty20) 18 mn21) 48 vn) 49 vt)) := mW_D hD
        exact W.iret (v := 1) hx hb hr (fun t9 ht9 hW9 => ⟨⟨_, (1, fa117, pl118, dn17, wt18, wf19, ty20, mn21), rfl, ⟨rfl, hz218, hz219, hz220, hz221, hz222, hz223, hz224⟩, by rw [ht9]; exact hP, hD⟩, hS.F ht9⟩) hS.2.2 dX12_fielded_62

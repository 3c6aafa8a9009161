theorem ftF_eq {X : Nat → Nat → Int32} {f y x : Nat} (e : X 35 f = nI y) (g : X 21 y = nI x) (hy : y < 2 ^ 31) : nI x = ftF X f := by
  unfold ftF; rw [e, nI_cl hy, g]
theorem FldQ.ow {X : Nat → Nat → Int32} {dc fd k : Nat} {x r : Int32} (h : FldQ X dc fd k x r) (e : ¬ r = -1) : ∃ f : Nat, r = nI f ∧ f < fd ∧ FldO X dc k f := by
  obtain ⟨f, a, b, _, d⟩ := h.resolve_left e
  exact ⟨f, a, b, d⟩
theorem dX12_named_0 : decode cX12_named 0 = .ok (.aload_n 0, 1) := by decide +kernel
theorem dX12_named_1 : decode cX12_named 1 = .ok (.aload_n 0, 1) := by decide +kernel
theorem dX12_named_2 : decode cX12_named 2 = .ok (.getfield 25, 3) := by decide +kernel
theorem dX12_named_5 : decode cX12_named 5 = .ok (.aload_n 0, 1) := by decide +kernel
theorem dX12_named_6 : decode cX12_named 6 = .ok (.getfield 44, 3) := by decide +kernel
theorem dX12_named_9 : decode cX12_named 9 = .ok (.iload_n 1, 1) := by decide +kernel
theorem dX12_named_10 : decode cX12_named 10 = .ok (.iaload, 1) := by decide +kernel
theorem dX12_named_11 : decode cX12_named 11 = .ok (.iaload, 1) := by decide +kernel
theorem dX12_named_12 : decode cX12_named 12 = .ok (.invokevirtual 594, 3) := by decide +kernel
theorem dX12_named_15 : decode cX12_named 15 = .ok (.istore_n 3, 1) := by decide +kernel
theorem dX12_named_16 : decode cX12_named 16 = .ok (.iload_n 3, 1) := by decide +kernel
theorem dX12_named_17 : decode cX12_named 17 = .ok (.iconst (-1), 1) := by decide +kernel
theorem dX12_named_18 : decode cX12_named 18 = .ok (.if_icmp .eq 51, 3) := by decide +kernel
theorem dX12_named_69 : decode cX12_named 69 = .ok (.aload_n 0, 1) := by decide +kernel
theorem dX12_named_70 : decode cX12_named 70 = .ok (.aload_n 0, 1) := by decide +kernel
theorem dX12_named_71 : decode cX12_named 71 = .ok (.getfield 563, 3) := by decide +kernel
theorem dX12_named_74 : decode cX12_named 74 = .ok (.aload_n 0, 1) := by decide +kernel
theorem dX12_named_75 : decode cX12_named 75 = .ok (.getfield 25, 3) := by decide +kernel
theorem dX12_named_78 : decode cX12_named 78 = .ok (.aload_n 0, 1) := by decide +kernel
theorem dX12_named_79 : decode cX12_named 79 = .ok (.getfield 44, 3) := by decide +kernel
theorem dX12_named_82 : decode cX12_named 82 = .ok (.iload_n 1, 1) := by decide +kernel
theorem dX12_named_83 : decode cX12_named 83 = .ok (.iaload, 1) := by decide +kernel
theorem dX12_named_84 : decode cX12_named 84 = .ok (.iaload, 1) := by decide +kernel
theorem dX12_named_85 : decode cX12_named 85 = .ok (.invokevirtual 597, 3) := by decide +kernel
theorem dX12_named_88 : decode cX12_named 88 = .ok (.istore 4, 2) := by decide +kernel
theorem dX12_named_90 : decode cX12_named 90 = .ok (.aload_n 0, 1) := by decide +kernel
theorem dX12_named_91 : decode cX12_named 91 = .ok (.getfield 65, 3) := by decide +kernel
theorem dX12_named_94 : decode cX12_named 94 = .ok (.iload_n 1, 1) := by decide +kernel
theorem dX12_named_95 : decode cX12_named 95 = .ok (.bipush (-2), 2) := by decide +kernel
theorem dX12_named_97 : decode cX12_named 97 = .ok (.iload 4, 2) := by decide +kernel
theorem dX12_named_99 : decode cX12_named 99 = .ok (.isub, 1) := by decide +kernel
theorem dX12_named_100 : decode cX12_named 100 = .ok (.iastore, 1) := by decide +kernel
theorem dX12_named_101 : decode cX12_named 101 = .ok (.aload_n 0, 1) := by decide +kernel
theorem dX12_named_102 : decode cX12_named 102 = .ok (.iload 4, 2) := by decide +kernel
theorem dX12_named_104 : decode cX12_named 104 = .ok (.iconst (-1), 1) := by decide +kernel
theorem dX12_named_105 : decode cX12_named 105 = .ok (.if_icmp .eq 7, 3) := by decide +kernel
theorem dX12_named_112 : decode cX12_named 112 = .ok (.iconst 0, 1) := by decide +kernel
theorem dX12_named_113 : decode cX12_named 113 = .ok (.bipush 10, 2) := by decide +kernel
theorem dX12_named_115 : decode cX12_named 115 = .ok (.aload_n 0, 1) := by decide +kernel
theorem dX12_named_116 : decode cX12_named 116 = .ok (.getfield 44, 3) := by decide +kernel
theorem dX12_named_119 : decode cX12_named 119 = .ok (.iload_n 1, 1) := by decide +kernel
theorem dX12_named_120 : decode cX12_named 120 = .ok (.iaload, 1) := by decide +kernel
theorem dX12_named_121 : decode cX12_named 121 = .ok (.invokevirtual 540, 3) := by decide +kernel
theorem dX12_named_124 : decode cX12_named 124 = .ok (.ifCond .eq 18, 3) := by decide +kernel
theorem dX12_named_142 : decode cX12_named 142 = .ok (.iconst 1, 1) := by decide +kernel
theorem dX12_named_143 : decode cX12_named 143 = .ok (.ireturn, 1) := by decide +kernel
theorem dX12_named_108 : decode cX12_named 108 = .ok (.iconst 1, 1) := by decide +kernel
theorem dX12_named_109 : decode cX12_named 109 = .ok (.goto 4, 3) := by decide +kernel
theorem dX12_named_127 : decode cX12_named 127 = .ok (.aload_n 0, 1) := by decide +kernel
theorem dX12_named_128 : decode cX12_named 128 = .ok (.getfield 75, 3) := by decide +kernel
theorem dX12_named_131 : decode cX12_named 131 = .ok (.aload_n 0, 1) := by decide +kernel
theorem dX12_named_132 : decode cX12_named 132 = .ok (.getfield 117, 3) := by decide +kernel
theorem dX12_named_135 : decode cX12_named 135 = .ok (.iload 4, 2) := by decide +kernel
theorem dX12_named_137 : decode cX12_named 137 = .ok (.iaload, 1) := by decide +kernel
theorem dX12_named_138 : decode cX12_named 138 = .ok (.iaload, 1) := by decide +kernel
theorem dX12_named_139 : decode cX12_named 139 = .ok (.goto 4, 3) := by decide +kernel
theorem dX12_named_21 : decode cX12_named 21 = .ok (.aload_n 0, 1) := by decide +kernel
theorem dX12_named_22 : decode cX12_named 22 = .ok (.getfield 65, 3) := by decide +kernel
theorem dX12_named_25 : decode cX12_named 25 = .ok (.iload_n 1, 1) := by decide +kernel
theorem dX12_named_26 : decode cX12_named 26 = .ok (.iload_n 3, 1) := by decide +kernel
theorem dX12_named_27 : decode cX12_named 27 = .ok (.iastore, 1) := by decide +kernel
theorem dX12_named_28 : decode cX12_named 28 = .ok (.iload_n 2, 1) := by decide +kernel
theorem dX12_named_29 : decode cX12_named 29 = .ok (.ifCond .eq 33, 3) := by decide +kernel
theorem dX12_named_62 : decode cX12_named 62 = .ok (.aload_n 0, 1) := by decide +kernel
theorem dX12_named_63 : decode cX12_named 63 = .ok (.getfield 159, 3) := by decide +kernel
theorem dX12_named_66 : decode cX12_named 66 = .ok (.iload_n 3, 1) := by decide +kernel
theorem dX12_named_67 : decode cX12_named 67 = .ok (.iaload, 1) := by decide +kernel
theorem dX12_named_68 : decode cX12_named 68 = .ok (.ireturn, 1) := by decide +kernel
theorem dX12_named_32 : decode cX12_named 32 = .ok (.aload_n 0, 1) := by decide +kernel
theorem dX12_named_33 : decode cX12_named 33 = .ok (.aload_n 0, 1) := by decide +kernel
theorem dX12_named_34 : decode cX12_named 34 = .ok (.getfield 544, 3) := by decide +kernel
theorem dX12_named_37 : decode cX12_named 37 = .ok (.iload_n 3, 1) := by decide +kernel
theorem dX12_named_38 : decode cX12_named 38 = .ok (.ishr, 1) := by decide +kernel
theorem dX12_named_39 : decode cX12_named 39 = .ok (.iconst 1, 1) := by decide +kernel
theorem dX12_named_40 : decode cX12_named 40 = .ok (.iand, 1) := by decide +kernel
theorem dX12_named_41 : decode cX12_named 41 = .ok (.iconst 1, 1) := by decide +kernel
theorem dX12_named_42 : decode cX12_named 42 = .ok (.if_icmp .ne 7, 3) := by decide +kernel
theorem dX12_named_49 : decode cX12_named 49 = .ok (.iconst 0, 1) := by decide +kernel
theorem dX12_named_50 : decode cX12_named 50 = .ok (.bipush 13, 2) := by decide +kernel
theorem dX12_named_52 : decode cX12_named 52 = .ok (.aload_n 0, 1) := by decide +kernel
theorem dX12_named_53 : decode cX12_named 53 = .ok (.getfield 44, 3) := by decide +kernel
theorem dX12_named_56 : decode cX12_named 56 = .ok (.iload_n 1, 1) := by decide +kernel
theorem dX12_named_57 : decode cX12_named 57 = .ok (.iaload, 1) := by decide +kernel
theorem dX12_named_58 : decode cX12_named 58 = .ok (.invokevirtual 540, 3) := by decide +kernel
theorem dX12_named_61 : decode cX12_named 61 = .ok (.pop, 1) := by decide +kernel
theorem dX12_named_45 : decode cX12_named 45 = .ok (.iconst 1, 1) := by decide +kernel
theorem dX12_named_46 : decode cX12_named 46 = .ok (.goto 4, 3) := by decide +kernel
theorem hV_X12_variableOf : yX12_variableOf.cls = RX12 ∧ yX12_variableOf.cls ≠ "java/lang/invoke/MethodHandle" ∧ yX12_variableOf.cls ≠ "java/lang/invoke/VarHandle" ∧ (parseMethodDescriptor yX12_variableOf.desc).map (fun d => d.parameters.length) = some 1 := by decide +kernel
theorem hV_X12_fieldOf : yX12_fieldOf.cls = RX12 ∧ yX12_fieldOf.cls ≠ "java/lang/invoke/MethodHandle" ∧ yX12_fieldOf.cls ≠ "java/lang/invoke/VarHandle" ∧ (parseMethodDescriptor yX12_fieldOf.desc).map (fun d => d.parameters.length) = some 2 := by decide +kernel
set_option maxHeartbeats 6000000 in
set_option maxRecDepth 100000 in
/-- named(n, isUsed) -/
theorem L_named (l : Launch) (G : pT) (h0 : Nat) (a : Nat → Nat) (F : Nat → Int32) (B : Nat → Nat → Int32) (n9 : Nat) (z9 : Nat) (fa : Nat) (sc : Nat) (k9 : Nat) (nd : Nat) (T : Nat) (nm : Nat) (wr : Nat) (lz : Nat) (dc : Nat) (fd : Nat) (md : Nat) (pr : Nat) (bk : Nat) (gh : Nat → Nat → Nat) (dn : Int32) (wt : Int32) (wf : Int32) (nc : Nat → Int32) (ty : Nat → Int32) (mn : Nat → Int32) (vn : Nat → Int32) (vt : Nat → Int32) (us : Nat) (hst : St B gh nd T nm wr lz dc fd md pr bk) (hnm : nd ≤ 12000 ∧ T ≤ 5000 ∧ wr ≤ 5000 ∧ 7 ≤ dc ∧ dc ≤ 37 ∧ fd ≤ 620 ∧ md ≤ 920 ∧ pr ≤ 5000) (hn9 : n9 < nd) (hz : gh 1 n9 < z9) (hfa : fa ≤ 15) (hsc : sc ≤ 30) (hk9 : 7 ≤ k9 ∧ k9 < dc) (hnc : ∀ i : Nat, i < nd → ¬ B 9 i = 44 → nc i = B 14 i) (hmn : mnN B nd mn) (hvt : ∀ i : Nat, i < sc → tyOK dc (vt i)) (hkd : B 9 n9 = nI 6) (hus : us ≤ 1) : PM l G pX0 yX12_named cX12_named 5 (some .int) ({ frames := (4 * z9 + 9), cells := 0, slots := 0, locals := (160 * z9 + 1360) }) [.ref h0, .int (nI n9), .int (nI us)] (mW G h0 a (upd (upd (upd (upd (upd (upd (upd (upd F 15 (nI fa)) 44 (nI fd)) 49 (nI md)) 73 (nI sc)) 74 (nI k9)) 77 dn) 78 wt) 79 wf) (updA (updA (updA (updA (updA B 14 nc) 17 ty) 18 mn) 48 vn) 49 vt)) (fun (v : Option Value) (u : Nat × Nat × Int32 × Int32 × Int32 × Int32 × (Nat → Int32) × (Nat → Int32)) => v = some (.int (nI u.1)) ∧ (fa ≤ u.2.1) ∧ (u.2.1 ≤ 15) ∧ (TyC dc u.1) ∧ (u.1 ≤ 2050) ∧ (ChE B nd n9 ty u.2.2.2.2.2.2.1 mn u.2.2.2.2.2.2.2) ∧ (mnN B nd u.2.2.2.2.2.2.2) ∧ (If (u.2.1 = 0) (LTE B dc fd md nd u.2.2.2.2.2.2.1 u.2.2.2.2.2.2.2 vt sc k9 n9 (nI u.1) ∧ u.2.2.2.2.2.2.1 = ty))) (fun u => (mW G h0 a (upd (upd (upd (upd (upd (upd (upd (upd (upd F 15 (nI u.2.1)) 16 u.2.2.1) 44 (nI fd)) 49 (nI md)) 73 (nI sc)) 74 (nI k9)) 77 u.2.2.2.1) 78 u.2.2.2.2.1) 79 u.2.2.2.2.2.1) (updA (updA (updA (updA (updA B 14 nc) 17 u.2.2.2.2.2.2.1) 18 u.2.2.2.2.2.2.2) 48 vn) 49 vt))) := by
  intro sz
  refine Met.ofW (cc := cX12_named) (maxL := 5) (ret := (some .int)) (by decide) rfl ?_
  intro p e s m args below meth c s₁ B9 hml hv
  obtain ⟨rfl, hsz, hP, hD0, hE, hX⟩ := hv
  have hx := B9.exec
  have hb := B9.bytes
  have hr := B9.returns
  have hts := atoms_spec (ws := Cond.code yX12_named cX12_named 5 (some .int) :: pw) B9.pre
  have hq : ∀ w ∈ pw, w.before _ s = true := fun w h => hts w (List.mem_cons_of_mem _ h)
  have hown : s.vm.findClass RX12 = some m.cls := findClass_of_methodNamed B9.named
  have hlocks := B9.notSynchronized
  subst hsz
  have hD := hD0.self (sz := s.heap.size)
  have hA : ∀ q : Nat, s.heap.size ≤ q → va_A (mW G h0 a (upd (upd (upd (upd (upd (upd (upd (upd F 15 (nI fa)) 44 (nI fd)) 49 (nI md)) 73 (nI sc)) 74 (nI k9)) 77 dn) 78 wt) 79 wf) (updA (updA (updA (updA (updA B 14 nc) 17 ty) 18 mn) 48 vn) 49 vt)) s.heap.size q := fun q h => Or.inr h
  have hP : va_P G.1 pCl (mW G h0 a (upd (upd (upd (upd (upd (upd (upd (upd F 15 (nI fa)) 44 (nI fd)) 49 (nI md)) 73 (nI sc)) 74 (nI k9)) 77 dn) 78 wt) 79 wf) (updA (updA (updA (updA (updA B 14 nc) 17 ty) 18 mn) 48 vn) 49 vt)) s.heap := hP
  generalize va_A (mW G h0 a (upd (upd (upd (upd (upd (upd (upd (upd F 15 (nI fa)) 44 (nI fd)) 49 (nI md)) 73 (nI sc)) 74 (nI k9)) 77 dn) 78 wt) 79 wf) (updA (updA (updA (updA (updA B 14 nc) 17 ty) 18 mn) 48 vn) 49 vt)) s.heap.size = A at hD hE hA ⊢
  have hS : va_S A s.heap s.heap [] := va_S.rf
  have hl := lv_entry ([.ref h0, .int (nI n9), .int (nI us)]) (n := 5) (Nat.le_of_ble_eq_true rfl)
  rw [lg_entry_eq]
  generalize (lg_sl ([.ref h0, .int (nI n9), .int (nI us)]) ++ List.replicate (5 - (lg_sl ([.ref h0, .int (nI n9), .int (nI us)])).length) Slot.unset).toArray = ls at hl ⊢
  have hl : lv_has ls 5 [(0, .ref h0), (1, .int (nI n9)), (2, .int (nI us))] := hl
  have hF := hst.1
  have hPS := hst.2.1
  have hBI := hst.2.2.1
  have hRK := hst.2.2.2.1
  have hTY := hst.2.2.2.2.1
  have hNW := hst.2.2.2.2.2.1
  have hTK := hst.2.2.2.2.2.2
  refine lv_aload_n hx hb dX12_named_0 rfl (lv_at hl 0 rfl) ?_
  refine lv_aload_n hx hb dX12_named_1 rfl (lv_at hl 0 rfl) ?_
  refine r_get (v := .ref (a 5)) hx hb hown hq hE hP 8 25 tFX12_8 (by decide) pw_1435 rfl dX12_named_2 ?_
  refine lv_aload_n hx hb dX12_named_5 rfl (lv_at hl 0 rfl) ?_
  refine r_get (v := .ref (a 11)) hx hb hown hq hE hP 19 44 tFX12_19 (by decide) pw_1441 rfl dX12_named_6 ?_
  refine lv_iload_n hx hb dX12_named_9 rfl (lv_at hl 1 rfl) ?_
  refine r_ldi (f := (B 11)) (j := n9) hx hb hE hP 11 (ma_11 G a _) rfl (by omega) (by decide) dX12_named_10 ?_
  obtain ⟨-, ⟨t1, e2, h3, -⟩, -⟩ := hF n9 hn9
  refine lv_topi (fun x4 e5 => ?_)
  obtain rfl : x4 = nI t1 := e5.trans e2
  refine r_ldi (f := (B 5)) (j := t1) hx hb hE hP 5 (ma_5 G a _) rfl (by omega) (by decide) dX12_named_11 ?_
  have hP : va_P G.1 pCl (mW G h0 a (upd (upd (upd (upd (upd (upd (upd (upd (upd F 15 (nI fa)) 44 (nI fd)) 49 (nI md)) 73 (nI sc)) 74 (nI k9)) 77 dn) 78 wt) 79 wf) 73 (nI sc)) (updA (updA (updA (updA (updA (updA B 14 nc) 17 ty) 18 mn) 48 vn) 49 vt) 48 vn)) _ := mW_to (F := F) (l1 := [(15, (nI fa)), (44, (nI fd)), (49, (nI md)), (73, (nI sc)), (74, (nI k9)), (77, dn), (78, wt), (79, wf)]) (l2 := [(15, (nI fa)), (44, (nI fd)), (49, (nI md)), (73, (nI sc)), (74, (nI k9)), (77, dn), (78, wt), (79, wf), (73, (nI sc))]) (V := [(nI fa), (nI fd), (nI md), (nI sc), (nI k9), dn, wt, wf, (nI fa), (nI fd), (nI md), (nI sc), (nI k9), dn, wt, wf, (nI sc)]) rfl rfl (show (updA (updA (updA (updA (updA B 14 nc) 17 ty) 18 mn) 48 vn) 49 vt) = (updA (updA (updA (updA (updA (updA B 14 nc) 17 ty) 18 mn) 48 vn) 49 vt) 48 vn) from updsA_eq2 (F := B) (l1 := [(14, nc), (17, ty), (18, mn), (48, vn), (49, vt)]) (l2 := [(14, nc), (17, ty), (18, mn), (48, vn), (49, vt), (48, vn)]) (V := [nc, ty, mn, vn, vt, nc, ty, mn, vn, vt, vn]) rfl rfl) hP
  have hD : va_D A (mW G h0 a (upd (upd (upd (upd (upd (upd (upd (upd (upd F 15 (nI fa)) 44 (nI fd)) 49 (nI md)) 73 (nI sc)) 74 (nI k9)) 77 dn) 78 wt) 79 wf) 73 (nI sc)) (updA (updA (updA (updA (updA (updA B 14 nc) 17 ty) 18 mn) 48 vn) 49 vt) 48 vn)) := mW_D hD
  refine pc_V0 (G := G) (As := [.int ((B 5) t1)]) (rest := []) hx hb hml hown hq hE hX pX0_al hP hD hS hA hl.1 (R_variableOf l G h0 a (upd (upd (upd (upd (upd (upd (upd (upd F 15 (nI fa)) 44 (nI fd)) 49 (nI md)) 73 (nI sc)) 74 (nI k9)) 77 dn) 78 wt) 79 wf) (updA (updA (updA (updA (updA B 14 nc) 17 ty) 18 mn) 48 vn) 49 vt) ((B 5) t1) sc vn (by omega)) (gV pw_1808 pw_1809 pw_1810 pw_1523 pw_1801) hV_X12_variableOf 0 9 rfl rfl rfl rfl (Nat.le_of_ble_eq_true rfl) dX12_named_12 ⟨Nat.le_of_ble_eq_true rfl, Nat.le_of_ble_eq_true rfl⟩ ⟨(by show 2 + 1 ≤ (4 * z9 + 9); omega), (by show 8 + (3 + 11) + 60 ≤ (160 * z9 + 1360); omega)⟩ (fun v8 u6 H locs hw7 hP hD hS => ?_)
  obtain rfl : v8 = some (.int (dOf vn ((B 5) t1) sc 0)) := hw7
  have hP : va_P G.1 pCl (mW G h0 a (upd (upd (upd (upd (upd (upd (upd (upd F 15 (nI fa)) 44 (nI fd)) 49 (nI md)) 73 (nI sc)) 74 (nI k9)) 77 dn) 78 wt) 79 wf) (updA (updA (updA (updA (updA B 14 nc) 17 ty) 18 mn) 48 vn) 49 vt)) _ := mW_to (F := F) (l1 := [(15, (nI fa)), (44, (nI fd)), (49, (nI md)), (73, (nI sc)), (74, (nI k9)), (77, dn), (78, wt), (79, wf), (73, (nI sc))]) (l2 := [(15, (nI fa)), (44, (nI fd)), (49, (nI md)), (73, (nI sc)), (74, (nI k9)), (77, dn), (78, wt), (79, wf)]) (V := [(nI fa), (nI fd), (nI md), (nI sc), (nI k9), dn, wt, wf, (nI sc), (nI fa), (nI fd), (nI md), (nI sc), (nI k9), dn, wt, wf]) rfl rfl (show (updA (updA (updA (updA (updA (updA B 14 nc) 17 ty) 18 mn) 48 vn) 49 vt) 48 vn) = (updA (updA (updA (updA (updA B 14 nc) 17 ty) 18 mn) 48 vn) 49 vt) from updsA_eq2 (F := B) (l1 := [(14, nc), (17, ty), (18, mn), (48, vn), (49, vt), (48, vn)]) (l2 := [(14, nc), (17, ty), (18, mn), (48, vn), (49, vt)]) (V := [nc, ty, mn, vn, vt, vn, nc, ty, mn, vn, vt]) rfl rfl) hP
  have hD : va_D A (mW G h0 a (upd (upd (upd (upd (upd (upd (upd (upd F 15 (nI fa)) 44 (nI fd)) 49 (nI md)) 73 (nI sc)) 74 (nI k9)) 77 dn) 78 wt) 79 wf) (updA (updA (updA (updA (updA B 14 nc) 17 ty) 18 mn) 48 vn) 49 vt)) := mW_D hD
  refine W.widen (k := 0) (n := 0) (Nat.le_of_ble_eq_true rfl) (Nat.le_of_ble_eq_true rfl) ?_
  refine W.eq (g2 := F0 m 15 ls [.int (dOf vn ((B 5) t1) sc 0)]) rfl ?_
  refine lv_istore_n (lv' := [(3, .int (dOf vn ((B 5) t1) sc 0)), (0, .ref h0), (1, .int (nI n9)), (2, .int (nI us))]) hx hb dX12_named_15 rfl hl (by decide) rfl (fun ls hl => ?_)
  refine lv_iload_n hx hb dX12_named_16 rfl (lv_at hl 0 rfl) ?_
  refine lv_iconst (v := (-1)) hx hb dX12_named_17 (by decide) ?_
  refine lv_icmp_eq (tgt := 69) hx hb dX12_named_18 (by decide) (fun c9 => ?_) (fun c9 => ?_)
  · refine lv_aload_n hx hb dX12_named_69 rfl (lv_at hl 1 rfl) ?_
    refine lv_aload_n hx hb dX12_named_70 rfl (lv_at hl 1 rfl) ?_
    refine r_get (v := .int (nI k9)) hx hb hown hq hE hP 74 563 tFX12_74 (by decide) pw_1807 rfl dX12_named_71 ?_
    refine lv_aload_n hx hb dX12_named_74 rfl (lv_at hl 1 rfl) ?_
    refine r_get (v := .ref (a 5)) hx hb hown hq hE hP 8 25 tFX12_8 (by decide) pw_1435 rfl dX12_named_75 ?_
    refine lv_aload_n hx hb dX12_named_78 rfl (lv_at hl 1 rfl) ?_
    refine r_get (v := .ref (a 11)) hx hb hown hq hE hP 19 44 tFX12_19 (by decide) pw_1441 rfl dX12_named_79 ?_
    refine lv_iload_n hx hb dX12_named_82 rfl (lv_at hl 2 rfl) ?_
    refine r_ldi (f := (B 11)) (j := n9) hx hb hE hP 11 (ma_11 G a _) rfl (by omega) (by decide) dX12_named_83 ?_
    refine lv_topi (fun x10 e11 => ?_)
    obtain rfl : x10 = nI t1 := e11.trans e2
    refine r_ldi (f := (B 5)) (j := t1) hx hb hE hP 5 (ma_5 G a _) rfl (by omega) (by decide) dX12_named_84 ?_
    have hP : va_P G.1 pCl (mW G h0 a (upd (upd (upd (upd (upd (upd (upd (upd (upd F 15 (nI fa)) 44 (nI fd)) 49 (nI md)) 73 (nI sc)) 74 (nI k9)) 77 dn) 78 wt) 79 wf) 44 (nI fd)) (updA (updA (updA (updA (updA B 14 nc) 17 ty) 18 mn) 48 vn) 49 vt)) _ := mW_to (F := F) (l1 := [(15, (nI fa)), (44, (nI fd)), (49, (nI md)), (73, (nI sc)), (74, (nI k9)), (77, dn), (78, wt), (79, wf)]) (l2 := [(15, (nI fa)), (44, (nI fd)), (49, (nI md)), (73, (nI sc)), (74, (nI k9)), (77, dn), (78, wt), (79, wf), (44, (nI fd))]) (V := [(nI fa), (nI fd), (nI md), (nI sc), (nI k9), dn, wt, wf, (nI fa), (nI fd), (nI md), (nI sc), (nI k9), dn, wt, wf, (nI fd)]) rfl rfl rfl hP
    have hD : va_D A (mW G h0 a (upd (upd (upd (upd (upd (upd (upd (upd (upd F 15 (nI fa)) 44 (nI fd)) 49 (nI md)) 73 (nI sc)) 74 (nI k9)) 77 dn) 78 wt) 79 wf) 44 (nI fd)) (updA (updA (updA (updA (updA B 14 nc) 17 ty) 18 mn) 48 vn) 49 vt)) := mW_D hD
    refine pc_V0 (G := G) (As := [.int (nI k9), .int ((B 5) t1)]) (rest := []) hx hb hml hown hq hE hX pX0_al hP hD hS hA hl.1 (R_fieldOf l G h0 a (upd (upd (upd (upd (upd (upd (upd (upd F 15 (nI fa)) 44 (nI fd)) 49 (nI md)) 73 (nI sc)) 74 (nI k9)) 77 dn) 78 wt) 79 wf) (updA (updA (updA (updA (updA B 14 nc) 17 ty) 18 mn) 48 vn) 49 vt) k9 dc fd ((B 5) t1) (by omega) (by omega) (by omega) hBI (fun f hf => by obtain ⟨⟨d, z1, z2, z3⟩, -⟩ := hPS.2.1 f hf; exact ⟨d, z1, z3⟩)) (gV pw_1811 pw_1812 pw_1813 pw_1523 pw_1802) hV_X12_fieldOf 0 9 rfl rfl rfl rfl (Nat.le_of_ble_eq_true rfl) dX12_named_85 ⟨Nat.le_of_ble_eq_true rfl, Nat.le_of_ble_eq_true rfl⟩ ⟨(by show 3 + 1 ≤ (4 * z9 + 9); omega), (by show 8 + (4 + 11) + 82 ≤ (160 * z9 + 1360); omega)⟩ (fun v14 u12 H locs hw13 hP hD hS => ?_)
    obtain ⟨r15, rfl⟩ : ∃ z, z = u12 := ⟨_, rfl⟩
    obtain ⟨hw13, h16⟩ := hw13
    replace h16 : FldQ (updA (updA (updA (updA (updA B 14 nc) 17 ty) 18 mn) 48 vn) 49 vt) dc fd k9 ((B 5) t1) r15 := h16
    obtain rfl : v14 = some (.int r15) := hw13
    have hP : va_P G.1 pCl (mW G h0 a (upd (upd (upd (upd (upd (upd (upd (upd F 15 (nI fa)) 44 (nI fd)) 49 (nI md)) 73 (nI sc)) 74 (nI k9)) 77 dn) 78 wt) 79 wf) (updA (updA (updA (updA (updA B 14 nc) 17 ty) 18 mn) 48 vn) 49 vt)) _ := mW_to (F := F) (l1 := [(15, (nI fa)), (44, (nI fd)), (49, (nI md)), (73, (nI sc)), (74, (nI k9)), (77, dn), (78, wt), (79, wf), (44, (nI fd))]) (l2 := [(15, (nI fa)), (44, (nI fd)), (49, (nI md)), (73, (nI sc)), (74, (nI k9)), (77, dn), (78, wt), (79, wf)]) (V := [(nI fa), (nI fd), (nI md), (nI sc), (nI k9), dn, wt, wf, (nI fd), (nI fa), (nI fd), (nI md), (nI sc), (nI k9), dn, wt, wf]) rfl rfl rfl hP
    have hD : va_D A (mW G h0 a (upd (upd (upd (upd (upd (upd (upd (upd F 15 (nI fa)) 44 (nI fd)) 49 (nI md)) 73 (nI sc)) 74 (nI k9)) 77 dn) 78 wt) 79 wf) (updA (updA (updA (updA (updA B 14 nc) 17 ty) 18 mn) 48 vn) 49 vt)) := mW_D hD
    refine W.widen (k := 0) (n := 0) (Nat.le_of_ble_eq_true rfl) (Nat.le_of_ble_eq_true rfl) ?_
    refine W.eq (g2 := F0 m 88 ls [.int r15]) rfl ?_
    refine lv_istore (lv' := [(4, .int r15), (3, .int (dOf vn ((B 5) t1) sc 0)), (0, .ref h0), (1, .int (nI n9)), (2, .int (nI us))]) hx hb dX12_named_88 hl (by decide) rfl (fun ls hl => ?_)
    refine lv_aload_n hx hb dX12_named_90 rfl (lv_at hl 2 rfl) ?_
    refine r_get (v := .ref (a 18)) hx hb hown hq hE hP 26 65 tFX12_26 (by decide) pw_1448 rfl dX12_named_91 ?_
    refine lv_iload_n hx hb dX12_named_94 rfl (lv_at hl 3 rfl) ?_
    refine lv_bipush (v := (-2)) hx hb dX12_named_95 (by decide) ?_
    refine lv_iload hx hb dX12_named_97 (lv_at hl 0 rfl) ?_
    refine lv_isub hx hb dX12_named_99 ?_
    refine lv_topi (fun x17 e18 => ?_)
    refine r_sti (f := mn) (j := n9) hx hb hE hP hD hS 18 (ma_18 G a _) rfl (mas_18 G a _) (by omega) (by decide) dX12_named_100 (fun H locs hP hD hS => ?_)
    have hch19 : ChE B nd n9 ty ty mn (upd mn n9 x17) := (ChE.trans ChE.rfl (ChE.setM sub.rfl))
    have hmn20 : mnN B nd (upd mn n9 x17) := (mnN.up hmn (by rw [hkd]; decide))
    refine lv_aload_n hx hb dX12_named_101 rfl (lv_at hl 2 rfl) ?_
    refine lv_iload hx hb dX12_named_102 (lv_at hl 0 rfl) ?_
    refine lv_iconst (v := (-1)) hx hb dX12_named_104 (by decide) ?_
    refine lv_icmp_eq (tgt := 112) hx hb dX12_named_105 (by decide) (fun c21 => ?_) (fun c21 => ?_)
    · refine lv_iconst (v := 0) hx hb dX12_named_112 (by decide) ?_
      refine lv_bipush (v := 10) hx hb dX12_named_113 (by decide) ?_
      refine lv_aload_n hx hb dX12_named_115 rfl (lv_at hl 2 rfl) ?_
      refine r_get (v := .ref (a 11)) hx hb hown hq hE hP 19 44 tFX12_19 (by decide) pw_1441 rfl dX12_named_116 ?_
      refine lv_iload_n hx hb dX12_named_119 rfl (lv_at hl 3 rfl) ?_
      refine r_ldi (f := (B 11)) (j := n9) hx hb hE hP 11 (ma_11 G a _) rfl (by omega) (by decide) dX12_named_120 ?_
      refine lv_topi (fun x22 e23 => ?_)
      obtain rfl : x22 = nI t1 := e23.trans e2
      have hP : va_P G.1 pCl (mW G h0 a (upd (upd (upd (upd (upd (upd (upd (upd (upd F 15 (nI fa)) 44 (nI fd)) 49 (nI md)) 73 (nI sc)) 74 (nI k9)) 77 dn) 78 wt) 79 wf) 15 (nI fa)) (updA (updA (updA (updA (updA B 14 nc) 17 ty) 18 (upd mn n9 x17)) 48 vn) 49 vt)) _ := mW_to (F := F) (l1 := [(15, (nI fa)), (44, (nI fd)), (49, (nI md)), (73, (nI sc)), (74, (nI k9)), (77, dn), (78, wt), (79, wf)]) (l2 := [(15, (nI fa)), (44, (nI fd)), (49, (nI md)), (73, (nI sc)), (74, (nI k9)), (77, dn), (78, wt), (79, wf), (15, (nI fa))]) (V := [(nI fa), (nI fd), (nI md), (nI sc), (nI k9), dn, wt, wf, (nI fa), (nI fd), (nI md), (nI sc), (nI k9), dn, wt, wf, (nI fa)]) rfl rfl (show (updA (updA (updA (updA (updA (updA B 14 nc) 17 ty) 18 mn) 48 vn) 49 vt) 18 (upd mn n9 x17)) = (updA (updA (updA (updA (updA B 14 nc) 17 ty) 18 (upd mn n9 x17)) 48 vn) 49 vt) from updsA_eq2 (F := B) (l1 := [(14, nc), (17, ty), (18, mn), (48, vn), (49, vt), (18, (upd mn n9 x17))]) (l2 := [(14, nc), (17, ty), (18, (upd mn n9 x17)), (48, vn), (49, vt)]) (V := [nc, ty, (upd mn n9 x17), vn, vt, (upd mn n9 x17), nc, ty, (upd mn n9 x17), vn, vt]) rfl rfl) hP
      have hD : va_D A (mW G h0 a (upd (upd (upd (upd (upd (upd (upd (upd (upd F 15 (nI fa)) 44 (nI fd)) 49 (nI md)) 73 (nI sc)) 74 (nI k9)) 77 dn) 78 wt) 79 wf) 15 (nI fa)) (updA (updA (updA (updA (updA B 14 nc) 17 ty) 18 (upd mn n9 x17)) 48 vn) 49 vt)) := mW_D hD
      refine pc_V0 (G := G) (As := [.int (nI 0), .int (nI 10), .int (nI t1)]) (rest := []) hx hb hml hown hq hE hX pX0_al hP hD hS hA hl.1 (R_judgeL l G h0 a (upd (upd (upd (upd (upd (upd (upd (upd F 15 (nI fa)) 44 (nI fd)) 49 (nI md)) 73 (nI sc)) 74 (nI k9)) 77 dn) 78 wt) 79 wf) (updA (updA (updA (updA (updA B 14 nc) 17 ty) 18 (upd mn n9 x17)) 48 vn) 49 vt) 0 10 t1 fa (by omega) (by omega) (by omega) (by omega)) (gV pw_1798 pw_1799 pw_1800 pw_1523 pw_1793) hV_X12_judge 0 9 rfl rfl rfl rfl (Nat.le_of_ble_eq_true rfl) dX12_named_121 ⟨Nat.le_of_ble_eq_true rfl, Nat.le_of_ble_eq_true rfl⟩ ⟨(by show 3 + 1 ≤ (4 * z9 + 9); omega), (by show 8 + (4 + 11) + 82 ≤ (160 * z9 + 1360); omega)⟩ (fun v26 u24 H locs hw25 hP hD hS => ?_)
      obtain ⟨r27, fa28, pl29⟩ := u24
      obtain ⟨hw25, h30, h31, h32, h33, h34, h35, h36⟩ := hw25
      replace h30 : r27 ≤ 1 := h30
      replace h31 : fa ≤ fa28 := h31
      replace h32 : fa28 ≤ 15 := h32
      replace h33 : fa28 + 15 * r27 ≤ 15 := h33
      replace h34 : 1 ≤ r27 + fa28 := h34
      replace h35 : 1 ≤ 0 + fa28 := h35
      replace h36 : fa28 ≤ fa + 15 * (1 - 0) := h36
      obtain rfl : v26 = some (.int (nI r27)) := hw25
      have hP : va_P G.1 pCl (mW G h0 a (upd (upd (upd (upd (upd (upd (upd (upd (upd F 15 (nI fa28)) 16 pl29) 44 (nI fd)) 49 (nI md)) 73 (nI sc)) 74 (nI k9)) 77 dn) 78 wt) 79 wf) (updA (updA (updA (updA (updA B 14 nc) 17 ty) 18 (upd mn n9 x17)) 48 vn) 49 vt)) _ := mW_to (F := F) (l1 := [(15, (nI fa)), (44, (nI fd)), (49, (nI md)), (73, (nI sc)), (74, (nI k9)), (77, dn), (78, wt), (79, wf), (15, (nI fa28)), (16, pl29)]) (l2 := [(15, (nI fa28)), (16, pl29), (44, (nI fd)), (49, (nI md)), (73, (nI sc)), (74, (nI k9)), (77, dn), (78, wt), (79, wf)]) (V := [(nI fa28), (nI fd), (nI md), (nI sc), (nI k9), dn, wt, wf, (nI fa28), pl29, (nI fa28), pl29, (nI fd), (nI md), (nI sc), (nI k9), dn, wt, wf]) rfl rfl rfl hP
      have hD : va_D A (mW G h0 a (upd (upd (upd (upd (upd (upd (upd (upd (upd F 15 (nI fa28)) 16 pl29) 44 (nI fd)) 49 (nI md)) 73 (nI sc)) 74 (nI k9)) 77 dn) 78 wt) 79 wf) (updA (updA (updA (updA (updA B 14 nc) 17 ty) 18 (upd mn n9 x17)) 48 vn) 49 vt)) := mW_D hD
      refine W.widen (k := 0) (n := 0) (Nat.le_of_ble_eq_true rfl) (Nat.le_of_ble_eq_true rfl) ?_
      refine W.eq (g2 := F0 m 124 ls [.int (nI r27)]) rfl ?_
      refine lv_if_eq (tgt := 142) hx hb dX12_named_124 (by decide) (fun c37 => ?_) (fun c37 => (by have n38 : ¬ (r27 = 0) := fun h9 => c37 ((nI_eq (a := r27) (b := 0) (by omega) (by omega)).mpr h9); omega))
      refine lv_iconst (v := 1) hx hb dX12_named_142 (by decide) ?_
      have hz39 : fa ≤ fa28 := (by omega)
      have hz40 : fa28 ≤ 15 := (by omega)
      have hz41 : TyC dc 1 := (by unfold TyC; omega)
      have hz42 : 1 ≤ 2050 := (by omega)
      have hz43 : ChE B nd n9 ty ty mn (upd mn n9 x17) := hch19
      have hz44 : mnN B nd (upd mn n9 x17) := hmn20
      have hz45 : If (fa28 = 0) (LTE B dc fd md nd ty (upd mn n9 x17) vt sc k9 n9 (nI 1) ∧ ty = ty) := (fun e => absurd e (by omega))
      have hP : va_P G.1 pCl (mW G h0 a (upd (upd (upd (upd (upd (upd (upd (upd (upd F 15 (nI fa28)) 16 pl29) 44 (nI fd)) 49 (nI md)) 73 (nI sc)) 74 (nI k9)) 77 dn) 78 wt) 79 wf) (updA (updA (updA (updA (updA B 14 nc) 17 ty) 18 (upd mn n9 x17)) 48 vn) 49 vt)) _ := hP
      have hD : va_D A (mW G h0 a (upd (upd (upd (upd (upd (upd (upd (upd (upd F 15 (nI fa28)) 16 pl29) 44 (nI fd)) 49 (nI md)) 73 (nI sc)) 74 (nI k9)) 77 dn) 78 wt) 79 wf) (updA (updA (updA (updA (updA B 14 nc) 17 ty) 18 (upd mn n9 x17)) 48 vn) 49 vt)) := mW_D hD
      exact W.iret (v := 1) hx hb hr (fun t9 ht9 hW9 => ⟨⟨_, (1, fa28, pl29, dn, wt, wf, ty, (upd mn n9 x17)), rfl, ⟨rfl, hz39, hz40, hz41, hz42, hz43, hz44, hz45⟩, by rw [ht9]; exact hP, hD⟩, hS.F ht9⟩) hS.2.2 dX12_named_143
    · obtain ⟨f46, e47, h48, h49⟩ := FldQ.ow (X := B) h16 c21
      subst e47
      refine lv_iconst (v := 1) hx hb dX12_named_108 (by decide) ?_
      refine lv_goto (tgt := 113) hx hb dX12_named_109 (by decide) ?_
      refine lv_bipush (v := 10) hx hb dX12_named_113 (by decide) ?_
      refine lv_aload_n hx hb dX12_named_115 rfl (lv_at hl 2 rfl) ?_
      refine r_get (v := .ref (a 11)) hx hb hown hq hE hP 19 44 tFX12_19 (by decide) pw_1441 rfl dX12_named_116 ?_
      refine lv_iload_n hx hb dX12_named_119 rfl (lv_at hl 3 rfl) ?_
      refine r_ldi (f := (B 11)) (j := n9) hx hb hE hP 11 (ma_11 G a _) rfl (by omega) (by decide) dX12_named_120 ?_
      refine lv_topi (fun x50 e51 => ?_)
      obtain rfl : x50 = nI t1 := e51.trans e2
      have hP : va_P G.1 pCl (mW G h0 a (upd (upd (upd (upd (upd (upd (upd (upd (upd F 15 (nI fa)) 44 (nI fd)) 49 (nI md)) 73 (nI sc)) 74 (nI k9)) 77 dn) 78 wt) 79 wf) 15 (nI fa)) (updA (updA (updA (updA (updA B 14 nc) 17 ty) 18 (upd mn n9 x17)) 48 vn) 49 vt)) _ := hP
      have hD : va_D A (mW G h0 a (upd (upd (upd (upd (upd (upd (upd (upd (upd F 15 (nI fa)) 44 (nI fd)) 49 (nI md)) 73 (nI sc)) 74 (nI k9)) 77 dn) 78 wt) 79 wf) 15 (nI fa)) (updA (updA (updA (updA (updA B 14 nc) 17 ty) 18 (upd mn n9 x17)) 48 vn) 49 vt)) := mW_D hD
      refine pc_V0 (G := G) (As := [.int (nI 1), .int (nI 10), .int (nI t1)]) (rest := []) hx hb hml hown hq hE hX pX0_al hP hD hS hA hl.1 (R_judgeL l G h0 a (upd (upd (upd (upd (upd (upd (upd (upd F 15 (nI fa)) 44 (nI fd)) 49 (nI md)) 73 (nI sc)) 74 (nI k9)) 77 dn) 78 wt) 79 wf) (updA (updA (updA (updA (updA B 14 nc) 17 ty) 18 (upd mn n9 x17)) 48 vn) 49 vt) 1 10 t1 fa (by omega) (by omega) (by omega) (by omega)) (gV pw_1798 pw_1799 pw_1800 pw_1523 pw_1793) hV_X12_judge 0 9 rfl rfl rfl rfl (Nat.le_of_ble_eq_true rfl) dX12_named_121 ⟨Nat.le_of_ble_eq_true rfl, Nat.le_of_ble_eq_true rfl⟩ ⟨(by show 3 + 1 ≤ (4 * z9 + 9); omega), (by show 8 + (4 + 11) + 82 ≤ (160 * z9 + 1360); omega)⟩ (fun v54 u52 H locs hw53 hP hD hS => ?_)
      obtain ⟨r55, fa56, pl57⟩ := u52
      obtain ⟨hw53, h58, h59, h60, h61, h62, h63, h64⟩ := hw53
      replace h58 : r55 ≤ 1 := h58
      replace h59 : fa ≤ fa56 := h59
      replace h60 : fa56 ≤ 15 := h60
      replace h61 : fa56 + 15 * r55 ≤ 15 := h61
      replace h62 : 1 ≤ r55 + fa56 := h62
      replace h63 : 1 ≤ 1 + fa56 := h63
      replace h64 : fa56 ≤ fa + 15 * (1 - 1) := h64
      obtain rfl : v54 = some (.int (nI r55)) := hw53
      have hP : va_P G.1 pCl (mW G h0 a (upd (upd (upd (upd (upd (upd (upd (upd (upd F 15 (nI fa56)) 16 pl57) 44 (nI fd)) 49 (nI md)) 73 (nI sc)) 74 (nI k9)) 77 dn) 78 wt) 79 wf) (updA (updA (updA (updA (updA B 14 nc) 17 ty) 18 (upd mn n9 x17)) 48 vn) 49 vt)) _ := mW_to (F := F) (l1 := [(15, (nI fa)), (44, (nI fd)), (49, (nI md)), (73, (nI sc)), (74, (nI k9)), (77, dn), (78, wt), (79, wf), (15, (nI fa56)), (16, pl57)]) (l2 := [(15, (nI fa56)), (16, pl57), (44, (nI fd)), (49, (nI md)), (73, (nI sc)), (74, (nI k9)), (77, dn), (78, wt), (79, wf)]) (V := [(nI fa56), (nI fd), (nI md), (nI sc), (nI k9), dn, wt, wf, (nI fa56), pl57, (nI fa56), pl57, (nI fd), (nI md), (nI sc), (nI k9), dn, wt, wf]) rfl rfl rfl hP
      have hD : va_D A (mW G h0 a (upd (upd (upd (upd (upd (upd (upd (upd (upd F 15 (nI fa56)) 16 pl57) 44 (nI fd)) 49 (nI md)) 73 (nI sc)) 74 (nI k9)) 77 dn) 78 wt) 79 wf) (updA (updA (updA (updA (updA B 14 nc) 17 ty) 18 (upd mn n9 x17)) 48 vn) 49 vt)) := mW_D hD
      refine W.widen (k := 0) (n := 0) (Nat.le_of_ble_eq_true rfl) (Nat.le_of_ble_eq_true rfl) ?_
      refine W.eq (g2 := F0 m 124 ls [.int (nI r55)]) rfl ?_
      refine lv_if_eq (tgt := 142) hx hb dX12_named_124 (by decide) (fun c65 => ?_) (fun c65 => ?_)
      · have n66 : r55 = 0 := (nI_eq (a := r55) (b := 0) (by omega) (by omega)).mp c65
        refine lv_iconst (v := 1) hx hb dX12_named_142 (by decide) ?_
        have hz67 : fa ≤ fa56 := (by omega)
        have hz68 : fa56 ≤ 15 := (by omega)
        have hz69 : TyC dc 1 := (by unfold TyC; omega)
        have hz70 : 1 ≤ 2050 := (by omega)
        have hz71 : ChE B nd n9 ty ty mn (upd mn n9 x17) := hch19
        have hz72 : mnN B nd (upd mn n9 x17) := hmn20
        have hz73 : If (fa56 = 0) (LTE B dc fd md nd ty (upd mn n9 x17) vt sc k9 n9 (nI 1) ∧ ty = ty) := (fun e => absurd e (by omega))
        have hP : va_P G.1 pCl (mW G h0 a (upd (upd (upd (upd (upd (upd (upd (upd (upd F 15 (nI fa56)) 16 pl57) 44 (nI fd)) 49 (nI md)) 73 (nI sc)) 74 (nI k9)) 77 dn) 78 wt) 79 wf) (updA (updA (updA (updA (updA B 14 nc) 17 ty) 18 (upd mn n9 x17)) 48 vn) 49 vt)) _ := hP
        have hD : va_D A (mW G h0 a (upd (upd (upd (upd (upd (upd (upd (upd (upd F 15 (nI fa56)) 16 pl57) 44 (nI fd)) 49 (nI md)) 73 (nI sc)) 74 (nI k9)) 77 dn) 78 wt) 79 wf) (updA (updA (updA (updA (updA B 14 nc) 17 ty) 18 (upd mn n9 x17)) 48 vn) 49 vt)) := mW_D hD
        exact W.iret (v := 1) hx hb hr (fun t9 ht9 hW9 => ⟨⟨_, (1, fa56, pl57, dn, wt, wf, ty, (upd mn n9 x17)), rfl, ⟨rfl, hz67, hz68, hz69, hz70, hz71, hz72, hz73⟩, by rw [ht9]; exact hP, hD⟩, hS.F ht9⟩) hS.2.2 dX12_named_143
      · have n74 : ¬ (r55 = 0) := fun h9 => c65 ((nI_eq (a := r55) (b := 0) (by omega) (by omega)).mpr h9)
        refine lv_aload_n hx hb dX12_named_127 rfl (lv_at hl 2 rfl) ?_
        refine r_get (v := .ref (a 21)) hx hb hown hq hE hP 30 75 tFX12_30 (by decide) pw_1452 rfl dX12_named_128 ?_
        refine lv_aload_n hx hb dX12_named_131 rfl (lv_at hl 2 rfl) ?_
        refine r_get (v := .ref (a 35)) hx hb hown hq hE hP 48 117 tFX12_48 (by decide) pw_1466 rfl dX12_named_132 ?_
        refine lv_iload hx hb dX12_named_135 (lv_at hl 0 rfl) ?_
        refine r_ldi (f := (B 35)) (j := f46) hx hb hE hP 35 (ma_35 G a _) rfl (by omega) (by decide) dX12_named_137 ?_
        obtain ⟨-, -, y75, e76, h77⟩ := hPS.2.1 f46 (by omega)
        refine lv_topi (fun x78 e79 => ?_)
        obtain rfl : x78 = nI y75 := e79.trans e76
        refine r_ldi (f := (B 21)) (j := y75) hx hb hE hP 21 (ma_21 G a _) rfl (by omega) (by decide) dX12_named_138 ?_
        obtain ⟨x80, e81, h82, h83, h84, h85⟩ := tyOK.tc (hTY y75 (by omega)) (by omega)
        refine lv_topi (fun x86 e87 => ?_)
        obtain rfl : x86 = nI x80 := e87.trans e81
        refine lv_goto (tgt := 143) hx hb dX12_named_139 (by decide) ?_
        have hz88 : fa ≤ fa56 := (by omega)
        have hz89 : fa56 ≤ 15 := (by omega)
        have hz90 : TyC dc x80 := h82
        have hz91 : x80 ≤ 2050 := (by omega)
        have hz92 : ChE B nd n9 ty ty mn (upd mn n9 x17) := hch19
        have hz93 : mnN B nd (upd mn n9 x17) := hmn20
        have hz94 : If (fa56 = 0) (LTE B dc fd md nd ty (upd mn n9 x17) vt sc k9 n9 (nI x80) ∧ ty = ty) := (fun e => ⟨LT6f hkd h48 (upd_eq.trans e18) h49 (ftF_eq e76 e81 (by omega)), rfl⟩)
        have hP : va_P G.1 pCl (mW G h0 a (upd (upd (upd (upd (upd (upd (upd (upd (upd F 15 (nI fa56)) 16 pl57) 44 (nI fd)) 49 (nI md)) 73 (nI sc)) 74 (nI k9)) 77 dn) 78 wt) 79 wf) (updA (updA (updA (updA (updA B 14 nc) 17 ty) 18 (upd mn n9 x17)) 48 vn) 49 vt)) _ := hP
        have hD : va_D A (mW G h0 a (upd (upd (upd (upd (upd (upd (upd (upd (upd F 15 (nI fa56)) 16 pl57) 44 (nI fd)) 49 (nI md)) 73 (nI sc)) 74 (nI k9)) 77 dn) 78 wt) 79 wf) (updA (updA (updA (updA (updA B 14 nc) 17 ty) 18 (upd mn n9 x17)) 48 vn) 49 vt)) := mW_D hD
        exact W.iret (v := (nI x80)) hx hb hr (fun t9 ht9 hW9 => ⟨⟨_, (x80, fa56, pl57, dn, wt, wf, ty, (upd mn n9 x17)), rfl, ⟨rfl, hz88, hz89, hz90, hz91, hz92, hz93, hz94⟩, by rw [ht9]; exact hP, hD⟩, hS.F ht9⟩) hS.2.2 dX12_named_143
  · obtain ⟨x95, e96, h97, h98, h99⟩ := (dOf_or sc 0).resolve_left c9
    rw [e96] at hl
    refine lv_aload_n hx hb dX12_named_21 rfl (lv_at hl 1 rfl) ?_
    refine r_get (v := .ref (a 18)) hx hb hown hq hE hP 26 65 tFX12_26 (by decide) pw_1448 rfl dX12_named_22 ?_
    refine lv_iload_n hx hb dX12_named_25 rfl (lv_at hl 2 rfl) ?_
    refine lv_iload_n hx hb dX12_named_26 rfl (lv_at hl 0 rfl) ?_
    refine r_sti (f := mn) (j := n9) hx hb hE hP hD hS 18 (ma_18 G a _) rfl (mas_18 G a _) (by omega) (by decide) dX12_named_27 (fun H locs hP hD hS => ?_)
    have hch100 : ChE B nd n9 ty ty mn (upd mn n9 (nI x95)) := (ChE.trans ChE.rfl (ChE.setM sub.rfl))
    have hmn101 : mnN B nd (upd mn n9 (nI x95)) := (mnN.up hmn (by rw [hkd]; decide))
    refine lv_iload_n hx hb dX12_named_28 rfl (lv_at hl 3 rfl) ?_
    refine lv_if_eq (tgt := 62) hx hb dX12_named_29 (by decide) (fun c102 => ?_) (fun c102 => ?_)
    · have n103 : us = 0 := (nI_eq (a := us) (b := 0) (by omega) (by omega)).mp c102
      refine lv_aload_n hx hb dX12_named_62 rfl (lv_at hl 1 rfl) ?_
      refine r_get (v := .ref (a 49)) hx hb hown hq hE hP 72 159 tFX12_72 (by decide) pw_1480 rfl dX12_named_63 ?_
      refine lv_iload_n hx hb dX12_named_66 rfl (lv_at hl 0 rfl) ?_
      refine r_ldi (f := vt) (j := x95) hx hb hE hP 49 (ma_49 G a _) rfl (by omega) (by decide) dX12_named_67 ?_
      obtain ⟨x104, e105, h106, h107, h108, h109⟩ := tyOK.tc (hvt x95 (by omega)) (by omega)
      refine lv_topi (fun x110 e111 => ?_)
      obtain rfl : x110 = nI x104 := e111.trans e105
      have hz112 : fa ≤ fa := (by omega)
      have hz113 : fa ≤ 15 := (by omega)
      have hz114 : TyC dc x104 := h106
      have hz115 : x104 ≤ 2050 := (by omega)
      have hz116 : ChE B nd n9 ty ty mn (upd mn n9 (nI x95)) := hch100
      have hz117 : mnN B nd (upd mn n9 (nI x95)) := hmn101
      have hz118 : If (fa = 0) (LTE B dc fd md nd ty (upd mn n9 (nI x95)) vt sc k9 n9 (nI x104) ∧ ty = ty) := (fun e => ⟨LT6v hkd (by omega) upd_eq e105.symm, rfl⟩)
      have hP : va_P G.1 pCl (mW G h0 a (upd (upd (upd (upd (upd (upd (upd (upd (upd F 15 (nI fa)) 16 (F 16)) 44 (nI fd)) 49 (nI md)) 73 (nI sc)) 74 (nI k9)) 77 dn) 78 wt) 79 wf) (updA (updA (updA (updA (updA B 14 nc) 17 ty) 18 (upd mn n9 (nI x95))) 48 vn) 49 vt)) _ := mW_to (F := F) (l1 := [(15, (nI fa)), (44, (nI fd)), (49, (nI md)), (73, (nI sc)), (74, (nI k9)), (77, dn), (78, wt), (79, wf)]) (l2 := [(15, (nI fa)), (16, (F 16)), (44, (nI fd)), (49, (nI md)), (73, (nI sc)), (74, (nI k9)), (77, dn), (78, wt), (79, wf)]) (V := [(nI fa), (nI fd), (nI md), (nI sc), (nI k9), dn, wt, wf, (nI fa), (F 16), (nI fd), (nI md), (nI sc), (nI k9), dn, wt, wf]) rfl rfl (show (updA (updA (updA (updA (updA (updA B 14 nc) 17 ty) 18 mn) 48 vn) 49 vt) 18 (upd mn n9 (nI x95))) = (updA (updA (updA (updA (updA B 14 nc) 17 ty) 18 (upd mn n9 (nI x95))) 48 vn) 49 vt) from updsA_eq2 (F := B) (l1 := [(14, nc), (17, ty), (18, mn), (48, vn), (49, vt), (18, (upd mn n9 (nI x95)))]) (l2 := [(14, nc), (17, ty), (18, (upd mn n9 (nI x95))), (48, vn), (49, vt)]) (V := [nc, ty, (upd mn n9 (nI x95)), vn, vt, (upd mn n9 (nI x95)), nc, ty, (upd mn n9 (nI x95)), vn, vt]) rfl rfl) hP
      have hD : va_D A (mW G h0 a (upd (upd (upd (upd (upd (upd (upd (upd (upd F 15 (nI fa)) 16 (F 16)) 44 (nI fd)) 49 (nI md)) 73 (nI sc)) 74 (nI k9)) 77 dn) 78 wt) 79 wf) (updA (updA (updA (updA (updA B 14 nc) 17 ty) 18 (upd mn n9 (nI x95))) 48 vn) 49 vt)) := mW_D hD
      exact W.iret (v := (nI x104)) hx hb hr (fun t9 ht9 hW9 => ⟨⟨_, (x104, fa, (F 16), dn, wt, wf, ty, (upd mn n9 (nI x95))), rfl, ⟨rfl, hz112, hz113, hz114, hz115, hz116, hz117, hz118⟩, by rw [ht9]; exact hP, hD⟩, hS.F ht9⟩) hS.2.2 dX12_named_68
    · have n119 : ¬ (us = 0) := fun h9 => c102 ((nI_eq (a := us) (b := 0) (by omega) (by omega)).mpr h9)
      refine lv_aload_n hx hb dX12_named_32 rfl (lv_at hl 1 rfl) ?_
      refine lv_aload_n hx hb dX12_named_33 rfl (lv_at hl 1 rfl) ?_
      refine r_get (v := .int dn) hx hb hown hq hE hP 77 544 tFX12_77 (by decide) pw_1796 rfl dX12_named_34 ?_
      refine lv_iload_n hx hb dX12_named_37 rfl (lv_at hl 0 rfl) ?_
      refine lv_ishr hx hb dX12_named_38 ?_
      refine lv_topi (fun x120 e121 => ?_)
      refine lv_iconst (v := 1) hx hb dX12_named_39 (by decide) ?_
      refine lv_iand hx hb dX12_named_40 ?_
      refine lv_topi (fun x122 e123 => ?_)
      refine lv_iconst (v := 1) hx hb dX12_named_41 (by decide) ?_
      refine lv_icmp_ne (tgt := 49) hx hb dX12_named_42 (by decide) (fun c124 => ?_) (fun c124 => ?_)
      · refine lv_iconst (v := 0) hx hb dX12_named_49 (by decide) ?_
        refine lv_bipush (v := 13) hx hb dX12_named_50 (by decide) ?_
        refine lv_aload_n hx hb dX12_named_52 rfl (lv_at hl 1 rfl) ?_
        refine r_get (v := .ref (a 11)) hx hb hown hq hE hP 19 44 tFX12_19 (by decide) pw_1441 rfl dX12_named_53 ?_
        refine lv_iload_n hx hb dX12_named_56 rfl (lv_at hl 2 rfl) ?_
        refine r_ldi (f := (B 11)) (j := n9) hx hb hE hP 11 (ma_11 G a _) rfl (by omega) (by decide) dX12_named_57 ?_
        refine lv_topi (fun x125 e126 => ?_)
        obtain rfl : x125 = nI t1 := e126.trans e2
        have hP : va_P G.1 pCl (mW G h0 a (upd (upd (upd (upd (upd (upd (upd (upd (upd F 15 (nI fa)) 44 (nI fd)) 49 (nI md)) 73 (nI sc)) 74 (nI k9)) 77 dn) 78 wt) 79 wf) 15 (nI fa)) (updA (updA (updA (updA (updA B 14 nc) 17 ty) 18 (upd mn n9 (nI x95))) 48 vn) 49 vt)) _ := mW_to (F := F) (l1 := [(15, (nI fa)), (44, (nI fd)), (49, (nI md)), (73, (nI sc)), (74, (nI k9)), (77, dn), (78, wt), (79, wf)]) (l2 := [(15, (nI fa)), (44, (nI fd)), (49, (nI md)), (73, (nI sc)), (74, (nI k9)), (77, dn), (78, wt), (79, wf), (15, (nI fa))]) (V := [(nI fa), (nI fd), (nI md), (nI sc), (nI k9), dn, wt, wf, (nI fa), (nI fd), (nI md), (nI sc), (nI k9), dn, wt, wf, (nI fa)]) rfl rfl (show (updA (updA (updA (updA (updA (updA B 14 nc) 17 ty) 18 mn) 48 vn) 49 vt) 18 (upd mn n9 (nI x95))) = (updA (updA (updA (updA (updA B 14 nc) 17 ty) 18 (upd mn n9 (nI x95))) 48 vn) 49 vt) from updsA_eq2 (F := B) (l1 := [(14, nc), (17, ty), (18, mn), (48, vn), (49, vt), (18, (upd mn n9 (nI x95)))]) (l2 := [(14, nc), (17, ty), (18, (upd mn n9 (nI x95))), (48, vn), (49, vt)]) (V := [nc, ty, (upd mn n9 (nI x95)), vn, vt, (upd mn n9 (nI x95)), nc, ty, (upd mn n9 (nI x95)), vn, vt]) rfl rfl) hP
        have hD : va_D A (mW G h0 a (upd (upd (upd (upd (upd (upd (upd (upd (upd F 15 (nI fa)) 44 (nI fd)) 49 (nI md)) 73 (nI sc)) 74 (nI k9)) 77 dn) 78 wt) 79 wf) 15 (nI fa)) (updA (updA (updA (updA (updA B 14 nc) 17 ty) 18 (upd mn n9 (nI x95))) 48 vn) 49 vt)) := mW_D hD
        refine pc_V0 (G := G) (As := [.int (nI 0), .int (nI 13), .int (nI t1)]) (rest := []) hx hb hml hown hq hE hX pX0_al hP hD hS hA hl.1 (R_judgeL l G h0 a (upd (upd (upd (upd (upd (upd (upd (upd F 15 (nI fa)) 44 (nI fd)) 49 (nI md)) 73 (nI sc)) 74 (nI k9)) 77 dn) 78 wt) 79 wf) (updA (updA (updA (updA (updA B 14 nc) 17 ty) 18 (upd mn n9 (nI x95))) 48 vn) 49 vt) 0 13 t1 fa (by omega) (by omega) (by omega) (by omega)) (gV pw_1798 pw_1799 pw_1800 pw_1523 pw_1793) hV_X12_judge 0 9 rfl rfl rfl rfl (Nat.le_of_ble_eq_true rfl) dX12_named_58 ⟨Nat.le_of_ble_eq_true rfl, Nat.le_of_ble_eq_true rfl⟩ ⟨(by show 3 + 1 ≤ (4 * z9 + 9); omega), (by show 8 + (4 + 11) + 82 ≤ (160 * z9 + 1360); omega)⟩ (fun v129 u127 H locs hw128 hP hD hS => ?_)
        obtain ⟨r130, fa131, pl132⟩ := u127
        obtain ⟨hw128, h133, h134, h135, h136, h137, h138, h139⟩ := hw128
        replace h133 : r130 ≤ 1 := h133
        replace h134 : fa ≤ fa131 := h134
        replace h135 : fa131 ≤ 15 := h135
        replace h136 : fa131 + 15 * r130 ≤ 15 := h136
        replace h137 : 1 ≤ r130 + fa131 := h137
        replace h138 : 1 ≤ 0 + fa131 := h138
        replace h139 : fa131 ≤ fa + 15 * (1 - 0) := h139
        obtain rfl : v129 = some (.int (nI r130)) := hw128
        have hP : va_P G.1 pCl (mW G h0 a (upd (upd (upd (upd (upd (upd (upd (upd (upd F 15 (nI fa131)) 16 pl132) 44 (nI fd)) 49 (nI md)) 73 (nI sc)) 74 (nI k9)) 77 dn) 78 wt) 79 wf) (updA (updA (updA (updA (updA B 14 nc) 17 ty) 18 (upd mn n9 (nI x95))) 48 vn) 49 vt)) _ := mW_to (F := F) (l1 := [(15, (nI fa)), (44, (nI fd)), (49, (nI md)), (73, (nI sc)), (74, (nI k9)), (77, dn), (78, wt), (79, wf), (15, (nI fa131)), (16, pl132)]) (l2 := [(15, (nI fa131)), (16, pl132), (44, (nI fd)), (49, (nI md)), (73, (nI sc)), (74, (nI k9)), (77, dn), (78, wt), (79, wf)]) (V := [(nI fa131), (nI fd), (nI md), (nI sc), (nI k9), dn, wt, wf, (nI fa131), pl132, (nI fa131), pl132, (nI fd), (nI md), (nI sc), (nI k9), dn, wt, wf]) rfl rfl rfl hP
        have hD : va_D A (mW G h0 a (upd (upd (upd (upd (upd (upd (upd (upd (upd F 15 (nI fa131)) 16 pl132) 44 (nI fd)) 49 (nI md)) 73 (nI sc)) 74 (nI k9)) 77 dn) 78 wt) 79 wf) (updA (updA (updA (updA (updA B 14 nc) 17 ty) 18 (upd mn n9 (nI x95))) 48 vn) 49 vt)) := mW_D hD
        refine W.widen (k := 0) (n := 0) (Nat.le_of_ble_eq_true rfl) (Nat.le_of_ble_eq_true rfl) ?_
        refine W.eq (g2 := F0 m 61 ls [.int (nI r130)]) rfl ?_
        refine lv_pop hx hb dX12_named_61 rfl ?_
        refine lv_aload_n hx hb dX12_named_62 rfl (lv_at hl 1 rfl) ?_
        refine r_get (v := .ref (a 49)) hx hb hown hq hE hP 72 159 tFX12_72 (by decide) pw_1480 rfl dX12_named_63 ?_
        refine lv_iload_n hx hb dX12_named_66 rfl (lv_at hl 0 rfl) ?_
        refine r_ldi (f := vt) (j := x95) hx hb hE hP 49 (ma_49 G a _) rfl (by omega) (by decide) dX12_named_67 ?_
        obtain ⟨x140, e141, h142, h143, h144, h145⟩ := tyOK.tc (hvt x95 (by omega)) (by omega)
        refine lv_topi (fun x146 e147 => ?_)
        obtain rfl : x146 = nI x140 := e147.trans e141
        have hz148 : fa ≤ fa131 := (by omega)
        have hz149 : fa131 ≤ 15 := (by omega)
        have hz150 : TyC dc x140 := h142
        have hz151 : x140 ≤ 2050 := (by omega)
        have hz152 : ChE B nd n9 ty ty mn (upd mn n9 (nI x95)) := hch100
        have hz153 : mnN B nd (upd mn n9 (nI x95)) := hmn101
        have hz154 : If (fa131 = 0) (LTE B dc fd md nd ty (upd mn n9 (nI x95)) vt sc k9 n9 (nI x140) ∧ ty = ty) := (fun e => ⟨LT6v hkd (by omega) upd_eq e141.symm, rfl⟩)
        have hP : va_P G.1 pCl (mW G h0 a (upd (upd (upd (upd (upd (upd (upd (upd (upd F 15 (nI fa131)) 16 pl132) 44 (nI fd)) 49 (nI md)) 73 (nI sc)) 74 (nI k9)) 77 dn) 78 wt) 79 wf) (updA (updA (updA (updA (updA B 14 nc) 17 ty) 18 (upd mn n9 (nI x95))) 48 vn) 49 vt)) _ := hP
        have hD : va_D A (mW G h0 a (upd (upd (upd (upd (upd (upd (upd (upd (upd F 15 (nI fa131)) 16 pl132) 44 (nI fd)) 49 (nI md)) 73 (nI sc)) 74 (nI k9)) 77 dn) 78 wt) 79 wf) (updA (updA (updA (updA (updA B 14 nc) 17 ty) 18 (upd mn n9 (nI x95))) 48 vn) 49 vt)) := mW_D hD
        exact W.iret (v := (nI x140)) hx hb hr (fun t9 ht9 hW9 => ⟨⟨_, (x140, fa131, pl132, dn, wt, wf, ty, (upd mn n9 (nI x95))), rfl, ⟨rfl, hz148, hz149, hz150, hz151, hz152, hz153, hz154⟩, by rw [ht9]; exact hP, hD⟩, hS.F ht9⟩) hS.2.2 dX12_named_68
      · refine lv_iconst (v := 1) hx hb dX12_named_45 (by decide) ?_
        refine lv_goto (tgt := 50) hx hb dX12_named_46 (by decide) ?_
        refine lv_bipush (v := 13) hx hb dX12_named_50 (by decide) ?_
        refine lv_aload_n hx hb dX12_named_52 rfl (lv_at hl 1 rfl) ?_
        refine r_get (v := .ref (a 11)) hx hb hown hq hE hP 19 44 tFX12_19 (by decide) pw_1441 rfl dX12_named_53 ?_
        refine lv_iload_n hx hb dX12_named_56 rfl (lv_at hl 2 rfl) ?_
        refine r_ldi (f := (B 11)) (j := n9) hx hb hE hP 11 (ma_11 G a _) rfl (by omega) (by decide) dX12_named_57 ?_
        refine lv_topi (fun x155 e156 => ?_)
        obtain rfl : x155 = nI t1 := e156.trans e2
        have hP : va_P G.1 pCl (mW G h0 a (upd (upd (upd (upd (upd (upd (upd (upd (upd F 15 (nI fa)) 44 (nI fd)) 49 (nI md)) 73 (nI sc)) 74 (nI k9)) 77 dn) 78 wt) 79 wf) 15 (nI fa)) (updA (updA (updA (updA (updA B 14 nc) 17 ty) 18 (upd mn n9 (nI x95))) 48 vn) 49 vt)) _ := mW_to (F := F) (l1 := [(15, (nI fa)), (44, (nI fd)), (49, (nI md)), (73, (nI sc)), (74, (nI k9)), (77, dn), (78, wt), (79, wf)]) (l2 := [(15, (nI fa)), (44, (nI fd)), (49, (nI md)), (73, (nI sc)), (74, (nI k9)), (77, dn), (78, wt), (79, wf), (15, (nI fa))]) (V := [(nI fa), (nI fd), (nI md), (nI sc), (nI k9), dn, wt, wf, (nI fa), (nI fd), (nI md), (nI sc), (nI k9), dn, wt, wf, (nI fa)]) rfl rfl (show (updA (updA (updA (updA (updA (updA B 14 nc) 17 ty) 18 mn) 48 vn) 49 vt) 18 (upd mn n9 (nI x95))) = (updA (updA (updA (updA (updA B 14 nc) 17 ty) 18 (upd mn n9 (nI x95))) 48 vn) 49 vt) from updsA_eq2 (F := B) (l1 := [(14, nc), (17, ty), (18, mn), (48, vn), (49, vt), (18, (upd mn n9 (nI x95)))]) (l2 := [(14, nc), (17, ty), (18, (upd mn n9 (nI x95))), (48, vn), (49, vt)]) (V := [nc, ty, (upd mn n9 (nI x95)), vn, vt, (upd mn n9 (nI x95)), nc, ty, (upd mn n9 (nI x95)), vn, vt]) rfl rfl) hP
        have hD : va_D A (mW G h0 a (upd (upd (upd (upd (upd (upd (upd (upd (upd F 15 (nI fa)) 44 (nI fd)) 49 (nI md)) 73 (nI sc)) 74 (nI k9)) 77 dn) 78 wt) 79 wf) 15 (nI fa)) (updA (updA (updA (updA (updA B 14 nc) 17 ty) 18 (upd mn n9 (nI x95))) 48 vn) 49 vt)) := mW_D hD
        refine pc_V0 (G := G) (As := [.int (nI 1), .int (nI 13), .int (nI t1)]) (rest := []) hx hb hml hown hq hE hX pX0_al hP hD hS hA hl.1 (R_judgeL l G h0 a (upd (upd (upd (upd (upd (upd (upd (upd F 15 (nI fa)) 44 (nI fd)) 49 (nI md)) 73 (nI sc)) 74 (nI k9)) 77 dn) 78 wt) 79 wf) (updA (updA (updA (updA (updA B 14 nc) 17 ty) 18 (upd mn n9 (nI x95))) 48 vn) 49 vt) 1 13 t1 fa (by omega) (by omega) (by omega) (by omega)) (gV pw_1798 pw_1799 pw_1800 pw_1523 pw_1793) hV_X12_judge 0 9 rfl rfl rfl rfl (Nat.le_of_ble_eq_true rfl) dX12_named_58 ⟨Nat.le_of_ble_eq_true rfl, Nat.le_of_ble_eq_true rfl⟩ ⟨(by show 3 + 1 ≤ (4 * z9 + 9); omega), (by show 8 + (4 + 11) + 82 ≤ (160 * z9 + 1360); omega)⟩ (fun v159 u157 H locs hw158 hP hD hS => ?_)
        obtain ⟨r160, fa161, pl162⟩ := u157
        obtain ⟨hw158, h163, h164, h165, h166, h167, h168, h169⟩ := hw158
        replace h163 : r160 ≤ 1 := h163
        replace h164 : fa ≤ fa161 := h164
        replace h165 : fa161 ≤ 15 := h165
        replace h166 : fa161 + 15 * r160 ≤ 15 := h166
        replace h167 : 1 ≤ r160 + fa161 := h167
        replace h168 : 1 ≤ 1 + fa161 := h168
        replace h169 : fa161 ≤ fa + 15 * (1 - 1) := h169
        obtain rfl : v159 = some (.int (nI r160)) := hw158
        have hP : va_P G.1 pCl (mW G h0 a (upd (upd (upd (upd (upd (upd (upd (upd (upd F 15 (nI fa161)) 16 pl162) 44 (nI fd)) 49 (nI md)) 73 (nI sc)) 74 (nI k9)) 77 dn) 78 wt) 79 wf) (updA (updA (updA (updA (updA B 14 nc) 17 ty) 18 (upd mn n9 (nI x95))) 48 vn) 49 vt)) _ := mW_to (F := F) (l1 := [(15, (nI fa)), (44, (nI fd)), (49, (nI md)), (73, (nI sc)), (74, (nI k9)), (77, dn), (78, wt), (79, wf), (15, (nI fa161)), (16, pl162)]) (l2 := [(15, (nI fa161)), (16, pl162), (44, (nI fd)), (49, (nI md)), (73, (nI sc)), (74, (nI k9)), (77, dn), (78, wt), (79, wf)]) (V := [(nI fa161), (nI fd), (nI md), (nI sc), (nI k9), dn, wt, wf, (nI fa161), pl162, (nI fa161), pl162, (nI fd), (nI md), (nI sc), (nI k9), dn, wt, wf]) rfl rfl rfl hP
        have hD : va_D A (mW G h0 a (upd (upd (upd (upd (upd (upd (upd (upd (upd F 15 (nI fa161)) 16 pl162) 44 (nI fd)) 49 (nI md)) 73 (nI sc)) 74 (nI k9)) 77 dn) 78 wt) 79 wf) (updA (updA (updA (updA (updA B 14 nc) 17 ty) 18 (upd mn n9 (nI x95))) 48 vn) 49 vt)) := mW_D hD
        refine W.widen (k := 0) (n := 0) (Nat.le_of_ble_eq_true rfl) (Nat.le_of_ble_eq_true rfl) ?_
        refine W.eq (g2 := F0 m 61 ls [.int (nI r160)]) rfl ?_
        refine lv_pop hx hb dX12_named_61 rfl ?_
        refine lv_aload_n hx hb dX12_named_62 rfl (lv_at hl 1 rfl) ?_
        refine r_get (v := .ref (a 49)) hx hb hown hq hE hP 72 159 tFX12_72 (by decide) pw_1480 rfl dX12_named_63 ?_
        refine lv_iload_n hx hb dX12_named_66 rfl (lv_at hl 0 rfl) ?_
        refine r_ldi (f := vt) (j := x95) hx hb hE hP 49 (ma_49 G a _) rfl (by omega) (by decide) dX12_named_67 ?_
        obtain ⟨x170, e171, h172, h173, h174, h175⟩ := tyOK.tc (hvt x95 (by omega)) (by omega)
        refine lv_topi (fun x176 e177 => ?_)
        obtain rfl : x176 = nI x170 := e177.trans e171
        have hz178 : fa ≤ fa161 := (by omega)
        have hz179 : fa161 ≤ 15 := (by omega)
        have hz180 : TyC dc x170 := h172
        have hz181 : x170 ≤ 2050 := (by omega)
        have hz182 : ChE B nd n9 ty ty mn (upd mn n9 (nI x95)) := hch100
        have hz183 : mnN B nd (upd mn n9 (nI x95)) := hmn101
        have hz184 : If (fa161 = 0) (LTE B dc fd md nd ty (upd mn n9 (nI x95)) vt sc k9 n9 (nI x170) ∧ ty = ty) := (fun e => ⟨LT6v hkd (by omega) upd_eq e171.symm, rfl⟩)
        have hP : va_P G.1 pCl (mW G h0 a (upd (upd (upd (upd (upd (upd (upd (upd (upd F 15 (nI fa161)) 16 pl162) 44 (nI fd)) 49 (nI md)) 73 (nI sc)) 74 (nI k9)) 77 dn) 78 wt) 79 wf) (updA (updA (updA (updA (updA B 14 nc) 17 ty) 18 (upd mn n9 (nI x95))) 48 vn) 49 vt)) _ := hP
        have hD : va_D A (mW G h0 a (upd (upd (upd (upd (upd (upd (upd (upd (upd F 15 (nI fa161)) 16 pl162) 44 (nI fd)) 49 (nI md)) 73 (nI sc)) 74 (nI k9)) 77 dn) 78 wt) 79 wf) (updA (updA (updA (updA (updA B 14 nc) 17 ty) 18 (upd mn n9 (nI x95))) 48 vn) 49 vt)) := mW_D hD
        exact W.iret (v := (nI x170)) hx hb hr (fun t9 ht9 hW9 => ⟨⟨_, (x170, fa161, pl162, dn, wt, wf, ty, (upd mn n9 (nI x95))), rfl, ⟨rfl, hz178, hz179, hz180, hz181, hz182, hz183, hz184⟩, by rw [ht9]; exact hP, hD⟩, hS.F ht9⟩) hS.2.2 dX12_named_68

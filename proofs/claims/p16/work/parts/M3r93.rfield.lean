theorem upd4 {V : Nat → Nat → Int32} {x y z w : Nat → Int32} : updA (updA (updA (updA V 68 x) 69 y) 73 z) 74 w = updA (updA (updA (updA V 73 z) 74 w) 68 x) 69 y := by
  funext i
  unfold updA
  by_cases h1 : i = 74
  · rw [if_pos h1, if_neg (by omega), if_neg (by omega), if_pos h1]
  · by_cases h2 : i = 73
    · rw [if_neg h1, if_pos h2, if_neg (by omega), if_neg (by omega), if_neg h1, if_pos h2]
    · by_cases h3 : i = 69
      · rw [if_neg h1, if_neg h2, if_pos h3, if_pos h3]
      · by_cases h4 : i = 68
        · rw [if_neg h1, if_neg h2, if_neg h3, if_pos h4, if_neg h3, if_pos h4]
        · rw [if_neg h1, if_neg h2, if_neg h3, if_neg h4, if_neg h3, if_neg h4, if_neg h1, if_neg h2]
theorem dX12_raises_0 : decode cX12_raises 0 = .ok (.aload_n 0, 1) := by decide +kernel
theorem dX12_raises_1 : decode cX12_raises 1 = .ok (.iload_n 1, 1) := by decide +kernel
theorem dX12_raises_2 : decode cX12_raises 2 = .ok (.iconst 1, 1) := by decide +kernel
theorem dX12_raises_3 : decode cX12_raises 3 = .ok (.iload_n 2, 1) := by decide +kernel
theorem dX12_raises_4 : decode cX12_raises 4 = .ok (.iconst 1, 1) := by decide +kernel
theorem dX12_raises_5 : decode cX12_raises 5 = .ok (.invokevirtual 815, 3) := by decide +kernel
theorem dX12_raises_8 : decode cX12_raises 8 = .ok (.return_, 1) := by decide +kernel
theorem hV_X12_leaves : yX12_leaves.cls = RX12 ∧ yX12_leaves.cls ≠ "java/lang/invoke/MethodHandle" ∧ yX12_leaves.cls ≠ "java/lang/invoke/VarHandle" ∧ (parseMethodDescriptor yX12_leaves.desc).map (fun d => d.parameters.length) = some 4 := by decide +kernel
set_option maxHeartbeats 2000000 in
set_option maxRecDepth 100000 in
/-- raises(n, v) -/
theorem R_raises (l : Launch) (G : pT) (h0 : Nat) (a : Nat → Nat) (F : Nat → Int32) (B : Nat → Nat → Int32) (Xs : Nat → Nat → Int32) (gh : Nat → Nat → Nat) (nd : Nat) (T : Nat) (nm : Nat) (wr : Nat) (lz : Nat) (dc : Nat) (fd : Nat) (md : Nat) (pr : Nat) (bk : Nat) (M : MTb) (rmm : Nat) (mu : Nat) (op : Nat) (wn : Nat) (fu : Nat) (rd : Nat) (on : Nat) (idn : Nat) (fl : Nat) (ct : Nat) (c9 : Nat) (xn : Nat) (kc : Nat) (mt : Nat → Nat) (ps : Nat → Nat) (yy : Nat → Ps) (bf : Nat → Nat) (wf : Nat → Nat) (tx : Int32) (nw : Int32) (isn : Int32) (rs0 : Int32) (uc0 : Int32) (hL : Ln Xs B gh nd T nm wr lz dc fd md pr bk M rmm mu op wn fu rd on idn fl ct c9 mt ps yy bf wf) (hfu : fu ≤ 20000) (hx1 : 1 ≤ xn) (hx2 : (xn ≤ 3000 ∧ Lvd (B 73) on (xn - 1)) ∨ (4001 ≤ xn ∧ xn ≤ 4006)) (hx3 : clF (B 55) xn = nI kc) (hx4 : kc < dc) : PM l G pX0 yX12_raises cX12_raises 3 none ({ frames := 5, cells := 0, slots := 0, locals := 134 }) [.ref h0, .int (nI c9), .int (nI xn)] (mW G h0 a (upd (upd (upd (upd (upd (upd (upd (upd (upd F 102 (nI op)) 111 tx) 115 (nI wn)) 116 (-1)) 117 (nI fu)) 118 rs0) 119 uc0) 125 nw) 126 isn) B) (fun (v : Option Value) (u : Nat × Nat × Nat × Nat × Int32 × Int32 × Int32 × Int32 × Int32 × (Nat → Nat → Int32)) => v = none ∧ (Nx Xs u.2.2.2.2.2.2.2.2.2 gh nd T nm wr lz dc fd md pr bk M rmm fu mu u.1 u.2.1 u.2.2.1 u.2.2.2.1 rd on idn fl ct u.2.2.2.2.1 u.2.2.2.2.2.1 u.2.2.2.2.2.2.1 u.2.2.2.2.2.2.2.2.1)) (fun u => (mW G h0 a (upd (upd (upd (upd (upd (upd (upd (upd (upd F 102 (nI u.1)) 111 (nI u.2.1)) 115 (nI u.2.2.1)) 116 u.2.2.2.2.1) 117 (nI u.2.2.2.1)) 118 u.2.2.2.2.2.2.2.1) 119 u.2.2.2.2.2.2.2.2.1) 125 u.2.2.2.2.2.1) 126 u.2.2.2.2.2.2.1) u.2.2.2.2.2.2.2.2.2)) := by
  intro sz
  refine Met.ofW (cc := cX12_raises) (maxL := 3) (ret := none) (by decide) rfl ?_
  intro p e s m args below meth c s₁ B9 hml hv
  obtain ⟨rfl, hsz, hP, hD0, hE, hX⟩ := hv
  have hx := B9.exec
  have hb := B9.bytes
  have hr := B9.returns
  have hts := atoms_spec (ws := Cond.code yX12_raises cX12_raises 3 none :: pw) B9.pre
  have hq : ∀ w ∈ pw, w.before _ s = true := fun w h => hts w (List.mem_cons_of_mem _ h)
  have hown : s.vm.findClass RX12 = some m.cls := findClass_of_methodNamed B9.named
  have hlocks := B9.notSynchronized
  subst hsz
  have hD := hD0.self (sz := s.heap.size)
  have hA : ∀ q : Nat, s.heap.size ≤ q → va_A (mW G h0 a (upd (upd (upd (upd (upd (upd (upd (upd (upd F 102 (nI op)) 111 tx) 115 (nI wn)) 116 (-1)) 117 (nI fu)) 118 rs0) 119 uc0) 125 nw) 126 isn) B) s.heap.size q := fun q h => Or.inr h
  have hP : va_P G.1 pCl (mW G h0 a (upd (upd (upd (upd (upd (upd (upd (upd (upd F 102 (nI op)) 111 tx) 115 (nI wn)) 116 (-1)) 117 (nI fu)) 118 rs0) 119 uc0) 125 nw) 126 isn) B) s.heap := hP
  generalize va_A (mW G h0 a (upd (upd (upd (upd (upd (upd (upd (upd (upd F 102 (nI op)) 111 tx) 115 (nI wn)) 116 (-1)) 117 (nI fu)) 118 rs0) 119 uc0) 125 nw) 126 isn) B) s.heap.size = A at hD hE hA ⊢
  have hS : va_S A s.heap s.heap [] := va_S.rf
  have hl := lv_entry ([.ref h0, .int (nI c9), .int (nI xn)]) (n := 3) (Nat.le_of_ble_eq_true rfl)
  rw [lg_entry_eq]
  generalize (lg_sl ([.ref h0, .int (nI c9), .int (nI xn)]) ++ List.replicate (3 - (lg_sl ([.ref h0, .int (nI c9), .int (nI xn)])).length) Slot.unset).toArray = ls at hl ⊢
  have hl : lv_has ls 3 [(0, .ref h0), (1, .int (nI c9)), (2, .int (nI xn))] := hl
  refine lv_aload_n hx hb dX12_raises_0 rfl (lv_at hl 0 rfl) ?_
  refine lv_iload_n hx hb dX12_raises_1 rfl (lv_at hl 1 rfl) ?_
  refine lv_iconst (v := 1) hx hb dX12_raises_2 (by decide) ?_
  refine lv_iload_n hx hb dX12_raises_3 rfl (lv_at hl 2 rfl) ?_
  refine lv_iconst (v := 1) hx hb dX12_raises_4 (by decide) ?_
  have hP : va_P G.1 pCl (mW G h0 a (upd (upd (upd (upd (upd (upd (upd (upd (upd (upd (upd (upd (upd (upd (upd (upd (upd (upd F 102 (nI op)) 111 tx) 115 (nI wn)) 116 (-1)) 117 (nI fu)) 118 rs0) 119 uc0) 125 nw) 126 isn) 102 (nI op)) 111 tx) 115 (nI wn)) 116 (-1)) 117 (nI fu)) 118 rs0) 119 uc0) 125 nw) 126 isn) B) _ := mW_to (F := F) (l1 := [(102, (nI op)), (111, tx), (115, (nI wn)), (116, (-1)), (117, (nI fu)), (118, rs0), (119, uc0), (125, nw), (126, isn)]) (l2 := [(102, (nI op)), (111, tx), (115, (nI wn)), (116, (-1)), (117, (nI fu)), (118, rs0), (119, uc0), (125, nw), (126, isn), (102, (nI op)), (111, tx), (115, (nI wn)), (116, (-1)), (117, (nI fu)), (118, rs0), (119, uc0), (125, nw), (126, isn)]) (V := [(nI op), tx, (nI wn), (-1), (nI fu), rs0, uc0, nw, isn, (nI op), tx, (nI wn), (-1), (nI fu), rs0, uc0, nw, isn, (nI op), tx, (nI wn), (-1), (nI fu), rs0, uc0, nw, isn]) rfl rfl rfl hP
  have hD : va_D A (mW G h0 a (upd (upd (upd (upd (upd (upd (upd (upd (upd (upd (upd (upd (upd (upd (upd (upd (upd (upd F 102 (nI op)) 111 tx) 115 (nI wn)) 116 (-1)) 117 (nI fu)) 118 rs0) 119 uc0) 125 nw) 126 isn) 102 (nI op)) 111 tx) 115 (nI wn)) 116 (-1)) 117 (nI fu)) 118 rs0) 119 uc0) 125 nw) 126 isn) B) := mW_D hD
  refine pc_V0 (G := G) (As := [.int (nI c9), .int 1, .int (nI xn), .int 1]) (rest := []) hx hb hml hown hq hE hX pX0_al hP hD hS hA hl.1 (R_leaves1 l G h0 a (upd (upd (upd (upd (upd (upd (upd (upd (upd F 102 (nI op)) 111 tx) 115 (nI wn)) 116 (-1)) 117 (nI fu)) 118 rs0) 119 uc0) 125 nw) 126 isn) B Xs gh nd T nm wr lz dc fd md pr bk M rmm mu op wn fu rd on idn fl ct c9 xn kc mt ps yy bf wf tx nw isn rs0 uc0 hL hfu hx1 hx2 hx3 hx4) (gV pw_2050 pw_2051 pw_2052 pw_1523 pw_2049) hV_X12_leaves 0 9 rfl rfl rfl rfl (Nat.le_of_ble_eq_true rfl) dX12_raises_5 ⟨Nat.le_of_ble_eq_true rfl, Nat.le_of_ble_eq_true rfl⟩ ⟨Nat.le_of_ble_eq_true rfl, Nat.le_of_ble_eq_true rfl⟩ (fun v3 u1 H locs hw2 hP hD hS => ?_)
  obtain ⟨op4, tp5, wn6, fu7, en8, nw9, is10, rs11, uc12, X13⟩ := u1
  obtain ⟨hw2, h14⟩ := hw2
  replace h14 : Nx Xs X13 gh nd T nm wr lz dc fd md pr bk M rmm fu mu op4 tp5 wn6 fu7 rd on idn fl ct en8 nw9 is10 uc12 := h14
  obtain rfl : v3 = none := hw2
  have hP : va_P G.1 pCl (mW G h0 a (upd (upd (upd (upd (upd (upd (upd (upd (upd F 102 (nI op4)) 111 (nI tp5)) 115 (nI wn6)) 116 en8) 117 (nI fu7)) 118 rs11) 119 uc12) 125 nw9) 126 is10) X13) _ := mW_to (F := F) (l1 := [(102, (nI op)), (111, tx), (115, (nI wn)), (116, (-1)), (117, (nI fu)), (118, rs0), (119, uc0), (125, nw), (126, isn), (102, (nI op4)), (111, (nI tp5)), (115, (nI wn6)), (116, en8), (117, (nI fu7)), (118, rs11), (119, uc12), (125, nw9), (126, is10)]) (l2 := [(102, (nI op4)), (111, (nI tp5)), (115, (nI wn6)), (116, en8), (117, (nI fu7)), (118, rs11), (119, uc12), (125, nw9), (126, is10)]) (V := [(nI op4), (nI tp5), (nI wn6), en8, (nI fu7), rs11, uc12, nw9, is10, (nI op4), (nI tp5), (nI wn6), en8, (nI fu7), rs11, uc12, nw9, is10, (nI op4), (nI tp5), (nI wn6), en8, (nI fu7), rs11, uc12, nw9, is10]) rfl rfl rfl hP
  have hD : va_D A (mW G h0 a (upd (upd (upd (upd (upd (upd (upd (upd (upd F 102 (nI op4)) 111 (nI tp5)) 115 (nI wn6)) 116 en8) 117 (nI fu7)) 118 rs11) 119 uc12) 125 nw9) 126 is10) X13) := mW_D hD
  refine W.widen (k := 0) (n := 0) (Nat.le_of_ble_eq_true rfl) (Nat.le_of_ble_eq_true rfl) ?_
  refine W.eq (g2 := F0 m 8 ls []) rfl ?_
  have hz15 : Nx Xs X13 gh nd T nm wr lz dc fd md pr bk M rmm fu mu op4 tp5 wn6 fu7 rd on idn fl ct en8 nw9 is10 uc12 := h14
  have hP : va_P G.1 pCl (mW G h0 a (upd (upd (upd (upd (upd (upd (upd (upd (upd F 102 (nI op4)) 111 (nI tp5)) 115 (nI wn6)) 116 en8) 117 (nI fu7)) 118 rs11) 119 uc12) 125 nw9) 126 is10) X13) _ := hP
  have hD : va_D A (mW G h0 a (upd (upd (upd (upd (upd (upd (upd (upd (upd F 102 (nI op4)) 111 (nI tp5)) 115 (nI wn6)) 116 en8) 117 (nI fu7)) 118 rs11) 119 uc12) 125 nw9) 126 is10) X13) := mW_D hD
  exact W.vret hx hb hr (fun t9 ht9 hW9 => ⟨⟨_, (op4, tp5, wn6, fu7, en8, nw9, is10, rs11, uc12, X13), rfl, ⟨rfl, hz15⟩, by rw [ht9]; exact hP, hD⟩, hS.F ht9⟩) hS.2.2 dX12_raises_8
theorem dX12_field_0 : decode cX12_field 0 = .ok (.aload_n 0, 1) := by decide +kernel
theorem dX12_field_1 : decode cX12_field 1 = .ok (.invokevirtual 837, 3) := by decide +kernel
theorem dX12_field_4 : decode cX12_field 4 = .ok (.istore_n 2, 1) := by decide +kernel
theorem dX12_field_5 : decode cX12_field 5 = .ok (.iload_n 2, 1) := by decide +kernel
theorem dX12_field_6 : decode cX12_field 6 = .ok (.ifCond .ne 14, 3) := by decide +kernel
theorem dX12_field_9 : decode cX12_field 9 = .ok (.aload_n 0, 1) := by decide +kernel
theorem dX12_field_10 : decode cX12_field 10 = .ok (.iload_n 1, 1) := by decide +kernel
theorem dX12_field_11 : decode cX12_field 11 = .ok (.sipush 4001, 3) := by decide +kernel
theorem dX12_field_14 : decode cX12_field 14 = .ok (.invokevirtual 840, 3) := by decide +kernel
theorem dX12_field_17 : decode cX12_field 17 = .ok (.goto 33, 3) := by decide +kernel
theorem dX12_field_50 : decode cX12_field 50 = .ok (.return_, 1) := by decide +kernel
theorem dX12_field_20 : decode cX12_field 20 = .ok (.aload_n 0, 1) := by decide +kernel
theorem dX12_field_21 : decode cX12_field 21 = .ok (.iload_n 1, 1) := by decide +kernel
theorem dX12_field_22 : decode cX12_field 22 = .ok (.aload_n 0, 1) := by decide +kernel
theorem dX12_field_23 : decode cX12_field 23 = .ok (.getfield 193, 3) := by decide +kernel
theorem dX12_field_26 : decode cX12_field 26 = .ok (.aload_n 0, 1) := by decide +kernel
theorem dX12_field_27 : decode cX12_field 27 = .ok (.getfield 187, 3) := by decide +kernel
theorem dX12_field_30 : decode cX12_field 30 = .ok (.iload_n 2, 1) := by decide +kernel
theorem dX12_field_31 : decode cX12_field 31 = .ok (.iconst 1, 1) := by decide +kernel
theorem dX12_field_32 : decode cX12_field 32 = .ok (.isub, 1) := by decide +kernel
theorem dX12_field_33 : decode cX12_field 33 = .ok (.iaload, 1) := by decide +kernel
theorem dX12_field_34 : decode cX12_field 34 = .ok (.aload_n 0, 1) := by decide +kernel
theorem dX12_field_35 : decode cX12_field 35 = .ok (.getfield 171, 3) := by decide +kernel
theorem dX12_field_38 : decode cX12_field 38 = .ok (.aload_n 0, 1) := by decide +kernel
theorem dX12_field_39 : decode cX12_field 39 = .ok (.getfield 65, 3) := by decide +kernel
theorem dX12_field_42 : decode cX12_field 42 = .ok (.iload_n 1, 1) := by decide +kernel
theorem dX12_field_43 : decode cX12_field 43 = .ok (.iaload, 1) := by decide +kernel
theorem dX12_field_44 : decode cX12_field 44 = .ok (.iaload, 1) := by decide +kernel
theorem dX12_field_45 : decode cX12_field 45 = .ok (.iadd, 1) := by decide +kernel
theorem dX12_field_46 : decode cX12_field 46 = .ok (.iaload, 1) := by decide +kernel
theorem dX12_field_47 : decode cX12_field 47 = .ok (.invokevirtual 800, 3) := by decide +kernel
theorem hV_X12_pop : yX12_pop.cls = RX12 ∧ yX12_pop.cls ≠ "java/lang/invoke/MethodHandle" ∧ yX12_pop.cls ≠ "java/lang/invoke/VarHandle" ∧ (parseMethodDescriptor yX12_pop.desc).map (fun d => d.parameters.length) = some 0 := by decide +kernel
theorem hV_X12_raises : yX12_raises.cls = RX12 ∧ yX12_raises.cls ≠ "java/lang/invoke/MethodHandle" ∧ yX12_raises.cls ≠ "java/lang/invoke/VarHandle" ∧ (parseMethodDescriptor yX12_raises.desc).map (fun d => d.parameters.length) = some 2 := by decide +kernel
theorem hV_X12_gives : yX12_gives.cls = RX12 ∧ yX12_gives.cls ≠ "java/lang/invoke/MethodHandle" ∧ yX12_gives.cls ≠ "java/lang/invoke/VarHandle" ∧ (parseMethodDescriptor yX12_gives.desc).map (fun d => d.parameters.length) = some 2 := by decide +kernel
set_option maxHeartbeats 8000000 in
set_option maxRecDepth 100000 in
/-- field(p) -/
theorem R_field (l : Launch) (G : pT) (h0 : Nat) (a : Nat → Nat) (F : Nat → Int32) (B : Nat → Nat → Int32) (Xs : Nat → Nat → Int32) (gh : Nat → Nat → Nat) (nd : Nat) (T : Nat) (nm : Nat) (wr : Nat) (lz : Nat) (dc : Nat) (fd : Nat) (md : Nat) (pr : Nat) (bk : Nat) (M : MTb) (rmm : Nat) (op : Nat) (tp : Nat) (wn : Nat) (fu : Nat) (rd : Nat) (on : Nat) (idn : Nat) (fl : Nat) (ct : Nat) (n9 : Nat) (p9 : Nat) (u : Ps) (mt : Nat → Nat) (ps : Nat → Nat) (yy : Nat → Ps) (bf : Nat → Nat) (wf : Nat → Nat) (nw : Int32) (isn : Int32) (rs0 : Int32) (uc0 : Int32) (hR : Rn Xs B gh nd T nm wr lz dc fd md pr bk M rmm op tp wn fu rd on idn fl ct n9 true mt ps yy bf wf) (hp : Pv Xs (M.1 (mt (op - 1))) (rtP M (mt (op - 1))) p9 u) (hst : stq Xs p9 u n9 (yy (op - 1))) (hfu : fu ≤ 20000) (hkd : Xs 9 p9 = nI 12) (hnp : ¬ PlcP B p9) : PM l G pX0 yX12_field cX12_field 3 none ({ frames := 6, cells := 0, slots := 0, locals := 156 }) [.ref h0, .int (nI p9)] (mW G h0 a (upd (upd (upd (upd (upd (upd (upd (upd (upd F 102 (nI op)) 111 (nI tp)) 115 (nI wn)) 116 (-1)) 117 (nI fu)) 118 rs0) 119 uc0) 125 nw) 126 isn) B) (fun (v : Option Value) (u : Nat × Nat × Nat × Nat × Int32 × Int32 × Int32 × Int32 × Int32 × (Nat → Nat → Int32)) => v = none ∧ (Nx Xs u.2.2.2.2.2.2.2.2.2 gh nd T nm wr lz dc fd md pr bk M rmm fu (Phi gh ps op (rkN gh n9 true)) u.1 u.2.1 u.2.2.1 u.2.2.2.1 rd on idn fl ct u.2.2.2.2.1 u.2.2.2.2.2.1 u.2.2.2.2.2.2.1 u.2.2.2.2.2.2.2.2.1)) (fun u => (mW G h0 a (upd (upd (upd (upd (upd (upd (upd (upd (upd F 102 (nI u.1)) 111 (nI u.2.1)) 115 (nI u.2.2.1)) 116 u.2.2.2.2.1) 117 (nI u.2.2.2.1)) 118 u.2.2.2.2.2.2.2.1) 119 u.2.2.2.2.2.2.2.2.1) 125 u.2.2.2.2.2.1) 126 u.2.2.2.2.2.2.1) u.2.2.2.2.2.2.2.2.2)) := by
  intro sz
  refine Met.ofW (cc := cX12_field) (maxL := 3) (ret := none) (by decide) rfl ?_
  intro p e s m args below meth c s₁ B9 hml hv
  obtain ⟨rfl, hsz, hP, hD0, hE, hX⟩ := hv
  have hx := B9.exec
  have hb := B9.bytes
  have hr := B9.returns
  have hts := atoms_spec (ws := Cond.code yX12_field cX12_field 3 none :: pw) B9.pre
  have hq : ∀ w ∈ pw, w.before _ s = true := fun w h => hts w (List.mem_cons_of_mem _ h)
  have hown : s.vm.findClass RX12 = some m.cls := findClass_of_methodNamed B9.named
  have hlocks := B9.notSynchronized
  subst hsz
  have hD := hD0.self (sz := s.heap.size)
  have hA : ∀ q : Nat, s.heap.size ≤ q → va_A (mW G h0 a (upd (upd (upd (upd (upd (upd (upd (upd (upd F 102 (nI op)) 111 (nI tp)) 115 (nI wn)) 116 (-1)) 117 (nI fu)) 118 rs0) 119 uc0) 125 nw) 126 isn) B) s.heap.size q := fun q h => Or.inr h
  have hP : va_P G.1 pCl (mW G h0 a (upd (upd (upd (upd (upd (upd (upd (upd (upd F 102 (nI op)) 111 (nI tp)) 115 (nI wn)) 116 (-1)) 117 (nI fu)) 118 rs0) 119 uc0) 125 nw) 126 isn) B) s.heap := hP
  generalize va_A (mW G h0 a (upd (upd (upd (upd (upd (upd (upd (upd (upd F 102 (nI op)) 111 (nI tp)) 115 (nI wn)) 116 (-1)) 117 (nI fu)) 118 rs0) 119 uc0) 125 nw) 126 isn) B) s.heap.size = A at hD hE hA ⊢
  have hS : va_S A s.heap s.heap [] := va_S.rf
  have hl := lv_entry ([.ref h0, .int (nI p9)]) (n := 3) (Nat.le_of_ble_eq_true rfl)
  rw [lg_entry_eq]
  generalize (lg_sl ([.ref h0, .int (nI p9)]) ++ List.replicate (3 - (lg_sl ([.ref h0, .int (nI p9)])).length) Slot.unset).toArray = ls at hl ⊢
  have hl : lv_has ls 3 [(0, .ref h0), (1, .int (nI p9))] := hl
  have hPg := hR.pg
  have hbd := hPg.bd
  have hrm := hR.room
  have hpn := hR.pn hp
  obtain ⟨ht1, f9, t9, hm1, hm2, hm3, hm4, hm5, hm6⟩ := hR.k12 hp hst hkd
  have hm7 := TyC.le hm4 (by omega)
  refine lv_aload_n hx hb dX12_field_0 rfl (lv_at hl 0 rfl) ?_
  have hP : va_P G.1 pCl (mW G h0 a (upd (upd (upd (upd (upd (upd (upd (upd (upd (upd F 102 (nI op)) 111 (nI tp)) 115 (nI wn)) 116 (-1)) 117 (nI fu)) 118 rs0) 119 uc0) 125 nw) 126 isn) 111 (nI tp)) (updA B 68 (B 68))) _ := mW_to (F := F) (l1 := [(102, (nI op)), (111, (nI tp)), (115, (nI wn)), (116, (-1)), (117, (nI fu)), (118, rs0), (119, uc0), (125, nw), (126, isn)]) (l2 := [(102, (nI op)), (111, (nI tp)), (115, (nI wn)), (116, (-1)), (117, (nI fu)), (118, rs0), (119, uc0), (125, nw), (126, isn), (111, (nI tp))]) (V := [(nI op), (nI tp), (nI wn), (-1), (nI fu), rs0, uc0, nw, isn, (nI op), (nI tp), (nI wn), (-1), (nI fu), rs0, uc0, nw, isn, (nI tp)]) rfl rfl (show B = (updA B 68 (B 68)) from updsA_eq2 (F := B) (l1 := []) (l2 := [(68, (B 68))]) (V := [(B 68)]) rfl rfl) hP
  have hD : va_D A (mW G h0 a (upd (upd (upd (upd (upd (upd (upd (upd (upd (upd F 102 (nI op)) 111 (nI tp)) 115 (nI wn)) 116 (-1)) 117 (nI fu)) 118 rs0) 119 uc0) 125 nw) 126 isn) 111 (nI tp)) (updA B 68 (B 68))) := mW_D hD
  refine pc_V0 (G := G) (As := []) (rest := []) hx hb hml hown hq hE hX pX0_al hP hD hS hA hl.1 (R_pop l G h0 a (upd (upd (upd (upd (upd (upd (upd (upd (upd F 102 (nI op)) 111 (nI tp)) 115 (nI wn)) 116 (-1)) 117 (nI fu)) 118 rs0) 119 uc0) 125 nw) 126 isn) B tp (B 68) (by omega)) (gV pw_2082 pw_2083 pw_2084 pw_1523 pw_1965) hV_X12_pop 0 9 rfl rfl rfl rfl (Nat.le_of_ble_eq_true rfl) dX12_field_1 ⟨Nat.le_of_ble_eq_true rfl, Nat.le_of_ble_eq_true rfl⟩ ⟨Nat.le_of_ble_eq_true rfl, Nat.le_of_ble_eq_true rfl⟩ (fun v3 u1 H locs hw2 hP hD hS => ?_)
  obtain rfl : v3 = some (.int ((B 68) (tp - 1))) := hw2
  have hP : va_P G.1 pCl (mW G h0 a (upd (upd (upd (upd (upd (upd (upd (upd (upd F 102 (nI op)) 111 (nI (tp - 1))) 115 (nI wn)) 116 (-1)) 117 (nI fu)) 118 rs0) 119 uc0) 125 nw) 126 isn) B) _ := mW_to (F := F) (l1 := [(102, (nI op)), (111, (nI tp)), (115, (nI wn)), (116, (-1)), (117, (nI fu)), (118, rs0), (119, uc0), (125, nw), (126, isn), (111, (nI (tp - 1)))]) (l2 := [(102, (nI op)), (111, (nI (tp - 1))), (115, (nI wn)), (116, (-1)), (117, (nI fu)), (118, rs0), (119, uc0), (125, nw), (126, isn)]) (V := [(nI op), (nI (tp - 1)), (nI wn), (-1), (nI fu), rs0, uc0, nw, isn, (nI (tp - 1)), (nI op), (nI (tp - 1)), (nI wn), (-1), (nI fu), rs0, uc0, nw, isn]) rfl rfl (show (updA B 68 (B 68)) = B from updsA_eq2 (F := B) (l1 := [(68, (B 68))]) (l2 := []) (V := [(B 68)]) rfl rfl) hP
  have hD : va_D A (mW G h0 a (upd (upd (upd (upd (upd (upd (upd (upd (upd F 102 (nI op)) 111 (nI (tp - 1))) 115 (nI wn)) 116 (-1)) 117 (nI fu)) 118 rs0) 119 uc0) 125 nw) 126 isn) B) := mW_D hD
  refine W.widen (k := 0) (n := 0) (Nat.le_of_ble_eq_true rfl) (Nat.le_of_ble_eq_true rfl) ?_
  refine W.eq (g2 := F0 m 4 ls [.int ((B 68) (tp - 1))]) rfl ?_
  rcases hm6 with hz | ⟨o9, a9, g9, hv1, hv2, hv3, hv4, hv5, hv6⟩
  · refine lv_topi (fun x4 e5 => ?_)
    obtain rfl : x4 = 0 := e5.trans hz
    refine lv_istore_n (lv' := [(2, .int 0), (0, .ref h0), (1, .int (nI p9))]) hx hb dX12_field_4 rfl hl (by decide) rfl (fun ls hl => ?_)
    refine lv_iload_n hx hb dX12_field_5 rfl (lv_at hl 0 rfl) ?_
    refine lv_if_ne (tgt := 20) hx hb dX12_field_6 (by decide) (fun c6 => absurd c6 (by decide)) (fun c6 => ?_)
    refine lv_aload_n hx hb dX12_field_9 rfl (lv_at hl 1 rfl) ?_
    refine lv_iload_n hx hb dX12_field_10 rfl (lv_at hl 2 rfl) ?_
    refine lv_sipush (v := 4001) hx hb dX12_field_11 (by decide) ?_
    have hln7 := (Rn.lnP hR hp hst hkd (by omega) (by omega)).1
    have hP : va_P G.1 pCl (mW G h0 a (upd (upd (upd (upd (upd (upd (upd (upd (upd (upd (upd (upd (upd (upd (upd (upd (upd (upd F 102 (nI op)) 111 (nI (tp - 1))) 115 (nI wn)) 116 (-1)) 117 (nI fu)) 118 rs0) 119 uc0) 125 nw) 126 isn) 102 (nI op)) 111 (nI (tp - 1))) 115 (nI wn)) 116 (-1)) 117 (nI fu)) 118 rs0) 119 uc0) 125 nw) 126 isn) B) _ := mW_to (F := F) (l1 := [(102, (nI op)), (111, (nI (tp - 1))), (115, (nI wn)), (116, (-1)), (117, (nI fu)), (118, rs0), (119, uc0), (125, nw), (126, isn)]) (l2 := [(102, (nI op)), (111, (nI (tp - 1))), (115, (nI wn)), (116, (-1)), (117, (nI fu)), (118, rs0), (119, uc0), (125, nw), (126, isn), (102, (nI op)), (111, (nI (tp - 1))), (115, (nI wn)), (116, (-1)), (117, (nI fu)), (118, rs0), (119, uc0), (125, nw), (126, isn)]) (V := [(nI op), (nI (tp - 1)), (nI wn), (-1), (nI fu), rs0, uc0, nw, isn, (nI op), (nI (tp - 1)), (nI wn), (-1), (nI fu), rs0, uc0, nw, isn, (nI op), (nI (tp - 1)), (nI wn), (-1), (nI fu), rs0, uc0, nw, isn]) rfl rfl rfl hP
    have hD : va_D A (mW G h0 a (upd (upd (upd (upd (upd (upd (upd (upd (upd (upd (upd (upd (upd (upd (upd (upd (upd (upd F 102 (nI op)) 111 (nI (tp - 1))) 115 (nI wn)) 116 (-1)) 117 (nI fu)) 118 rs0) 119 uc0) 125 nw) 126 isn) 102 (nI op)) 111 (nI (tp - 1))) 115 (nI wn)) 116 (-1)) 117 (nI fu)) 118 rs0) 119 uc0) 125 nw) 126 isn) B) := mW_D hD
    refine pc_V0 (G := G) (As := [.int (nI p9), .int (nI 4001)]) (rest := []) hx hb hml hown hq hE hX pX0_al hP hD hS hA hl.1 (R_raises l G h0 a (upd (upd (upd (upd (upd (upd (upd (upd (upd F 102 (nI op)) 111 (nI (tp - 1))) 115 (nI wn)) 116 (-1)) 117 (nI fu)) 118 rs0) 119 uc0) 125 nw) 126 isn) B Xs gh nd T nm wr lz dc fd md pr bk M rmm (Phi gh ps op (rkN gh n9 true)) op wn fu rd on idn fl ct p9 4001 (4001 - 4000) mt ps (yyU yy (op - 1) u) bf wf (nI (tp - 1)) nw isn rs0 uc0 hln7 (by omega) (by omega) (Or.inr (by omega)) (clF_1 (by omega)) (by omega)) (gV pw_2054 pw_2055 pw_2056 pw_1523 pw_2053) hV_X12_raises 0 9 rfl rfl rfl rfl (Nat.le_of_ble_eq_true rfl) dX12_field_14 ⟨Nat.le_of_ble_eq_true rfl, Nat.le_of_ble_eq_true rfl⟩ ⟨Nat.le_of_ble_eq_true rfl, Nat.le_of_ble_eq_true rfl⟩ (fun v10 u8 H locs hw9 hP hD hS => ?_)
    obtain ⟨op11, tp12, wn13, fu14, en15, nw16, is17, rs18, uc19, X20⟩ := u8
    obtain ⟨hw9, h21⟩ := hw9
    replace h21 : Nx Xs X20 gh nd T nm wr lz dc fd md pr bk M rmm fu (Phi gh ps op (rkN gh n9 true)) op11 tp12 wn13 fu14 rd on idn fl ct en15 nw16 is17 uc19 := h21
    obtain rfl : v10 = none := hw9
    have hP : va_P G.1 pCl (mW G h0 a (upd (upd (upd (upd (upd (upd (upd (upd (upd F 102 (nI op11)) 111 (nI tp12)) 115 (nI wn13)) 116 en15) 117 (nI fu14)) 118 rs18) 119 uc19) 125 nw16) 126 is17) X20) _ := mW_to (F := F) (l1 := [(102, (nI op)), (111, (nI (tp - 1))), (115, (nI wn)), (116, (-1)), (117, (nI fu)), (118, rs0), (119, uc0), (125, nw), (126, isn), (102, (nI op11)), (111, (nI tp12)), (115, (nI wn13)), (116, en15), (117, (nI fu14)), (118, rs18), (119, uc19), (125, nw16), (126, is17)]) (l2 := [(102, (nI op11)), (111, (nI tp12)), (115, (nI wn13)), (116, en15), (117, (nI fu14)), (118, rs18), (119, uc19), (125, nw16), (126, is17)]) (V := [(nI op11), (nI tp12), (nI wn13), en15, (nI fu14), rs18, uc19, nw16, is17, (nI op11), (nI tp12), (nI wn13), en15, (nI fu14), rs18, uc19, nw16, is17, (nI op11), (nI tp12), (nI wn13), en15, (nI fu14), rs18, uc19, nw16, is17]) rfl rfl rfl hP
    have hD : va_D A (mW G h0 a (upd (upd (upd (upd (upd (upd (upd (upd (upd F 102 (nI op11)) 111 (nI tp12)) 115 (nI wn13)) 116 en15) 117 (nI fu14)) 118 rs18) 119 uc19) 125 nw16) 126 is17) X20) := mW_D hD
    refine W.widen (k := 0) (n := 0) (Nat.le_of_ble_eq_true rfl) (Nat.le_of_ble_eq_true rfl) ?_
    refine W.eq (g2 := F0 m 17 ls []) rfl ?_
    refine lv_goto (tgt := 50) hx hb dX12_field_17 (by decide) ?_
    have hz22 : Nx Xs X20 gh nd T nm wr lz dc fd md pr bk M rmm fu (Phi gh ps op (rkN gh n9 true)) op11 tp12 wn13 fu14 rd on idn fl ct en15 nw16 is17 uc19 := h21
    have hP : va_P G.1 pCl (mW G h0 a (upd (upd (upd (upd (upd (upd (upd (upd (upd F 102 (nI op11)) 111 (nI tp12)) 115 (nI wn13)) 116 en15) 117 (nI fu14)) 118 rs18) 119 uc19) 125 nw16) 126 is17) X20) _ := hP
    have hD : va_D A (mW G h0 a (upd (upd (upd (upd (upd (upd (upd (upd (upd F 102 (nI op11)) 111 (nI tp12)) 115 (nI wn13)) 116 en15) 117 (nI fu14)) 118 rs18) 119 uc19) 125 nw16) 126 is17) X20) := mW_D hD
    exact W.vret hx hb hr (fun t9 ht9 hW9 => ⟨⟨_, (op11, tp12, wn13, fu14, en15, nw16, is17, rs18, uc19, X20), rfl, ⟨rfl, hz22⟩, by rw [ht9]; exact hP, hD⟩, hS.F ht9⟩) hS.2.2 dX12_field_50
  · refine lv_topi (fun x23 e24 => ?_)
    obtain rfl : x23 = nI (o9 + 1) := e24.trans hv1
    refine lv_istore_n (lv' := [(2, .int (nI (o9 + 1))), (0, .ref h0), (1, .int (nI p9))]) hx hb dX12_field_4 rfl hl (by decide) rfl (fun ls hl => ?_)
    refine lv_iload_n hx hb dX12_field_5 rfl (lv_at hl 0 rfl) ?_
    refine lv_if_ne (tgt := 20) hx hb dX12_field_6 (by decide) (fun c25 => ?_) (fun c25 => (by have n26 : (o9 + 1) = 0 := (nI_eq (a := (o9 + 1)) (b := 0) (by omega) (by omega)).mp c25; omega))
    refine lv_aload_n hx hb dX12_field_20 rfl (lv_at hl 1 rfl) ?_
    refine lv_iload_n hx hb dX12_field_21 rfl (lv_at hl 2 rfl) ?_
    refine lv_aload_n hx hb dX12_field_22 rfl (lv_at hl 1 rfl) ?_
    refine r_get (v := .ref (a 60)) hx hb hown hq hE hP 96 193 tFX12_96 (by decide) pw_1492 rfl dX12_field_23 ?_
    refine lv_aload_n hx hb dX12_field_26 rfl (lv_at hl 1 rfl) ?_
    refine r_get (v := .ref (a 58)) hx hb hown hq hE hP 94 187 tFX12_94 (by decide) pw_1490 rfl dX12_field_27 ?_
    refine lv_iload_n hx hb dX12_field_30 rfl (lv_at hl 0 rfl) ?_
    refine lv_iconst (v := 1) hx hb dX12_field_31 (by decide) ?_
    refine lv_isub hx hb dX12_field_32 ?_
    refine lv_topi (fun x27 e28 => ?_)
    obtain rfl : x27 = nI ((o9 + 1) - 1) := e28.trans (nI_subN (a := 1) (b := (o9 + 1)) (by omega))
    refine r_ldi (f := (B 58)) (j := ((o9 + 1) - 1)) hx hb hE hP 58 (ma_58 G a _) rfl (by omega) (by decide) dX12_field_33 ?_
    refine lv_topi (fun x29 e30 => ?_)
    obtain rfl : x29 = nI a9 := e30.trans (by rw [show ((o9 + 1) - 1) = o9 by omega]; exact hv3)
    refine lv_aload_n hx hb dX12_field_34 rfl (lv_at hl 1 rfl) ?_
    refine r_get (v := .ref (a 53)) hx hb hown hq hE hP 89 171 tFX12_89 (by decide) pw_1484 rfl dX12_field_35 ?_
    refine lv_aload_n hx hb dX12_field_38 rfl (lv_at hl 1 rfl) ?_
    refine r_get (v := .ref (a 18)) hx hb hown hq hE hP 26 65 tFX12_26 (by decide) pw_1448 rfl dX12_field_39 ?_
    refine lv_iload_n hx hb dX12_field_42 rfl (lv_at hl 2 rfl) ?_
    refine r_ldi (f := (B 18)) (j := p9) hx hb hE hP 18 (ma_18 G a _) rfl (by omega) (by decide) dX12_field_43 ?_
    refine lv_topi (fun x31 e32 => ?_)
    obtain rfl : x31 = nI f9 := e32.trans hm1
    refine r_ldi (f := (B 53)) (j := f9) hx hb hE hP 53 (ma_53 G a _) rfl (by omega) (by decide) dX12_field_44 ?_
    refine lv_topi (fun x33 e34 => ?_)
    obtain rfl : x33 = nI g9 := e34.trans hv4
    refine lv_iadd hx hb dX12_field_45 ?_
    refine lv_topi (fun x35 e36 => ?_)
    obtain rfl : x35 = nI (a9 + g9) := e36.trans (nI_add (a9) (g9))
    refine r_ldi (f := (B 60)) (j := (a9 + g9)) hx hb hE hP 60 (ma_60 G a _) rfl (by omega) (by decide) dX12_field_46 ?_
    have hP : va_P G.1 pCl (mW G h0 a (upd (upd (upd (upd (upd (upd (upd (upd (upd (upd F 102 (nI op)) 111 (nI (tp - 1))) 115 (nI wn)) 116 (-1)) 117 (nI fu)) 118 rs0) 119 uc0) 125 nw) 126 isn) 111 (nI (tp - 1))) (updA (updA B 68 (B 68)) 69 (B 69))) _ := mW_to (F := F) (l1 := [(102, (nI op)), (111, (nI (tp - 1))), (115, (nI wn)), (116, (-1)), (117, (nI fu)), (118, rs0), (119, uc0), (125, nw), (126, isn)]) (l2 := [(102, (nI op)), (111, (nI (tp - 1))), (115, (nI wn)), (116, (-1)), (117, (nI fu)), (118, rs0), (119, uc0), (125, nw), (126, isn), (111, (nI (tp - 1)))]) (V := [(nI op), (nI (tp - 1)), (nI wn), (-1), (nI fu), rs0, uc0, nw, isn, (nI op), (nI (tp - 1)), (nI wn), (-1), (nI fu), rs0, uc0, nw, isn, (nI (tp - 1))]) rfl rfl (show B = (updA (updA B 68 (B 68)) 69 (B 69)) from updsA_eq2 (F := B) (l1 := []) (l2 := [(68, (B 68)), (69, (B 69))]) (V := [(B 68), (B 69)]) rfl rfl) hP
    have hD : va_D A (mW G h0 a (upd (upd (upd (upd (upd (upd (upd (upd (upd (upd F 102 (nI op)) 111 (nI (tp - 1))) 115 (nI wn)) 116 (-1)) 117 (nI fu)) 118 rs0) 119 uc0) 125 nw) 126 isn) 111 (nI (tp - 1))) (updA (updA B 68 (B 68)) 69 (B 69))) := mW_D hD
    refine pc_V0 (G := G) (As := [.int (nI p9), .int ((B 60) (a9 + g9))]) (rest := []) hx hb hml hown hq hE hX pX0_al hP hD hS hA hl.1 (R_gives l G h0 a (upd (upd (upd (upd (upd (upd (upd (upd (upd F 102 (nI op)) 111 (nI (tp - 1))) 115 (nI wn)) 116 (-1)) 117 (nI fu)) 118 rs0) 119 uc0) 125 nw) 126 isn) B p9 t9 (tp - 1) ((B 60) (a9 + g9)) (B 68) (B 69) (by omega) hm3 (by omega) (by omega)) (gV pw_2069 pw_2070 pw_2071 pw_1523 pw_2006) hV_X12_gives 0 9 rfl rfl rfl rfl (Nat.le_of_ble_eq_true rfl) dX12_field_47 ⟨Nat.le_of_ble_eq_true rfl, Nat.le_of_ble_eq_true rfl⟩ ⟨Nat.le_of_ble_eq_true rfl, Nat.le_of_ble_eq_true rfl⟩ (fun v39 u37 H locs hw38 hP hD hS => ?_)
    obtain ⟨b40, rf41⟩ := u37
    obtain ⟨hw38, h42, h43⟩ := hw38
    replace h42 : rf41 = upd (B 69) (tp - 1) (nI b40) := h42
    replace h43 : b40 ≤ 1 ∧ 3 * b40 ≤ t9 ∧ t9 ≤ 2 + 9000 * b40 := h43
    obtain rfl : v39 = none := hw38
    have hP : va_P G.1 pCl (mW G h0 a (upd (upd (upd (upd (upd (upd (upd (upd (upd F 102 (nI op)) 111 (nI ((tp - 1) + 1))) 115 (nI wn)) 116 (-1)) 117 (nI fu)) 118 rs0) 119 uc0) 125 (nI p9)) 126 0) (updA (updA B 68 (upd (B 68) (tp - 1) ((B 60) (a9 + g9)))) 69 rf41)) _ := mW_to (F := F) (l1 := [(102, (nI op)), (111, (nI (tp - 1))), (115, (nI wn)), (116, (-1)), (117, (nI fu)), (118, rs0), (119, uc0), (125, nw), (126, isn), (111, (nI ((tp - 1) + 1))), (125, (nI p9)), (126, 0)]) (l2 := [(102, (nI op)), (111, (nI ((tp - 1) + 1))), (115, (nI wn)), (116, (-1)), (117, (nI fu)), (118, rs0), (119, uc0), (125, (nI p9)), (126, 0)]) (V := [(nI op), (nI ((tp - 1) + 1)), (nI wn), (-1), (nI fu), rs0, uc0, (nI p9), 0, (nI ((tp - 1) + 1)), (nI p9), 0, (nI op), (nI ((tp - 1) + 1)), (nI wn), (-1), (nI fu), rs0, uc0, (nI p9), 0]) rfl rfl rfl hP
    have hD : va_D A (mW G h0 a (upd (upd (upd (upd (upd (upd (upd (upd (upd F 102 (nI op)) 111 (nI ((tp - 1) + 1))) 115 (nI wn)) 116 (-1)) 117 (nI fu)) 118 rs0) 119 uc0) 125 (nI p9)) 126 0) (updA (updA B 68 (upd (B 68) (tp - 1) ((B 60) (a9 + g9)))) 69 rf41)) := mW_D hD
    refine W.widen (k := 0) (n := 0) (Nat.le_of_ble_eq_true rfl) (Nat.le_of_ble_eq_true rfl) ?_
    refine W.eq (g2 := F0 m 50 ls []) rfl ?_
    obtain rfl : rf41 = _ := h42
    have hP : va_P G.1 pCl (mW G h0 a (upd (upd (upd (upd (upd (upd (upd (upd (upd F 102 (nI op)) 111 (nI ((tp - 1) + 1))) 115 (nI wn)) 116 (-1)) 117 (nI fu)) 118 rs0) 119 uc0) 125 (nI p9)) 126 0) (updA (updA B 68 (upd (B 68) (tp - 1) ((B 60) (a9 + g9)))) 69 (upd (B 69) (tp - 1) (nI b40)))) _ := hP
    have hD : va_D A (mW G h0 a (upd (upd (upd (upd (upd (upd (upd (upd (upd F 102 (nI op)) 111 (nI ((tp - 1) + 1))) 115 (nI wn)) 116 (-1)) 117 (nI fu)) 118 rs0) 119 uc0) 125 (nI p9)) 126 0) (updA (updA B 68 (upd (B 68) (tp - 1) ((B 60) (a9 + g9)))) 69 (upd (B 69) (tp - 1) (nI b40)))) := mW_D hD
    have hz44 : Nx Xs (updA (updA B 68 (upd (B 68) (tp - 1) ((B 60) (a9 + g9)))) 69 (upd (B 69) (tp - 1) (nI b40))) gh nd T nm wr lz dc fd md pr bk M rmm fu (Phi gh ps op (rkN gh n9 true)) op ((tp - 1) + 1) wn fu rd on idn fl ct ((-1) : Int32) (nI p9) (0 : Int32) uc0 := (hR.givesUp hp hst hkd (by omega) (fun _ => hR.npl hp hnp) hm3 hm4 hm5 hv6 h43 (by omega))
    have hP : va_P G.1 pCl (mW G h0 a (upd (upd (upd (upd (upd (upd (upd (upd (upd F 102 (nI op)) 111 (nI ((tp - 1) + 1))) 115 (nI wn)) 116 ((-1) : Int32)) 117 (nI fu)) 118 rs0) 119 uc0) 125 (nI p9)) 126 (0 : Int32)) (updA (updA B 68 (upd (B 68) (tp - 1) ((B 60) (a9 + g9)))) 69 (upd (B 69) (tp - 1) (nI b40)))) _ := mW_to (F := F) (l1 := [(102, (nI op)), (111, (nI ((tp - 1) + 1))), (115, (nI wn)), (116, (-1)), (117, (nI fu)), (118, rs0), (119, uc0), (125, (nI p9)), (126, 0)]) (l2 := [(102, (nI op)), (111, (nI ((tp - 1) + 1))), (115, (nI wn)), (116, ((-1) : Int32)), (117, (nI fu)), (118, rs0), (119, uc0), (125, (nI p9)), (126, (0 : Int32))]) (V := [(nI op), (nI ((tp - 1) + 1)), (nI wn), ((-1) : Int32), (nI fu), rs0, uc0, (nI p9), (0 : Int32), (nI op), (nI ((tp - 1) + 1)), (nI wn), ((-1) : Int32), (nI fu), rs0, uc0, (nI p9), (0 : Int32)]) rfl rfl rfl hP
    have hD : va_D A (mW G h0 a (upd (upd (upd (upd (upd (upd (upd (upd (upd F 102 (nI op)) 111 (nI ((tp - 1) + 1))) 115 (nI wn)) 116 ((-1) : Int32)) 117 (nI fu)) 118 rs0) 119 uc0) 125 (nI p9)) 126 (0 : Int32)) (updA (updA B 68 (upd (B 68) (tp - 1) ((B 60) (a9 + g9)))) 69 (upd (B 69) (tp - 1) (nI b40)))) := mW_D hD
    exact W.vret hx hb hr (fun t9 ht9 hW9 => ⟨⟨_, (op, ((tp - 1) + 1), wn, fu, ((-1) : Int32), (nI p9), (0 : Int32), rs0, uc0, (updA (updA B 68 (upd (B 68) (tp - 1) ((B 60) (a9 + g9)))) 69 (upd (B 69) (tp - 1) (nI b40)))), rfl, ⟨rfl, hz44⟩, by rw [ht9]; exact hP, hD⟩, hS.F ht9⟩) hS.2.2 dX12_field_50
theorem dX12_element_0 : decode cX12_element 0 = .ok (.aload_n 0, 1) := by decide +kernel
theorem dX12_element_1 : decode cX12_element 1 = .ok (.invokevirtual 837, 3) := by decide +kernel
theorem dX12_element_4 : decode cX12_element 4 = .ok (.istore_n 2, 1) := by decide +kernel
theorem dX12_element_5 : decode cX12_element 5 = .ok (.aload_n 0, 1) := by decide +kernel
theorem dX12_element_6 : decode cX12_element 6 = .ok (.invokevirtual 837, 3) := by decide +kernel
theorem dX12_element_9 : decode cX12_element 9 = .ok (.istore_n 3, 1) := by decide +kernel
theorem dX12_element_10 : decode cX12_element 10 = .ok (.iload_n 3, 1) := by decide +kernel
theorem dX12_element_11 : decode cX12_element 11 = .ok (.ifCond .ne 14, 3) := by decide +kernel
theorem dX12_element_14 : decode cX12_element 14 = .ok (.aload_n 0, 1) := by decide +kernel
theorem dX12_element_15 : decode cX12_element 15 = .ok (.iload_n 1, 1) := by decide +kernel
theorem dX12_element_16 : decode cX12_element 16 = .ok (.sipush 4001, 3) := by decide +kernel
theorem dX12_element_19 : decode cX12_element 19 = .ok (.invokevirtual 840, 3) := by decide +kernel
theorem dX12_element_22 : decode cX12_element 22 = .ok (.goto 50, 3) := by decide +kernel
theorem dX12_element_72 : decode cX12_element 72 = .ok (.return_, 1) := by decide +kernel
theorem dX12_element_25 : decode cX12_element 25 = .ok (.iload_n 2, 1) := by decide +kernel
theorem dX12_element_26 : decode cX12_element 26 = .ok (.ifCond .lt 15, 3) := by decide +kernel
theorem dX12_element_41 : decode cX12_element 41 = .ok (.aload_n 0, 1) := by decide +kernel
theorem dX12_element_42 : decode cX12_element 42 = .ok (.iload_n 1, 1) := by decide +kernel
theorem dX12_element_43 : decode cX12_element 43 = .ok (.sipush 4004, 3) := by decide +kernel
theorem dX12_element_46 : decode cX12_element 46 = .ok (.invokevirtual 840, 3) := by decide +kernel
theorem dX12_element_49 : decode cX12_element 49 = .ok (.goto 23, 3) := by decide +kernel
theorem dX12_element_29 : decode cX12_element 29 = .ok (.iload_n 2, 1) := by decide +kernel
theorem dX12_element_30 : decode cX12_element 30 = .ok (.aload_n 0, 1) := by decide +kernel
theorem dX12_element_31 : decode cX12_element 31 = .ok (.getfield 184, 3) := by decide +kernel
theorem dX12_element_34 : decode cX12_element 34 = .ok (.iload_n 3, 1) := by decide +kernel
theorem dX12_element_35 : decode cX12_element 35 = .ok (.iconst 1, 1) := by decide +kernel
theorem dX12_element_36 : decode cX12_element 36 = .ok (.isub, 1) := by decide +kernel
theorem dX12_element_37 : decode cX12_element 37 = .ok (.iaload, 1) := by decide +kernel
theorem dX12_element_38 : decode cX12_element 38 = .ok (.if_icmp .lt 14, 3) := by decide +kernel
theorem dX12_element_52 : decode cX12_element 52 = .ok (.aload_n 0, 1) := by decide +kernel
theorem dX12_element_53 : decode cX12_element 53 = .ok (.iload_n 1, 1) := by decide +kernel
theorem dX12_element_54 : decode cX12_element 54 = .ok (.aload_n 0, 1) := by decide +kernel
theorem dX12_element_55 : decode cX12_element 55 = .ok (.getfield 193, 3) := by decide +kernel
theorem dX12_element_58 : decode cX12_element 58 = .ok (.aload_n 0, 1) := by decide +kernel
theorem dX12_element_59 : decode cX12_element 59 = .ok (.getfield 187, 3) := by decide +kernel
theorem dX12_element_62 : decode cX12_element 62 = .ok (.iload_n 3, 1) := by decide +kernel
theorem dX12_element_63 : decode cX12_element 63 = .ok (.iconst 1, 1) := by decide +kernel
theorem dX12_element_64 : decode cX12_element 64 = .ok (.isub, 1) := by decide +kernel
theorem dX12_element_65 : decode cX12_element 65 = .ok (.iaload, 1) := by decide +kernel
theorem dX12_element_66 : decode cX12_element 66 = .ok (.iload_n 2, 1) := by decide +kernel
theorem dX12_element_67 : decode cX12_element 67 = .ok (.iadd, 1) := by decide +kernel
theorem dX12_element_68 : decode cX12_element 68 = .ok (.iaload, 1) := by decide +kernel
theorem dX12_element_69 : decode cX12_element 69 = .ok (.invokevirtual 800, 3) := by decide +kernel
set_option maxHeartbeats 8000000 in
set_option maxRecDepth 100000 in
/-- element(p) -/
theorem R_element (l : Launch) (G : pT) (h0 : Nat) (a : Nat → Nat) (F : Nat → Int32) (B : Nat → Nat → Int32) (Xs : Nat → Nat → Int32) (gh : Nat → Nat → Nat) (nd : Nat) (T : Nat) (nm : Nat) (wr : Nat) (lz : Nat) (dc : Nat) (fd : Nat) (md : Nat) (pr : Nat) (bk : Nat) (M : MTb) (rmm : Nat) (op : Nat) (tp : Nat) (wn : Nat) (fu : Nat) (rd : Nat) (on : Nat) (idn : Nat) (fl : Nat) (ct : Nat) (n9 : Nat) (p9 : Nat) (u : Ps) (mt : Nat → Nat) (ps : Nat → Nat) (yy : Nat → Ps) (bf : Nat → Nat) (wf : Nat → Nat) (nw : Int32) (isn : Int32) (rs0 : Int32) (uc0 : Int32) (hR : Rn Xs B gh nd T nm wr lz dc fd md pr bk M rmm op tp wn fu rd on idn fl ct n9 true mt ps yy bf wf) (hp : Pv Xs (M.1 (mt (op - 1))) (rtP M (mt (op - 1))) p9 u) (hst : stq Xs p9 u n9 (yy (op - 1))) (hfu : fu ≤ 20000) (hkd : Xs 9 p9 = nI 15) (hnp : ¬ PlcP B p9) (hns : ¬ Xs 12 p9 = nI n9) : PM l G pX0 yX12_element cX12_element 4 none ({ frames := 6, cells := 0, slots := 0, locals := 156 }) [.ref h0, .int (nI p9)] (mW G h0 a (upd (upd (upd (upd (upd (upd (upd (upd (upd F 102 (nI op)) 111 (nI tp)) 115 (nI wn)) 116 (-1)) 117 (nI fu)) 118 rs0) 119 uc0) 125 nw) 126 isn) B) (fun (v : Option Value) (u : Nat × Nat × Nat × Nat × Int32 × Int32 × Int32 × Int32 × Int32 × (Nat → Nat → Int32)) => v = none ∧ (Nx Xs u.2.2.2.2.2.2.2.2.2 gh nd T nm wr lz dc fd md pr bk M rmm fu (Phi gh ps op (rkN gh n9 true)) u.1 u.2.1 u.2.2.1 u.2.2.2.1 rd on idn fl ct u.2.2.2.2.1 u.2.2.2.2.2.1 u.2.2.2.2.2.2.1 u.2.2.2.2.2.2.2.2.1)) (fun u => (mW G h0 a (upd (upd (upd (upd (upd (upd (upd (upd (upd F 102 (nI u.1)) 111 (nI u.2.1)) 115 (nI u.2.2.1)) 116 u.2.2.2.2.1) 117 (nI u.2.2.2.1)) 118 u.2.2.2.2.2.2.2.1) 119 u.2.2.2.2.2.2.2.2.1) 125 u.2.2.2.2.2.1) 126 u.2.2.2.2.2.2.1) u.2.2.2.2.2.2.2.2.2)) := by
  intro sz
  refine Met.ofW (cc := cX12_element) (maxL := 4) (ret := none) (by decide) rfl ?_
  intro p e s m args below meth c s₁ B9 hml hv
  obtain ⟨rfl, hsz, hP, hD0, hE, hX⟩ := hv
  have hx := B9.exec
  have hb := B9.bytes
  have hr := B9.returns
  have hts := atoms_spec (ws := Cond.code yX12_element cX12_element 4 none :: pw) B9.pre
  have hq : ∀ w ∈ pw, w.before _ s = true := fun w h => hts w (List.mem_cons_of_mem _ h)
  have hown : s.vm.findClass RX12 = some m.cls := findClass_of_methodNamed B9.named
  have hlocks := B9.notSynchronized
  subst hsz
  have hD := hD0.self (sz := s.heap.size)
  have hA : ∀ q : Nat, s.heap.size ≤ q → va_A (mW G h0 a (upd (upd (upd (upd (upd (upd (upd (upd (upd F 102 (nI op)) 111 (nI tp)) 115 (nI wn)) 116 (-1)) 117 (nI fu)) 118 rs0) 119 uc0) 125 nw) 126 isn) B) s.heap.size q := fun q h => Or.inr h
  have hP : va_P G.1 pCl (mW G h0 a (upd (upd (upd (upd (upd (upd (upd (upd (upd F 102 (nI op)) 111 (nI tp)) 115 (nI wn)) 116 (-1)) 117 (nI fu)) 118 rs0) 119 uc0) 125 nw) 126 isn) B) s.heap := hP
  generalize va_A (mW G h0 a (upd (upd (upd (upd (upd (upd (upd (upd (upd F 102 (nI op)) 111 (nI tp)) 115 (nI wn)) 116 (-1)) 117 (nI fu)) 118 rs0) 119 uc0) 125 nw) 126 isn) B) s.heap.size = A at hD hE hA ⊢
  have hS : va_S A s.heap s.heap [] := va_S.rf
  have hl := lv_entry ([.ref h0, .int (nI p9)]) (n := 4) (Nat.le_of_ble_eq_true rfl)
  rw [lg_entry_eq]
  generalize (lg_sl ([.ref h0, .int (nI p9)]) ++ List.replicate (4 - (lg_sl ([.ref h0, .int (nI p9)])).length) Slot.unset).toArray = ls at hl ⊢
  have hl : lv_has ls 4 [(0, .ref h0), (1, .int (nI p9))] := hl
  have hPg := hR.pg
  have hbd := hPg.bd
  have hrm := hR.room
  have hpn := hR.pn hp
  obtain ⟨ht1, t9, hm3, hm4, hm5, hm6⟩ := hR.k15 hp hst hkd hns
  have hm7 := TyC.le hm4 (by omega)
  refine lv_aload_n hx hb dX12_element_0 rfl (lv_at hl 0 rfl) ?_
  have hP : va_P G.1 pCl (mW G h0 a (upd (upd (upd (upd (upd (upd (upd (upd (upd (upd F 102 (nI op)) 111 (nI tp)) 115 (nI wn)) 116 (-1)) 117 (nI fu)) 118 rs0) 119 uc0) 125 nw) 126 isn) 111 (nI tp)) (updA B 68 (B 68))) _ := mW_to (F := F) (l1 := [(102, (nI op)), (111, (nI tp)), (115, (nI wn)), (116, (-1)), (117, (nI fu)), (118, rs0), (119, uc0), (125, nw), (126, isn)]) (l2 := [(102, (nI op)), (111, (nI tp)), (115, (nI wn)), (116, (-1)), (117, (nI fu)), (118, rs0), (119, uc0), (125, nw), (126, isn), (111, (nI tp))]) (V := [(nI op), (nI tp), (nI wn), (-1), (nI fu), rs0, uc0, nw, isn, (nI op), (nI tp), (nI wn), (-1), (nI fu), rs0, uc0, nw, isn, (nI tp)]) rfl rfl (show B = (updA B 68 (B 68)) from updsA_eq2 (F := B) (l1 := []) (l2 := [(68, (B 68))]) (V := [(B 68)]) rfl rfl) hP
  have hD : va_D A (mW G h0 a (upd (upd (upd (upd (upd (upd (upd (upd (upd (upd F 102 (nI op)) 111 (nI tp)) 115 (nI wn)) 116 (-1)) 117 (nI fu)) 118 rs0) 119 uc0) 125 nw) 126 isn) 111 (nI tp)) (updA B 68 (B 68))) := mW_D hD
  refine pc_V0 (G := G) (As := []) (rest := []) hx hb hml hown hq hE hX pX0_al hP hD hS hA hl.1 (R_pop l G h0 a (upd (upd (upd (upd (upd (upd (upd (upd (upd F 102 (nI op)) 111 (nI tp)) 115 (nI wn)) 116 (-1)) 117 (nI fu)) 118 rs0) 119 uc0) 125 nw) 126 isn) B tp (B 68) (by omega)) (gV pw_2082 pw_2083 pw_2084 pw_1523 pw_1965) hV_X12_pop 0 9 rfl rfl rfl rfl (Nat.le_of_ble_eq_true rfl) dX12_element_1 ⟨Nat.le_of_ble_eq_true rfl, Nat.le_of_ble_eq_true rfl⟩ ⟨Nat.le_of_ble_eq_true rfl, Nat.le_of_ble_eq_true rfl⟩ (fun v3 u1 H locs hw2 hP hD hS => ?_)
  obtain rfl : v3 = some (.int ((B 68) (tp - 1))) := hw2
  have hP : va_P G.1 pCl (mW G h0 a (upd (upd (upd (upd (upd (upd (upd (upd (upd F 102 (nI op)) 111 (nI (tp - 1))) 115 (nI wn)) 116 (-1)) 117 (nI fu)) 118 rs0) 119 uc0) 125 nw) 126 isn) B) _ := mW_to (F := F) (l1 := [(102, (nI op)), (111, (nI tp)), (115, (nI wn)), (116, (-1)), (117, (nI fu)), (118, rs0), (119, uc0), (125, nw), (126, isn), (111, (nI (tp - 1)))]) (l2 := [(102, (nI op)), (111, (nI (tp - 1))), (115, (nI wn)), (116, (-1)), (117, (nI fu)), (118, rs0), (119, uc0), (125, nw), (126, isn)]) (V := [(nI op), (nI (tp - 1)), (nI wn), (-1), (nI fu), rs0, uc0, nw, isn, (nI (tp - 1)), (nI op), (nI (tp - 1)), (nI wn), (-1), (nI fu), rs0, uc0, nw, isn]) rfl rfl (show (updA B 68 (B 68)) = B from updsA_eq2 (F := B) (l1 := [(68, (B 68))]) (l2 := []) (V := [(B 68)]) rfl rfl) hP
  have hD : va_D A (mW G h0 a (upd (upd (upd (upd (upd (upd (upd (upd (upd F 102 (nI op)) 111 (nI (tp - 1))) 115 (nI wn)) 116 (-1)) 117 (nI fu)) 118 rs0) 119 uc0) 125 nw) 126 isn) B) := mW_D hD
  refine W.widen (k := 0) (n := 0) (Nat.le_of_ble_eq_true rfl) (Nat.le_of_ble_eq_true rfl) ?_
  refine W.eq (g2 := F0 m 4 ls [.int ((B 68) (tp - 1))]) rfl ?_
  refine lv_istore_n (lv' := [(2, .int ((B 68) (tp - 1))), (0, .ref h0), (1, .int (nI p9))]) hx hb dX12_element_4 rfl hl (by decide) rfl (fun ls hl => ?_)
  refine lv_aload_n hx hb dX12_element_5 rfl (lv_at hl 1 rfl) ?_
  have hP : va_P G.1 pCl (mW G h0 a (upd (upd (upd (upd (upd (upd (upd (upd (upd (upd F 102 (nI op)) 111 (nI (tp - 1))) 115 (nI wn)) 116 (-1)) 117 (nI fu)) 118 rs0) 119 uc0) 125 nw) 126 isn) 111 (nI (tp - 1))) (updA B 68 (B 68))) _ := mW_to (F := F) (l1 := [(102, (nI op)), (111, (nI (tp - 1))), (115, (nI wn)), (116, (-1)), (117, (nI fu)), (118, rs0), (119, uc0), (125, nw), (126, isn)]) (l2 := [(102, (nI op)), (111, (nI (tp - 1))), (115, (nI wn)), (116, (-1)), (117, (nI fu)), (118, rs0), (119, uc0), (125, nw), (126, isn), (111, (nI (tp - 1)))]) (V := [(nI op), (nI (tp - 1)), (nI wn), (-1), (nI fu), rs0, uc0, nw, isn, (nI op), (nI (tp - 1)), (nI wn), (-1), (nI fu), rs0, uc0, nw, isn, (nI (tp - 1))]) rfl rfl (show B = (updA B 68 (B 68)) from updsA_eq2 (F := B) (l1 := []) (l2 := [(68, (B 68))]) (V := [(B 68)]) rfl rfl) hP
  have hD : va_D A (mW G h0 a (upd (upd (upd (upd (upd (upd (upd (upd (upd (upd F 102 (nI op)) 111 (nI (tp - 1))) 115 (nI wn)) 116 (-1)) 117 (nI fu)) 118 rs0) 119 uc0) 125 nw) 126 isn) 111 (nI (tp - 1))) (updA B 68 (B 68))) := mW_D hD
  refine pc_V0 (G := G) (As := []) (rest := []) hx hb hml hown hq hE hX pX0_al hP hD hS hA hl.1 (R_pop l G h0 a (upd (upd (upd (upd (upd (upd (upd (upd (upd F 102 (nI op)) 111 (nI (tp - 1))) 115 (nI wn)) 116 (-1)) 117 (nI fu)) 118 rs0) 119 uc0) 125 nw) 126 isn) B (tp - 1) (B 68) (by omega)) (gV pw_2082 pw_2083 pw_2084 pw_1523 pw_1965) hV_X12_pop 0 9 rfl rfl rfl rfl (Nat.le_of_ble_eq_true rfl) dX12_element_6 ⟨Nat.le_of_ble_eq_true rfl, Nat.le_of_ble_eq_true rfl⟩ ⟨Nat.le_of_ble_eq_true rfl, Nat.le_of_ble_eq_true rfl⟩ (fun v6 u4 H locs hw5 hP hD hS => ?_)
  obtain rfl : v6 = some (.int ((B 68) ((tp - 1) - 1))) := hw5
  have hP : va_P G.1 pCl (mW G h0 a (upd (upd (upd (upd (upd (upd (upd (upd (upd F 102 (nI op)) 111 (nI ((tp - 1) - 1))) 115 (nI wn)) 116 (-1)) 117 (nI fu)) 118 rs0) 119 uc0) 125 nw) 126 isn) B) _ := mW_to (F := F) (l1 := [(102, (nI op)), (111, (nI (tp - 1))), (115, (nI wn)), (116, (-1)), (117, (nI fu)), (118, rs0), (119, uc0), (125, nw), (126, isn), (111, (nI ((tp - 1) - 1)))]) (l2 := [(102, (nI op)), (111, (nI ((tp - 1) - 1))), (115, (nI wn)), (116, (-1)), (117, (nI fu)), (118, rs0), (119, uc0), (125, nw), (126, isn)]) (V := [(nI op), (nI ((tp - 1) - 1)), (nI wn), (-1), (nI fu), rs0, uc0, nw, isn, (nI ((tp - 1) - 1)), (nI op), (nI ((tp - 1) - 1)), (nI wn), (-1), (nI fu), rs0, uc0, nw, isn]) rfl rfl (show (updA B 68 (B 68)) = B from updsA_eq2 (F := B) (l1 := [(68, (B 68))]) (l2 := []) (V := [(B 68)]) rfl rfl) hP
  have hD : va_D A (mW G h0 a (upd (upd (upd (upd (upd (upd (upd (upd (upd F 102 (nI op)) 111 (nI ((tp - 1) - 1))) 115 (nI wn)) 116 (-1)) 117 (nI fu)) 118 rs0) 119 uc0) 125 nw) 126 isn) B) := mW_D hD
  refine W.widen (k := 0) (n := 0) (Nat.le_of_ble_eq_true rfl) (Nat.le_of_ble_eq_true rfl) ?_
  refine W.eq (g2 := F0 m 9 ls [.int ((B 68) ((tp - 1) - 1))]) rfl ?_
  rcases hm6 with hz | ⟨o9, q9, a9, hv1, hv2, hv3, hv4, hv5, hv6, hv7⟩
  · refine lv_topi (fun x7 e8 => ?_)
    obtain rfl : x7 = 0 := e8.trans hz
    refine lv_istore_n (lv' := [(3, .int 0), (2, .int ((B 68) (tp - 1))), (0, .ref h0), (1, .int (nI p9))]) hx hb dX12_element_9 rfl hl (by decide) rfl (fun ls hl => ?_)
    refine lv_iload_n hx hb dX12_element_10 rfl (lv_at hl 0 rfl) ?_
    refine lv_if_ne (tgt := 25) hx hb dX12_element_11 (by decide) (fun c9 => absurd c9 (by decide)) (fun c9 => ?_)
    refine lv_aload_n hx hb dX12_element_14 rfl (lv_at hl 2 rfl) ?_
    refine lv_iload_n hx hb dX12_element_15 rfl (lv_at hl 3 rfl) ?_
    refine lv_sipush (v := 4001) hx hb dX12_element_16 (by decide) ?_
    have hln10 := (Rn.lnP hR hp hst hkd (by omega) (by omega)).1
    have hP : va_P G.1 pCl (mW G h0 a (upd (upd (upd (upd (upd (upd (upd (upd (upd (upd (upd (upd (upd (upd (upd (upd (upd (upd F 102 (nI op)) 111 (nI ((tp - 1) - 1))) 115 (nI wn)) 116 (-1)) 117 (nI fu)) 118 rs0) 119 uc0) 125 nw) 126 isn) 102 (nI op)) 111 (nI ((tp - 1) - 1))) 115 (nI wn)) 116 (-1)) 117 (nI fu)) 118 rs0) 119 uc0) 125 nw) 126 isn) B) _ := mW_to (F := F) (l1 := [(102, (nI op)), (111, (nI ((tp - 1) - 1))), (115, (nI wn)), (116, (-1)), (117, (nI fu)), (118, rs0), (119, uc0), (125, nw), (126, isn)]) (l2 := [(102, (nI op)), (111, (nI ((tp - 1) - 1))), (115, (nI wn)), (116, (-1)), (117, (nI fu)), (118, rs0), (119, uc0), (125, nw), (126, isn), (102, (nI op)), (111, (nI ((tp - 1) - 1))), (115, (nI wn)), (116, (-1)), (117, (nI fu)), (118, rs0), (119, uc0), (125, nw), (126, isn)]) (V := [(nI op), (nI ((tp - 1) - 1)), (nI wn), (-1), (nI fu), rs0, uc0, nw, isn, (nI op), (nI ((tp - 1) - 1)), (nI wn), (-1), (nI fu), rs0, uc0, nw, isn, (nI op), (nI ((tp - 1) - 1)), (nI wn), (-1), (nI fu), rs0, uc0, nw, isn]) rfl rfl rfl hP
    have hD : va_D A (mW G h0 a (upd (upd (upd (upd (upd (upd (upd (upd (upd (upd (upd (upd (upd (upd (upd (upd (upd (upd F 102 (nI op)) 111 (nI ((tp - 1) - 1))) 115 (nI wn)) 116 (-1)) 117 (nI fu)) 118 rs0) 119 uc0) 125 nw) 126 isn) 102 (nI op)) 111 (nI ((tp - 1) - 1))) 115 (nI wn)) 116 (-1)) 117 (nI fu)) 118 rs0) 119 uc0) 125 nw) 126 isn) B) := mW_D hD
    refine pc_V0 (G := G) (As := [.int (nI p9), .int (nI 4001)]) (rest := []) hx hb hml hown hq hE hX pX0_al hP hD hS hA hl.1 (R_raises l G h0 a (upd (upd (upd (upd (upd (upd (upd (upd (upd F 102 (nI op)) 111 (nI ((tp - 1) - 1))) 115 (nI wn)) 116 (-1)) 117 (nI fu)) 118 rs0) 119 uc0) 125 nw) 126 isn) B Xs gh nd T nm wr lz dc fd md pr bk M rmm (Phi gh ps op (rkN gh n9 true)) op wn fu rd on idn fl ct p9 4001 (4001 - 4000) mt ps (yyU yy (op - 1) u) bf wf (nI ((tp - 1) - 1)) nw isn rs0 uc0 hln10 (by omega) (by omega) (Or.inr (by omega)) (clF_1 (by omega)) (by omega)) (gV pw_2054 pw_2055 pw_2056 pw_1523 pw_2053) hV_X12_raises 0 9 rfl rfl rfl rfl (Nat.le_of_ble_eq_true rfl) dX12_element_19 ⟨Nat.le_of_ble_eq_true rfl, Nat.le_of_ble_eq_true rfl⟩ ⟨Nat.le_of_ble_eq_true rfl, Nat.le_of_ble_eq_true rfl⟩ (fun v13 u11 H locs hw12 hP hD hS => ?_)
    obtain ⟨op14, tp15, wn16, fu17, en18, nw19, is20, rs21, uc22, X23⟩ := u11
    obtain ⟨hw12, h24⟩ := hw12
    replace h24 : Nx Xs X23 gh nd T nm wr lz dc fd md pr bk M rmm fu (Phi gh ps op (rkN gh n9 true)) op14 tp15 wn16 fu17 rd on idn fl ct en18 nw19 is20 uc22 := h24
    obtain rfl : v13 = none := hw12
    have hP : va_P G.1 pCl (mW G h0 a (upd (upd (upd (upd (upd (upd (upd (upd (upd F 102 (nI op14)) 111 (nI tp15)) 115 (nI wn16)) 116 en18) 117 (nI fu17)) 118 rs21) 119 uc22) 125 nw19) 126 is20) X23) _ := mW_to (F := F) (l1 := [(102, (nI op)), (111, (nI ((tp - 1) - 1))), (115, (nI wn)), (116, (-1)), (117, (nI fu)), (118, rs0), (119, uc0), (125, nw), (126, isn), (102, (nI op14)), (111, (nI tp15)), (115, (nI wn16)), (116, en18), (117, (nI fu17)), (118, rs21), (119, uc22), (125, nw19), (126, is20)]) (l2 := [(102, (nI op14)), (111, (nI tp15)), (115, (nI wn16)), (116, en18), (117, (nI fu17)), (118, rs21), (119, uc22), (125, nw19), (126, is20)]) (V := [(nI op14), (nI tp15), (nI wn16), en18, (nI fu17), rs21, uc22, nw19, is20, (nI op14), (nI tp15), (nI wn16), en18, (nI fu17), rs21, uc22, nw19, is20, (nI op14), (nI tp15), (nI wn16), en18, (nI fu17), rs21, uc22, nw19, is20]) rfl rfl rfl hP
    have hD : va_D A (mW G h0 a (upd (upd (upd (upd (upd (upd (upd (upd (upd F 102 (nI op14)) 111 (nI tp15)) 115 (nI wn16)) 116 en18) 117 (nI fu17)) 118 rs21) 119 uc22) 125 nw19) 126 is20) X23) := mW_D hD
    refine W.widen (k := 0) (n := 0) (Nat.le_of_ble_eq_true rfl) (Nat.le_of_ble_eq_true rfl) ?_
    refine W.eq (g2 := F0 m 22 ls []) rfl ?_
    refine lv_goto (tgt := 72) hx hb dX12_element_22 (by decide) ?_
    have hz25 : Nx Xs X23 gh nd T nm wr lz dc fd md pr bk M rmm fu (Phi gh ps op (rkN gh n9 true)) op14 tp15 wn16 fu17 rd on idn fl ct en18 nw19 is20 uc22 := h24
    have hP : va_P G.1 pCl (mW G h0 a (upd (upd (upd (upd (upd (upd (upd (upd (upd F 102 (nI op14)) 111 (nI tp15)) 115 (nI wn16)) 116 en18) 117 (nI fu17)) 118 rs21) 119 uc22) 125 nw19) 126 is20) X23) _ := hP
    have hD : va_D A (mW G h0 a (upd (upd (upd (upd (upd (upd (upd (upd (upd F 102 (nI op14)) 111 (nI tp15)) 115 (nI wn16)) 116 en18) 117 (nI fu17)) 118 rs21) 119 uc22) 125 nw19) 126 is20) X23) := mW_D hD
    exact W.vret hx hb hr (fun t9 ht9 hW9 => ⟨⟨_, (op14, tp15, wn16, fu17, en18, nw19, is20, rs21, uc22, X23), rfl, ⟨rfl, hz25⟩, by rw [ht9]; exact hP, hD⟩, hS.F ht9⟩) hS.2.2 dX12_element_72
  · refine lv_topi (fun x26 e27 => ?_)
    obtain rfl : x26 = nI (o9 + 1) := e27.trans hv1
    refine lv_istore_n (lv' := [(3, .int (nI (o9 + 1))), (2, .int ((B 68) (tp - 1))), (0, .ref h0), (1, .int (nI p9))]) hx hb dX12_element_9 rfl hl (by decide) rfl (fun ls hl => ?_)
    refine lv_iload_n hx hb dX12_element_10 rfl (lv_at hl 0 rfl) ?_
    refine lv_if_ne (tgt := 25) hx hb dX12_element_11 (by decide) (fun c28 => ?_) (fun c28 => (by have n29 : (o9 + 1) = 0 := (nI_eq (a := (o9 + 1)) (b := 0) (by omega) (by omega)).mp c28; omega))
    refine lv_iload_n hx hb dX12_element_25 rfl (lv_at hl 1 rfl) ?_
    refine lv_if_lt (tgt := 41) hx hb dX12_element_26 (by decide) (fun c30 => ?_) (fun c30 => ?_)
    · refine lv_aload_n hx hb dX12_element_41 rfl (lv_at hl 2 rfl) ?_
      refine lv_iload_n hx hb dX12_element_42 rfl (lv_at hl 3 rfl) ?_
      refine lv_sipush (v := 4004) hx hb dX12_element_43 (by decide) ?_
      have hln31 := (Rn.lnP hR hp hst hkd (by omega) (by omega)).1
      have hP : va_P G.1 pCl (mW G h0 a (upd (upd (upd (upd (upd (upd (upd (upd (upd (upd (upd (upd (upd (upd (upd (upd (upd (upd F 102 (nI op)) 111 (nI ((tp - 1) - 1))) 115 (nI wn)) 116 (-1)) 117 (nI fu)) 118 rs0) 119 uc0) 125 nw) 126 isn) 102 (nI op)) 111 (nI ((tp - 1) - 1))) 115 (nI wn)) 116 (-1)) 117 (nI fu)) 118 rs0) 119 uc0) 125 nw) 126 isn) B) _ := mW_to (F := F) (l1 := [(102, (nI op)), (111, (nI ((tp - 1) - 1))), (115, (nI wn)), (116, (-1)), (117, (nI fu)), (118, rs0), (119, uc0), (125, nw), (126, isn)]) (l2 := [(102, (nI op)), (111, (nI ((tp - 1) - 1))), (115, (nI wn)), (116, (-1)), (117, (nI fu)), (118, rs0), (119, uc0), (125, nw), (126, isn), (102, (nI op)), (111, (nI ((tp - 1) - 1))), (115, (nI wn)), (116, (-1)), (117, (nI fu)), (118, rs0), (119, uc0), (125, nw), (126, isn)]) (V := [(nI op), (nI ((tp - 1) - 1)), (nI wn), (-1), (nI fu), rs0, uc0, nw, isn, (nI op), (nI ((tp - 1) - 1)), (nI wn), (-1), (nI fu), rs0, uc0, nw, isn, (nI op), (nI ((tp - 1) - 1)), (nI wn), (-1), (nI fu), rs0, uc0, nw, isn]) rfl rfl rfl hP
      have hD : va_D A (mW G h0 a (upd (upd (upd (upd (upd (upd (upd (upd (upd (upd (upd (upd (upd (upd (upd (upd (upd (upd F 102 (nI op)) 111 (nI ((tp - 1) - 1))) 115 (nI wn)) 116 (-1)) 117 (nI fu)) 118 rs0) 119 uc0) 125 nw) 126 isn) 102 (nI op)) 111 (nI ((tp - 1) - 1))) 115 (nI wn)) 116 (-1)) 117 (nI fu)) 118 rs0) 119 uc0) 125 nw) 126 isn) B) := mW_D hD
      refine pc_V0 (G := G) (As := [.int (nI p9), .int (nI 4004)]) (rest := []) hx hb hml hown hq hE hX pX0_al hP hD hS hA hl.1 (R_raises l G h0 a (upd (upd (upd (upd (upd (upd (upd (upd (upd F 102 (nI op)) 111 (nI ((tp - 1) - 1))) 115 (nI wn)) 116 (-1)) 117 (nI fu)) 118 rs0) 119 uc0) 125 nw) 126 isn) B Xs gh nd T nm wr lz dc fd md pr bk M rmm (Phi gh ps op (rkN gh n9 true)) op wn fu rd on idn fl ct p9 4004 (4004 - 4000) mt ps (yyU yy (op - 1) u) bf wf (nI ((tp - 1) - 1)) nw isn rs0 uc0 hln31 (by omega) (by omega) (Or.inr (by omega)) (clF_1 (by omega)) (by omega)) (gV pw_2054 pw_2055 pw_2056 pw_1523 pw_2053) hV_X12_raises 0 9 rfl rfl rfl rfl (Nat.le_of_ble_eq_true rfl) dX12_element_46 ⟨Nat.le_of_ble_eq_true rfl, Nat.le_of_ble_eq_true rfl⟩ ⟨Nat.le_of_ble_eq_true rfl, Nat.le_of_ble_eq_true rfl⟩ (fun v34 u32 H locs hw33 hP hD hS => ?_)
      obtain ⟨op35, tp36, wn37, fu38, en39, nw40, is41, rs42, uc43, X44⟩ := u32
      obtain ⟨hw33, h45⟩ := hw33
      replace h45 : Nx Xs X44 gh nd T nm wr lz dc fd md pr bk M rmm fu (Phi gh ps op (rkN gh n9 true)) op35 tp36 wn37 fu38 rd on idn fl ct en39 nw40 is41 uc43 := h45
      obtain rfl : v34 = none := hw33
      have hP : va_P G.1 pCl (mW G h0 a (upd (upd (upd (upd (upd (upd (upd (upd (upd F 102 (nI op35)) 111 (nI tp36)) 115 (nI wn37)) 116 en39) 117 (nI fu38)) 118 rs42) 119 uc43) 125 nw40) 126 is41) X44) _ := mW_to (F := F) (l1 := [(102, (nI op)), (111, (nI ((tp - 1) - 1))), (115, (nI wn)), (116, (-1)), (117, (nI fu)), (118, rs0), (119, uc0), (125, nw), (126, isn), (102, (nI op35)), (111, (nI tp36)), (115, (nI wn37)), (116, en39), (117, (nI fu38)), (118, rs42), (119, uc43), (125, nw40), (126, is41)]) (l2 := [(102, (nI op35)), (111, (nI tp36)), (115, (nI wn37)), (116, en39), (117, (nI fu38)), (118, rs42), (119, uc43), (125, nw40), (126, is41)]) (V := [(nI op35), (nI tp36), (nI wn37), en39, (nI fu38), rs42, uc43, nw40, is41, (nI op35), (nI tp36), (nI wn37), en39, (nI fu38), rs42, uc43, nw40, is41, (nI op35), (nI tp36), (nI wn37), en39, (nI fu38), rs42, uc43, nw40, is41]) rfl rfl rfl hP
      have hD : va_D A (mW G h0 a (upd (upd (upd (upd (upd (upd (upd (upd (upd F 102 (nI op35)) 111 (nI tp36)) 115 (nI wn37)) 116 en39) 117 (nI fu38)) 118 rs42) 119 uc43) 125 nw40) 126 is41) X44) := mW_D hD
      refine W.widen (k := 0) (n := 0) (Nat.le_of_ble_eq_true rfl) (Nat.le_of_ble_eq_true rfl) ?_
      refine W.eq (g2 := F0 m 49 ls []) rfl ?_
      refine lv_goto (tgt := 72) hx hb dX12_element_49 (by decide) ?_
      have hz46 : Nx Xs X44 gh nd T nm wr lz dc fd md pr bk M rmm fu (Phi gh ps op (rkN gh n9 true)) op35 tp36 wn37 fu38 rd on idn fl ct en39 nw40 is41 uc43 := h45
      have hP : va_P G.1 pCl (mW G h0 a (upd (upd (upd (upd (upd (upd (upd (upd (upd F 102 (nI op35)) 111 (nI tp36)) 115 (nI wn37)) 116 en39) 117 (nI fu38)) 118 rs42) 119 uc43) 125 nw40) 126 is41) X44) _ := hP
      have hD : va_D A (mW G h0 a (upd (upd (upd (upd (upd (upd (upd (upd (upd F 102 (nI op35)) 111 (nI tp36)) 115 (nI wn37)) 116 en39) 117 (nI fu38)) 118 rs42) 119 uc43) 125 nw40) 126 is41) X44) := mW_D hD
      exact W.vret hx hb hr (fun t9 ht9 hW9 => ⟨⟨_, (op35, tp36, wn37, fu38, en39, nw40, is41, rs42, uc43, X44), rfl, ⟨rfl, hz46⟩, by rw [ht9]; exact hP, hD⟩, hS.F ht9⟩) hS.2.2 dX12_element_72
    · obtain ⟨k47, e48, h49⟩ := nI_nn2 c30
      rw [e48] at hl
      have hl : lv_has ls 4 [(3, .int (nI (o9 + 1))), (2, .int (nI k47)), (0, .ref h0), (1, .int (nI p9))] := hl
      refine lv_iload_n hx hb dX12_element_29 rfl (lv_at hl 1 rfl) ?_
      refine lv_aload_n hx hb dX12_element_30 rfl (lv_at hl 2 rfl) ?_
      refine r_get (v := .ref (a 57)) hx hb hown hq hE hP 93 184 tFX12_93 (by decide) pw_1489 rfl dX12_element_31 ?_
      refine lv_iload_n hx hb dX12_element_34 rfl (lv_at hl 0 rfl) ?_
      refine lv_iconst (v := 1) hx hb dX12_element_35 (by decide) ?_
      refine lv_isub hx hb dX12_element_36 ?_
      refine lv_topi (fun x50 e51 => ?_)
      obtain rfl : x50 = nI ((o9 + 1) - 1) := e51.trans (nI_subN (a := 1) (b := (o9 + 1)) (by omega))
      refine r_ldi (f := (B 57)) (j := ((o9 + 1) - 1)) hx hb hE hP 57 (ma_57 G a _) rfl (by omega) (by decide) dX12_element_37 ?_
      refine lv_topi (fun x52 e53 => ?_)
      obtain rfl : x52 = nI q9 := e53.trans (by rw [show ((o9 + 1) - 1) = o9 by omega]; exact hv3)
      refine lv_icmp_lt (tgt := 52) hx hb dX12_element_38 (by decide) (fun c54 => ?_) (fun c54 => ?_)
      · have n55 : k47 < q9 := (nI_ltI (a := k47) (b := q9) (by omega) (by omega)).mp c54
        refine lv_aload_n hx hb dX12_element_52 rfl (lv_at hl 2 rfl) ?_
        refine lv_iload_n hx hb dX12_element_53 rfl (lv_at hl 3 rfl) ?_
        refine lv_aload_n hx hb dX12_element_54 rfl (lv_at hl 2 rfl) ?_
        refine r_get (v := .ref (a 60)) hx hb hown hq hE hP 96 193 tFX12_96 (by decide) pw_1492 rfl dX12_element_55 ?_
        refine lv_aload_n hx hb dX12_element_58 rfl (lv_at hl 2 rfl) ?_
        refine r_get (v := .ref (a 58)) hx hb hown hq hE hP 94 187 tFX12_94 (by decide) pw_1490 rfl dX12_element_59 ?_
        refine lv_iload_n hx hb dX12_element_62 rfl (lv_at hl 0 rfl) ?_
        refine lv_iconst (v := 1) hx hb dX12_element_63 (by decide) ?_
        refine lv_isub hx hb dX12_element_64 ?_
        refine lv_topi (fun x56 e57 => ?_)
        obtain rfl : x56 = nI ((o9 + 1) - 1) := e57.trans (nI_subN (a := 1) (b := (o9 + 1)) (by omega))
        refine r_ldi (f := (B 58)) (j := ((o9 + 1) - 1)) hx hb hE hP 58 (ma_58 G a _) rfl (by omega) (by decide) dX12_element_65 ?_
        refine lv_topi (fun x58 e59 => ?_)
        obtain rfl : x58 = nI a9 := e59.trans (by rw [show ((o9 + 1) - 1) = o9 by omega]; exact hv5)
        refine lv_iload_n hx hb dX12_element_66 rfl (lv_at hl 1 rfl) ?_
        refine lv_iadd hx hb dX12_element_67 ?_
        refine lv_topi (fun x60 e61 => ?_)
        obtain rfl : x60 = nI (a9 + k47) := e61.trans (nI_add (a9) (k47))
        refine r_ldi (f := (B 60)) (j := (a9 + k47)) hx hb hE hP 60 (ma_60 G a _) rfl (by omega) (by decide) dX12_element_68 ?_
        have hP : va_P G.1 pCl (mW G h0 a (upd (upd (upd (upd (upd (upd (upd (upd (upd (upd F 102 (nI op)) 111 (nI ((tp - 1) - 1))) 115 (nI wn)) 116 (-1)) 117 (nI fu)) 118 rs0) 119 uc0) 125 nw) 126 isn) 111 (nI ((tp - 1) - 1))) (updA (updA B 68 (B 68)) 69 (B 69))) _ := mW_to (F := F) (l1 := [(102, (nI op)), (111, (nI ((tp - 1) - 1))), (115, (nI wn)), (116, (-1)), (117, (nI fu)), (118, rs0), (119, uc0), (125, nw), (126, isn)]) (l2 := [(102, (nI op)), (111, (nI ((tp - 1) - 1))), (115, (nI wn)), (116, (-1)), (117, (nI fu)), (118, rs0), (119, uc0), (125, nw), (126, isn), (111, (nI ((tp - 1) - 1)))]) (V := [(nI op), (nI ((tp - 1) - 1)), (nI wn), (-1), (nI fu), rs0, uc0, nw, isn, (nI op), (nI ((tp - 1) - 1)), (nI wn), (-1), (nI fu), rs0, uc0, nw, isn, (nI ((tp - 1) - 1))]) rfl rfl (show B = (updA (updA B 68 (B 68)) 69 (B 69)) from updsA_eq2 (F := B) (l1 := []) (l2 := [(68, (B 68)), (69, (B 69))]) (V := [(B 68), (B 69)]) rfl rfl) hP
        have hD : va_D A (mW G h0 a (upd (upd (upd (upd (upd (upd (upd (upd (upd (upd F 102 (nI op)) 111 (nI ((tp - 1) - 1))) 115 (nI wn)) 116 (-1)) 117 (nI fu)) 118 rs0) 119 uc0) 125 nw) 126 isn) 111 (nI ((tp - 1) - 1))) (updA (updA B 68 (B 68)) 69 (B 69))) := mW_D hD
        refine pc_V0 (G := G) (As := [.int (nI p9), .int ((B 60) (a9 + k47))]) (rest := []) hx hb hml hown hq hE hX pX0_al hP hD hS hA hl.1 (R_gives l G h0 a (upd (upd (upd (upd (upd (upd (upd (upd (upd F 102 (nI op)) 111 (nI ((tp - 1) - 1))) 115 (nI wn)) 116 (-1)) 117 (nI fu)) 118 rs0) 119 uc0) 125 nw) 126 isn) B p9 t9 ((tp - 1) - 1) ((B 60) (a9 + k47)) (B 68) (B 69) (by omega) hm3 (by omega) (by omega)) (gV pw_2069 pw_2070 pw_2071 pw_1523 pw_2006) hV_X12_gives 0 9 rfl rfl rfl rfl (Nat.le_of_ble_eq_true rfl) dX12_element_69 ⟨Nat.le_of_ble_eq_true rfl, Nat.le_of_ble_eq_true rfl⟩ ⟨Nat.le_of_ble_eq_true rfl, Nat.le_of_ble_eq_true rfl⟩ (fun v64 u62 H locs hw63 hP hD hS => ?_)
        obtain ⟨b65, rf66⟩ := u62
        obtain ⟨hw63, h67, h68⟩ := hw63
        replace h67 : rf66 = upd (B 69) ((tp - 1) - 1) (nI b65) := h67
        replace h68 : b65 ≤ 1 ∧ 3 * b65 ≤ t9 ∧ t9 ≤ 2 + 9000 * b65 := h68
        obtain rfl : v64 = none := hw63
        have hP : va_P G.1 pCl (mW G h0 a (upd (upd (upd (upd (upd (upd (upd (upd (upd F 102 (nI op)) 111 (nI (((tp - 1) - 1) + 1))) 115 (nI wn)) 116 (-1)) 117 (nI fu)) 118 rs0) 119 uc0) 125 (nI p9)) 126 0) (updA (updA B 68 (upd (B 68) ((tp - 1) - 1) ((B 60) (a9 + k47)))) 69 rf66)) _ := mW_to (F := F) (l1 := [(102, (nI op)), (111, (nI ((tp - 1) - 1))), (115, (nI wn)), (116, (-1)), (117, (nI fu)), (118, rs0), (119, uc0), (125, nw), (126, isn), (111, (nI (((tp - 1) - 1) + 1))), (125, (nI p9)), (126, 0)]) (l2 := [(102, (nI op)), (111, (nI (((tp - 1) - 1) + 1))), (115, (nI wn)), (116, (-1)), (117, (nI fu)), (118, rs0), (119, uc0), (125, (nI p9)), (126, 0)]) (V := [(nI op), (nI (((tp - 1) - 1) + 1)), (nI wn), (-1), (nI fu), rs0, uc0, (nI p9), 0, (nI (((tp - 1) - 1) + 1)), (nI p9), 0, (nI op), (nI (((tp - 1) - 1) + 1)), (nI wn), (-1), (nI fu), rs0, uc0, (nI p9), 0]) rfl rfl rfl hP
        have hD : va_D A (mW G h0 a (upd (upd (upd (upd (upd (upd (upd (upd (upd F 102 (nI op)) 111 (nI (((tp - 1) - 1) + 1))) 115 (nI wn)) 116 (-1)) 117 (nI fu)) 118 rs0) 119 uc0) 125 (nI p9)) 126 0) (updA (updA B 68 (upd (B 68) ((tp - 1) - 1) ((B 60) (a9 + k47)))) 69 rf66)) := mW_D hD
        refine W.widen (k := 0) (n := 0) (Nat.le_of_ble_eq_true rfl) (Nat.le_of_ble_eq_true rfl) ?_
        refine W.eq (g2 := F0 m 72 ls []) rfl ?_
        obtain rfl : rf66 = _ := h67
        have hP : va_P G.1 pCl (mW G h0 a (upd (upd (upd (upd (upd (upd (upd (upd (upd F 102 (nI op)) 111 (nI (((tp - 1) - 1) + 1))) 115 (nI wn)) 116 (-1)) 117 (nI fu)) 118 rs0) 119 uc0) 125 (nI p9)) 126 0) (updA (updA B 68 (upd (B 68) ((tp - 1) - 1) ((B 60) (a9 + k47)))) 69 (upd (B 69) ((tp - 1) - 1) (nI b65)))) _ := hP
        have hD : va_D A (mW G h0 a (upd (upd (upd (upd (upd (upd (upd (upd (upd F 102 (nI op)) 111 (nI (((tp - 1) - 1) + 1))) 115 (nI wn)) 116 (-1)) 117 (nI fu)) 118 rs0) 119 uc0) 125 (nI p9)) 126 0) (updA (updA B 68 (upd (B 68) ((tp - 1) - 1) ((B 60) (a9 + k47)))) 69 (upd (B 69) ((tp - 1) - 1) (nI b65)))) := mW_D hD
        have hz69 : Nx Xs (updA (updA B 68 (upd (B 68) ((tp - 1) - 1) ((B 60) (a9 + k47)))) 69 (upd (B 69) ((tp - 1) - 1) (nI b65))) gh nd T nm wr lz dc fd md pr bk M rmm fu (Phi gh ps op (rkN gh n9 true)) op (((tp - 1) - 1) + 1) wn fu rd on idn fl ct ((-1) : Int32) (nI p9) (0 : Int32) uc0 := (hR.givesUp hp hst hkd (by omega) (fun _ => hR.npl hp hnp) hm3 hm4 hm5 (hv7 k47 (by omega)) h68 (by omega))
        have hP : va_P G.1 pCl (mW G h0 a (upd (upd (upd (upd (upd (upd (upd (upd (upd F 102 (nI op)) 111 (nI (((tp - 1) - 1) + 1))) 115 (nI wn)) 116 ((-1) : Int32)) 117 (nI fu)) 118 rs0) 119 uc0) 125 (nI p9)) 126 (0 : Int32)) (updA (updA B 68 (upd (B 68) ((tp - 1) - 1) ((B 60) (a9 + k47)))) 69 (upd (B 69) ((tp - 1) - 1) (nI b65)))) _ := mW_to (F := F) (l1 := [(102, (nI op)), (111, (nI (((tp - 1) - 1) + 1))), (115, (nI wn)), (116, (-1)), (117, (nI fu)), (118, rs0), (119, uc0), (125, (nI p9)), (126, 0)]) (l2 := [(102, (nI op)), (111, (nI (((tp - 1) - 1) + 1))), (115, (nI wn)), (116, ((-1) : Int32)), (117, (nI fu)), (118, rs0), (119, uc0), (125, (nI p9)), (126, (0 : Int32))]) (V := [(nI op), (nI (((tp - 1) - 1) + 1)), (nI wn), ((-1) : Int32), (nI fu), rs0, uc0, (nI p9), (0 : Int32), (nI op), (nI (((tp - 1) - 1) + 1)), (nI wn), ((-1) : Int32), (nI fu), rs0, uc0, (nI p9), (0 : Int32)]) rfl rfl rfl hP
        have hD : va_D A (mW G h0 a (upd (upd (upd (upd (upd (upd (upd (upd (upd F 102 (nI op)) 111 (nI (((tp - 1) - 1) + 1))) 115 (nI wn)) 116 ((-1) : Int32)) 117 (nI fu)) 118 rs0) 119 uc0) 125 (nI p9)) 126 (0 : Int32)) (updA (updA B 68 (upd (B 68) ((tp - 1) - 1) ((B 60) (a9 + k47)))) 69 (upd (B 69) ((tp - 1) - 1) (nI b65)))) := mW_D hD
        exact W.vret hx hb hr (fun t9 ht9 hW9 => ⟨⟨_, (op, (((tp - 1) - 1) + 1), wn, fu, ((-1) : Int32), (nI p9), (0 : Int32), rs0, uc0, (updA (updA B 68 (upd (B 68) ((tp - 1) - 1) ((B 60) (a9 + k47)))) 69 (upd (B 69) ((tp - 1) - 1) (nI b65)))), rfl, ⟨rfl, hz69⟩, by rw [ht9]; exact hP, hD⟩, hS.F ht9⟩) hS.2.2 dX12_element_72
      · have n70 : ¬ (k47 < q9) := fun h9 => c54 ((nI_ltI (a := k47) (b := q9) (by omega) (by omega)).mpr h9)
        refine lv_aload_n hx hb dX12_element_41 rfl (lv_at hl 2 rfl) ?_
        refine lv_iload_n hx hb dX12_element_42 rfl (lv_at hl 3 rfl) ?_
        refine lv_sipush (v := 4004) hx hb dX12_element_43 (by decide) ?_
        have hln71 := (Rn.lnP hR hp hst hkd (by omega) (by omega)).1
        have hP : va_P G.1 pCl (mW G h0 a (upd (upd (upd (upd (upd (upd (upd (upd (upd (upd (upd (upd (upd (upd (upd (upd (upd (upd F 102 (nI op)) 111 (nI ((tp - 1) - 1))) 115 (nI wn)) 116 (-1)) 117 (nI fu)) 118 rs0) 119 uc0) 125 nw) 126 isn) 102 (nI op)) 111 (nI ((tp - 1) - 1))) 115 (nI wn)) 116 (-1)) 117 (nI fu)) 118 rs0) 119 uc0) 125 nw) 126 isn) B) _ := mW_to (F := F) (l1 := [(102, (nI op)), (111, (nI ((tp - 1) - 1))), (115, (nI wn)), (116, (-1)), (117, (nI fu)), (118, rs0), (119, uc0), (125, nw), (126, isn)]) (l2 := [(102, (nI op)), (111, (nI ((tp - 1) - 1))), (115, (nI wn)), (116, (-1)), (117, (nI fu)), (118, rs0), (119, uc0), (125, nw), (126, isn), (102, (nI op)), (111, (nI ((tp - 1) - 1))), (115, (nI wn)), (116, (-1)), (117, (nI fu)), (118, rs0), (119, uc0), (125, nw), (126, isn)]) (V := [(nI op), (nI ((tp - 1) - 1)), (nI wn), (-1), (nI fu), rs0, uc0, nw, isn, (nI op), (nI ((tp - 1) - 1)), (nI wn), (-1), (nI fu), rs0, uc0, nw, isn, (nI op), (nI ((tp - 1) - 1)), (nI wn), (-1), (nI fu), rs0, uc0, nw, isn]) rfl rfl rfl hP
        have hD : va_D A (mW G h0 a (upd (upd (upd (upd (upd (upd (upd (upd (upd (upd (upd (upd (upd (upd (upd (upd (upd (upd F 102 (nI op)) 111 (nI ((tp - 1) - 1))) 115 (nI wn)) 116 (-1)) 117 (nI fu)) 118 rs0) 119 uc0) 125 nw) 126 isn) 102 (nI op)) 111 (nI ((tp - 1) - 1))) 115 (nI wn)) 116 (-1)) 117 (nI fu)) 118 rs0) 119 uc0) 125 nw) 126 isn) B) := mW_D hD
        refine pc_V0 (G := G) (As := [.int (nI p9), .int (nI 4004)]) (rest := []) hx hb hml hown hq hE hX pX0_al hP hD hS hA hl.1 (R_raises l G h0 a (upd (upd (upd (upd (upd (upd (upd (upd (upd F 102 (nI op)) 111 (nI ((tp - 1) - 1))) 115 (nI wn)) 116 (-1)) 117 (nI fu)) 118 rs0) 119 uc0) 125 nw) 126 isn) B Xs gh nd T nm wr lz dc fd md pr bk M rmm (Phi gh ps op (rkN gh n9 true)) op wn fu rd on idn fl ct p9 4004 (4004 - 4000) mt ps (yyU yy (op - 1) u) bf wf (nI ((tp - 1) - 1)) nw isn rs0 uc0 hln71 (by omega) (by omega) (Or.inr (by omega)) (clF_1 (by omega)) (by omega)) (gV pw_2054 pw_2055 pw_2056 pw_1523 pw_2053) hV_X12_raises 0 9 rfl rfl rfl rfl (Nat.le_of_ble_eq_true rfl) dX12_element_46 ⟨Nat.le_of_ble_eq_true rfl, Nat.le_of_ble_eq_true rfl⟩ ⟨Nat.le_of_ble_eq_true rfl, Nat.le_of_ble_eq_true rfl⟩ (fun v74 u72 H locs hw73 hP hD hS => ?_)
        obtain ⟨op75, tp76, wn77, fu78, en79, nw80, is81, rs82, uc83, X84⟩ := u72
        obtain ⟨hw73, h85⟩ := hw73
        replace h85 : Nx Xs X84 gh nd T nm wr lz dc fd md pr bk M rmm fu (Phi gh ps op (rkN gh n9 true)) op75 tp76 wn77 fu78 rd on idn fl ct en79 nw80 is81 uc83 := h85
        obtain rfl : v74 = none := hw73
        have hP : va_P G.1 pCl (mW G h0 a (upd (upd (upd (upd (upd (upd (upd (upd (upd F 102 (nI op75)) 111 (nI tp76)) 115 (nI wn77)) 116 en79) 117 (nI fu78)) 118 rs82) 119 uc83) 125 nw80) 126 is81) X84) _ := mW_to (F := F) (l1 := [(102, (nI op)), (111, (nI ((tp - 1) - 1))), (115, (nI wn)), (116, (-1)), (117, (nI fu)), (118, rs0), (119, uc0), (125, nw), (126, isn), (102, (nI op75)), (111, (nI tp76)), (115, (nI wn77)), (116, en79), (117, (nI fu78)), (118, rs82), (119, uc83), (125, nw80), (126, is81)]) (l2 := [(102, (nI op75)), (111, (nI tp76)), (115, (nI wn77)), (116, en79), (117, (nI fu78)), (118, rs82), (119, uc83), (125, nw80), (126, is81)]) (V := [(nI op75), (nI tp76), (nI wn77), en79, (nI fu78), rs82, uc83, nw80, is81, (nI op75), (nI tp76), (nI wn77), en79, (nI fu78), rs82, uc83, nw80, is81, (nI op75), (nI tp76), (nI wn77), en79, (nI fu78), rs82, uc83, nw80, is81]) rfl rfl rfl hP
        have hD : va_D A (mW G h0 a (upd (upd (upd (upd (upd (upd (upd (upd (upd F 102 (nI op75)) 111 (nI tp76)) 115 (nI wn77)) 116 en79) 117 (nI fu78)) 118 rs82) 119 uc83) 125 nw80) 126 is81) X84) := mW_D hD
        refine W.widen (k := 0) (n := 0) (Nat.le_of_ble_eq_true rfl) (Nat.le_of_ble_eq_true rfl) ?_
        refine W.eq (g2 := F0 m 49 ls []) rfl ?_
        refine lv_goto (tgt := 72) hx hb dX12_element_49 (by decide) ?_
        have hz86 : Nx Xs X84 gh nd T nm wr lz dc fd md pr bk M rmm fu (Phi gh ps op (rkN gh n9 true)) op75 tp76 wn77 fu78 rd on idn fl ct en79 nw80 is81 uc83 := h85
        have hP : va_P G.1 pCl (mW G h0 a (upd (upd (upd (upd (upd (upd (upd (upd (upd F 102 (nI op75)) 111 (nI tp76)) 115 (nI wn77)) 116 en79) 117 (nI fu78)) 118 rs82) 119 uc83) 125 nw80) 126 is81) X84) _ := hP
        have hD : va_D A (mW G h0 a (upd (upd (upd (upd (upd (upd (upd (upd (upd F 102 (nI op75)) 111 (nI tp76)) 115 (nI wn77)) 116 en79) 117 (nI fu78)) 118 rs82) 119 uc83) 125 nw80) 126 is81) X84) := mW_D hD
        exact W.vret hx hb hr (fun t9 ht9 hW9 => ⟨⟨_, (op75, tp76, wn77, fu78, en79, nw80, is81, rs82, uc83, X84), rfl, ⟨rfl, hz86⟩, by rw [ht9]; exact hP, hD⟩, hS.F ht9⟩) hS.2.2 dX12_element_72
theorem dX12_works_0 : decode cX12_works 0 = .ok (.aload_n 0, 1) := by decide +kernel
theorem dX12_works_1 : decode cX12_works 1 = .ok (.invokevirtual 837, 3) := by decide +kernel
theorem dX12_works_4 : decode cX12_works 4 = .ok (.istore_n 2, 1) := by decide +kernel
theorem dX12_works_5 : decode cX12_works 5 = .ok (.aload_n 0, 1) := by decide +kernel
theorem dX12_works_6 : decode cX12_works 6 = .ok (.invokevirtual 837, 3) := by decide +kernel
theorem dX12_works_9 : decode cX12_works 9 = .ok (.istore_n 3, 1) := by decide +kernel
theorem dX12_works_10 : decode cX12_works 10 = .ok (.aload_n 0, 1) := by decide +kernel
theorem dX12_works_11 : decode cX12_works 11 = .ok (.getfield 16, 3) := by decide +kernel
theorem dX12_works_14 : decode cX12_works 14 = .ok (.aload_n 0, 1) := by decide +kernel
theorem dX12_works_15 : decode cX12_works 15 = .ok (.getfield 44, 3) := by decide +kernel
theorem dX12_works_18 : decode cX12_works 18 = .ok (.iload_n 1, 1) := by decide +kernel
theorem dX12_works_19 : decode cX12_works 19 = .ok (.iaload, 1) := by decide +kernel
theorem dX12_works_20 : decode cX12_works 20 = .ok (.iaload, 1) := by decide +kernel
theorem dX12_works_21 : decode cX12_works 21 = .ok (.istore 4, 2) := by decide +kernel
theorem dX12_works_23 : decode cX12_works 23 = .ok (.iload 4, 2) := by decide +kernel
theorem dX12_works_25 : decode cX12_works 25 = .ok (.bipush 47, 2) := by decide +kernel
theorem dX12_works_27 : decode cX12_works 27 = .ok (.if_icmp .eq 10, 3) := by decide +kernel
theorem dX12_works_37 : decode cX12_works 37 = .ok (.iload_n 2, 1) := by decide +kernel
theorem dX12_works_38 : decode cX12_works 38 = .ok (.ifCond .ne 12, 3) := by decide +kernel
theorem dX12_works_50 : decode cX12_works 50 = .ok (.aload_n 0, 1) := by decide +kernel
theorem dX12_works_51 : decode cX12_works 51 = .ok (.iload_n 1, 1) := by decide +kernel
theorem dX12_works_52 : decode cX12_works 52 = .ok (.iload 4, 2) := by decide +kernel
theorem dX12_works_54 : decode cX12_works 54 = .ok (.iload_n 3, 1) := by decide +kernel
theorem dX12_works_55 : decode cX12_works 55 = .ok (.iload_n 2, 1) := by decide +kernel
theorem dX12_works_56 : decode cX12_works 56 = .ok (.invokestatic 852, 3) := by decide +kernel
theorem dX12_works_59 : decode cX12_works 59 = .ok (.invokevirtual 800, 3) := by decide +kernel
theorem dX12_works_62 : decode cX12_works 62 = .ok (.return_, 1) := by decide +kernel
theorem dX12_works_41 : decode cX12_works 41 = .ok (.aload_n 0, 1) := by decide +kernel
theorem dX12_works_42 : decode cX12_works 42 = .ok (.iload_n 1, 1) := by decide +kernel
theorem dX12_works_43 : decode cX12_works 43 = .ok (.sipush 4003, 3) := by decide +kernel
theorem dX12_works_46 : decode cX12_works 46 = .ok (.invokevirtual 840, 3) := by decide +kernel
theorem dX12_works_49 : decode cX12_works 49 = .ok (.return_, 1) := by decide +kernel
theorem dX12_works_30 : decode cX12_works 30 = .ok (.iload 4, 2) := by decide +kernel
theorem dX12_works_32 : decode cX12_works 32 = .ok (.bipush 37, 2) := by decide +kernel
theorem dX12_works_34 : decode cX12_works 34 = .ok (.if_icmp .ne 16, 3) := by decide +kernel
theorem hS_X12_reckon : yX12_reckon.cls ≠ "java/lang/invoke/MethodHandle" ∧ yX12_reckon.cls ≠ "java/lang/invoke/VarHandle" ∧ (parseMethodDescriptor yX12_reckon.desc).map (fun d => d.parameters.length) = some 3 := by decide +kernel
set_option maxHeartbeats 8000000 in
set_option maxRecDepth 100000 in
/-- works(p) -/
theorem R_works (l : Launch) (G : pT) (h0 : Nat) (a : Nat → Nat) (F : Nat → Int32) (B : Nat → Nat → Int32) (Xs : Nat → Nat → Int32) (gh : Nat → Nat → Nat) (nd : Nat) (T : Nat) (nm : Nat) (wr : Nat) (lz : Nat) (dc : Nat) (fd : Nat) (md : Nat) (pr : Nat) (bk : Nat) (M : MTb) (rmm : Nat) (op : Nat) (tp : Nat) (wn : Nat) (fu : Nat) (rd : Nat) (on : Nat) (idn : Nat) (fl : Nat) (ct : Nat) (n9 : Nat) (p9 : Nat) (u : Ps) (mt : Nat → Nat) (ps : Nat → Nat) (yy : Nat → Ps) (bf : Nat → Nat) (wf : Nat → Nat) (nw : Int32) (isn : Int32) (rs0 : Int32) (uc0 : Int32) (hR : Rn Xs B gh nd T nm wr lz dc fd md pr bk M rmm op tp wn fu rd on idn fl ct n9 true mt ps yy bf wf) (hp : Pv Xs (M.1 (mt (op - 1))) (rtP M (mt (op - 1))) p9 u) (hst : stq Xs p9 u n9 (yy (op - 1))) (hfu : fu ≤ 20000) (hkd : Xs 9 p9 = nI 18) (hns : ¬ Xs 12 p9 = nI n9) : PM l G pX0 yX12_works cX12_works 5 none ({ frames := 6, cells := 0, slots := 0, locals := 156 }) [.ref h0, .int (nI p9)] (mW G h0 a (upd (upd (upd (upd (upd (upd (upd (upd (upd F 102 (nI op)) 111 (nI tp)) 115 (nI wn)) 116 (-1)) 117 (nI fu)) 118 rs0) 119 uc0) 125 nw) 126 isn) B) (fun (v : Option Value) (u : Nat × Nat × Nat × Nat × Int32 × Int32 × Int32 × Int32 × Int32 × (Nat → Nat → Int32)) => v = none ∧ (Nx Xs u.2.2.2.2.2.2.2.2.2 gh nd T nm wr lz dc fd md pr bk M rmm fu (Phi gh ps op (rkN gh n9 true)) u.1 u.2.1 u.2.2.1 u.2.2.2.1 rd on idn fl ct u.2.2.2.2.1 u.2.2.2.2.2.1 u.2.2.2.2.2.2.1 u.2.2.2.2.2.2.2.2.1)) (fun u => (mW G h0 a (upd (upd (upd (upd (upd (upd (upd (upd (upd F 102 (nI u.1)) 111 (nI u.2.1)) 115 (nI u.2.2.1)) 116 u.2.2.2.2.1) 117 (nI u.2.2.2.1)) 118 u.2.2.2.2.2.2.2.1) 119 u.2.2.2.2.2.2.2.2.1) 125 u.2.2.2.2.2.1) 126 u.2.2.2.2.2.2.1) u.2.2.2.2.2.2.2.2.2)) := by
  intro sz
  refine Met.ofW (cc := cX12_works) (maxL := 5) (ret := none) (by decide) rfl ?_
  intro p e s m args below meth c s₁ B9 hml hv
  obtain ⟨rfl, hsz, hP, hD0, hE, hX⟩ := hv
  have hx := B9.exec
  have hb := B9.bytes
  have hr := B9.returns
  have hts := atoms_spec (ws := Cond.code yX12_works cX12_works 5 none :: pw) B9.pre
  have hq : ∀ w ∈ pw, w.before _ s = true := fun w h => hts w (List.mem_cons_of_mem _ h)
  have hown : s.vm.findClass RX12 = some m.cls := findClass_of_methodNamed B9.named
  have hlocks := B9.notSynchronized
  subst hsz
  have hD := hD0.self (sz := s.heap.size)
  have hA : ∀ q : Nat, s.heap.size ≤ q → va_A (mW G h0 a (upd (upd (upd (upd (upd (upd (upd (upd (upd F 102 (nI op)) 111 (nI tp)) 115 (nI wn)) 116 (-1)) 117 (nI fu)) 118 rs0) 119 uc0) 125 nw) 126 isn) B) s.heap.size q := fun q h => Or.inr h
  have hP : va_P G.1 pCl (mW G h0 a (upd (upd (upd (upd (upd (upd (upd (upd (upd F 102 (nI op)) 111 (nI tp)) 115 (nI wn)) 116 (-1)) 117 (nI fu)) 118 rs0) 119 uc0) 125 nw) 126 isn) B) s.heap := hP
  generalize va_A (mW G h0 a (upd (upd (upd (upd (upd (upd (upd (upd (upd F 102 (nI op)) 111 (nI tp)) 115 (nI wn)) 116 (-1)) 117 (nI fu)) 118 rs0) 119 uc0) 125 nw) 126 isn) B) s.heap.size = A at hD hE hA ⊢
  have hS : va_S A s.heap s.heap [] := va_S.rf
  have hl := lv_entry ([.ref h0, .int (nI p9)]) (n := 5) (Nat.le_of_ble_eq_true rfl)
  rw [lg_entry_eq]
  generalize (lg_sl ([.ref h0, .int (nI p9)]) ++ List.replicate (5 - (lg_sl ([.ref h0, .int (nI p9)])).length) Slot.unset).toArray = ls at hl ⊢
  have hl : lv_has ls 5 [(0, .ref h0), (1, .int (nI p9))] := hl
  have hPg := hR.pg
  have hbd := hPg.bd
  have hrm := hR.room
  have hpn := hR.pn hp
  obtain ⟨ht1, t9, tk9, hm3, hm4, hm5, hm6, hm7⟩ := hR.k18 hp hst hkd hns
  have hw2 : B 2 = Xs 2 := hPg.row 2 (by omega) (by omega) (by omega) (by omega) (by omega)
  have hw11 : B 11 = Xs 11 := hPg.row 11 (by omega) (by omega) (by omega) (by omega) (by omega)
  refine lv_aload_n hx hb dX12_works_0 rfl (lv_at hl 0 rfl) ?_
  have hP : va_P G.1 pCl (mW G h0 a (upd (upd (upd (upd (upd (upd (upd (upd (upd (upd F 102 (nI op)) 111 (nI tp)) 115 (nI wn)) 116 (-1)) 117 (nI fu)) 118 rs0) 119 uc0) 125 nw) 126 isn) 111 (nI tp)) (updA B 68 (B 68))) _ := mW_to (F := F) (l1 := [(102, (nI op)), (111, (nI tp)), (115, (nI wn)), (116, (-1)), (117, (nI fu)), (118, rs0), (119, uc0), (125, nw), (126, isn)]) (l2 := [(102, (nI op)), (111, (nI tp)), (115, (nI wn)), (116, (-1)), (117, (nI fu)), (118, rs0), (119, uc0), (125, nw), (126, isn), (111, (nI tp))]) (V := [(nI op), (nI tp), (nI wn), (-1), (nI fu), rs0, uc0, nw, isn, (nI op), (nI tp), (nI wn), (-1), (nI fu), rs0, uc0, nw, isn, (nI tp)]) rfl rfl (show B = (updA B 68 (B 68)) from updsA_eq2 (F := B) (l1 := []) (l2 := [(68, (B 68))]) (V := [(B 68)]) rfl rfl) hP
  have hD : va_D A (mW G h0 a (upd (upd (upd (upd (upd (upd (upd (upd (upd (upd F 102 (nI op)) 111 (nI tp)) 115 (nI wn)) 116 (-1)) 117 (nI fu)) 118 rs0) 119 uc0) 125 nw) 126 isn) 111 (nI tp)) (updA B 68 (B 68))) := mW_D hD
  refine pc_V0 (G := G) (As := []) (rest := []) hx hb hml hown hq hE hX pX0_al hP hD hS hA hl.1 (R_pop l G h0 a (upd (upd (upd (upd (upd (upd (upd (upd (upd F 102 (nI op)) 111 (nI tp)) 115 (nI wn)) 116 (-1)) 117 (nI fu)) 118 rs0) 119 uc0) 125 nw) 126 isn) B tp (B 68) (by omega)) (gV pw_2082 pw_2083 pw_2084 pw_1523 pw_1965) hV_X12_pop 0 9 rfl rfl rfl rfl (Nat.le_of_ble_eq_true rfl) dX12_works_1 ⟨Nat.le_of_ble_eq_true rfl, Nat.le_of_ble_eq_true rfl⟩ ⟨Nat.le_of_ble_eq_true rfl, Nat.le_of_ble_eq_true rfl⟩ (fun v3 u1 H locs hw2 hP hD hS => ?_)
  obtain rfl : v3 = some (.int ((B 68) (tp - 1))) := hw2
  have hP : va_P G.1 pCl (mW G h0 a (upd (upd (upd (upd (upd (upd (upd (upd (upd F 102 (nI op)) 111 (nI (tp - 1))) 115 (nI wn)) 116 (-1)) 117 (nI fu)) 118 rs0) 119 uc0) 125 nw) 126 isn) B) _ := mW_to (F := F) (l1 := [(102, (nI op)), (111, (nI tp)), (115, (nI wn)), (116, (-1)), (117, (nI fu)), (118, rs0), (119, uc0), (125, nw), (126, isn), (111, (nI (tp - 1)))]) (l2 := [(102, (nI op)), (111, (nI (tp - 1))), (115, (nI wn)), (116, (-1)), (117, (nI fu)), (118, rs0), (119, uc0), (125, nw), (126, isn)]) (V := [(nI op), (nI (tp - 1)), (nI wn), (-1), (nI fu), rs0, uc0, nw, isn, (nI (tp - 1)), (nI op), (nI (tp - 1)), (nI wn), (-1), (nI fu), rs0, uc0, nw, isn]) rfl rfl (show (updA B 68 (B 68)) = B from updsA_eq2 (F := B) (l1 := [(68, (B 68))]) (l2 := []) (V := [(B 68)]) rfl rfl) hP
  have hD : va_D A (mW G h0 a (upd (upd (upd (upd (upd (upd (upd (upd (upd F 102 (nI op)) 111 (nI (tp - 1))) 115 (nI wn)) 116 (-1)) 117 (nI fu)) 118 rs0) 119 uc0) 125 nw) 126 isn) B) := mW_D hD
  refine W.widen (k := 0) (n := 0) (Nat.le_of_ble_eq_true rfl) (Nat.le_of_ble_eq_true rfl) ?_
  refine W.eq (g2 := F0 m 4 ls [.int ((B 68) (tp - 1))]) rfl ?_
  refine lv_istore_n (lv' := [(2, .int ((B 68) (tp - 1))), (0, .ref h0), (1, .int (nI p9))]) hx hb dX12_works_4 rfl hl (by decide) rfl (fun ls hl => ?_)
  refine lv_aload_n hx hb dX12_works_5 rfl (lv_at hl 1 rfl) ?_
  have hP : va_P G.1 pCl (mW G h0 a (upd (upd (upd (upd (upd (upd (upd (upd (upd (upd F 102 (nI op)) 111 (nI (tp - 1))) 115 (nI wn)) 116 (-1)) 117 (nI fu)) 118 rs0) 119 uc0) 125 nw) 126 isn) 111 (nI (tp - 1))) (updA B 68 (B 68))) _ := mW_to (F := F) (l1 := [(102, (nI op)), (111, (nI (tp - 1))), (115, (nI wn)), (116, (-1)), (117, (nI fu)), (118, rs0), (119, uc0), (125, nw), (126, isn)]) (l2 := [(102, (nI op)), (111, (nI (tp - 1))), (115, (nI wn)), (116, (-1)), (117, (nI fu)), (118, rs0), (119, uc0), (125, nw), (126, isn), (111, (nI (tp - 1)))]) (V := [(nI op), (nI (tp - 1)), (nI wn), (-1), (nI fu), rs0, uc0, nw, isn, (nI op), (nI (tp - 1)), (nI wn), (-1), (nI fu), rs0, uc0, nw, isn, (nI (tp - 1))]) rfl rfl (show B = (updA B 68 (B 68)) from updsA_eq2 (F := B) (l1 := []) (l2 := [(68, (B 68))]) (V := [(B 68)]) rfl rfl) hP
  have hD : va_D A (mW G h0 a (upd (upd (upd (upd (upd (upd (upd (upd (upd (upd F 102 (nI op)) 111 (nI (tp - 1))) 115 (nI wn)) 116 (-1)) 117 (nI fu)) 118 rs0) 119 uc0) 125 nw) 126 isn) 111 (nI (tp - 1))) (updA B 68 (B 68))) := mW_D hD
  refine pc_V0 (G := G) (As := []) (rest := []) hx hb hml hown hq hE hX pX0_al hP hD hS hA hl.1 (R_pop l G h0 a (upd (upd (upd (upd (upd (upd (upd (upd (upd F 102 (nI op)) 111 (nI (tp - 1))) 115 (nI wn)) 116 (-1)) 117 (nI fu)) 118 rs0) 119 uc0) 125 nw) 126 isn) B (tp - 1) (B 68) (by omega)) (gV pw_2082 pw_2083 pw_2084 pw_1523 pw_1965) hV_X12_pop 0 9 rfl rfl rfl rfl (Nat.le_of_ble_eq_true rfl) dX12_works_6 ⟨Nat.le_of_ble_eq_true rfl, Nat.le_of_ble_eq_true rfl⟩ ⟨Nat.le_of_ble_eq_true rfl, Nat.le_of_ble_eq_true rfl⟩ (fun v6 u4 H locs hw5 hP hD hS => ?_)
  obtain rfl : v6 = some (.int ((B 68) ((tp - 1) - 1))) := hw5
  have hP : va_P G.1 pCl (mW G h0 a (upd (upd (upd (upd (upd (upd (upd (upd (upd F 102 (nI op)) 111 (nI ((tp - 1) - 1))) 115 (nI wn)) 116 (-1)) 117 (nI fu)) 118 rs0) 119 uc0) 125 nw) 126 isn) B) _ := mW_to (F := F) (l1 := [(102, (nI op)), (111, (nI (tp - 1))), (115, (nI wn)), (116, (-1)), (117, (nI fu)), (118, rs0), (119, uc0), (125, nw), (126, isn), (111, (nI ((tp - 1) - 1)))]) (l2 := [(102, (nI op)), (111, (nI ((tp - 1) - 1))), (115, (nI wn)), (116, (-1)), (117, (nI fu)), (118, rs0), (119, uc0), (125, nw), (126, isn)]) (V := [(nI op), (nI ((tp - 1) - 1)), (nI wn), (-1), (nI fu), rs0, uc0, nw, isn, (nI ((tp - 1) - 1)), (nI op), (nI ((tp - 1) - 1)), (nI wn), (-1), (nI fu), rs0, uc0, nw, isn]) rfl rfl (show (updA B 68 (B 68)) = B from updsA_eq2 (F := B) (l1 := [(68, (B 68))]) (l2 := []) (V := [(B 68)]) rfl rfl) hP
  have hD : va_D A (mW G h0 a (upd (upd (upd (upd (upd (upd (upd (upd (upd F 102 (nI op)) 111 (nI ((tp - 1) - 1))) 115 (nI wn)) 116 (-1)) 117 (nI fu)) 118 rs0) 119 uc0) 125 nw) 126 isn) B) := mW_D hD
  refine W.widen (k := 0) (n := 0) (Nat.le_of_ble_eq_true rfl) (Nat.le_of_ble_eq_true rfl) ?_
  refine W.eq (g2 := F0 m 9 ls [.int ((B 68) ((tp - 1) - 1))]) rfl ?_
  refine lv_istore_n (lv' := [(3, .int ((B 68) ((tp - 1) - 1))), (2, .int ((B 68) (tp - 1))), (0, .ref h0), (1, .int (nI p9))]) hx hb dX12_works_9 rfl hl (by decide) rfl (fun ls hl => ?_)
  refine lv_aload_n hx hb dX12_works_10 rfl (lv_at hl 2 rfl) ?_
  refine r_get (v := .ref (a 2)) hx hb hown hq hE hP 5 16 tFX12_5 (by decide) pw_1432 rfl dX12_works_11 ?_
  refine lv_aload_n hx hb dX12_works_14 rfl (lv_at hl 2 rfl) ?_
  refine r_get (v := .ref (a 11)) hx hb hown hq hE hP 19 44 tFX12_19 (by decide) pw_1441 rfl dX12_works_15 ?_
  refine lv_iload_n hx hb dX12_works_18 rfl (lv_at hl 3 rfl) ?_
  refine r_ldi (f := (B 11)) (j := p9) hx hb hE hP 11 (ma_11 G a _) rfl (by omega) (by decide) dX12_works_19 ?_
  refine lv_topi (fun x7 e8 => ?_)
  obtain rfl : x7 = nI tk9 := e8.trans ((congrFun hw11 _).trans hm5)
  refine r_ldi (f := (B 2)) (j := tk9) hx hb hE hP 2 (ma_2 G a _) rfl (by omega) (by decide) dX12_works_20 ?_
  refine lv_istore (lv' := [(4, .int ((B 2) tk9)), (3, .int ((B 68) ((tp - 1) - 1))), (2, .int ((B 68) (tp - 1))), (0, .ref h0), (1, .int (nI p9))]) hx hb dX12_works_21 hl (by decide) rfl (fun ls hl => ?_)
  refine lv_iload hx hb dX12_works_23 (lv_at hl 0 rfl) ?_
  refine lv_bipush (v := 47) hx hb dX12_works_25 (by decide) ?_
  refine lv_icmp_eq (tgt := 37) hx hb dX12_works_27 (by decide) (fun c9 => ?_) (fun c9 => ?_)
  · refine lv_iload_n hx hb dX12_works_37 rfl (lv_at hl 2 rfl) ?_
    refine lv_if_ne (tgt := 50) hx hb dX12_works_38 (by decide) (fun c10 => ?_) (fun c10 => ?_)
    · refine lv_aload_n hx hb dX12_works_50 rfl (lv_at hl 3 rfl) ?_
      refine lv_iload_n hx hb dX12_works_51 rfl (lv_at hl 4 rfl) ?_
      refine lv_iload hx hb dX12_works_52 (lv_at hl 0 rfl) ?_
      refine lv_iload_n hx hb dX12_works_54 rfl (lv_at hl 1 rfl) ?_
      refine lv_iload_n hx hb dX12_works_55 rfl (lv_at hl 2 rfl) ?_
      refine pc_SN (G := G) (As := [.int ((B 2) tk9), .int ((B 68) ((tp - 1) - 1)), .int ((B 68) (tp - 1))]) (rest := [.int (nI p9), .ref h0]) hx hb hml hown hq hE hX pX0_al hP hS hA hl.1 (s_reckon l G ((B 2) tk9) ((B 68) ((tp - 1) - 1)) ((B 68) (tp - 1)) (Or.inl c10)) (gS pw_2090 pw_2091 pw_1523 pw_2089) hS_X12_reckon rfl (Nat.le_of_ble_eq_true rfl) dX12_works_56 ⟨Nat.le_of_ble_eq_true rfl, Nat.le_of_ble_eq_true rfl⟩ ⟨Nat.le_of_ble_eq_true rfl, Nat.le_of_ble_eq_true rfl⟩ (fun v13 u11 H locs hw12 hP hS => ?_)
      obtain ⟨r14, rfl⟩ := hw12
      refine W.widen (k := 0) (n := 0) (Nat.le_of_ble_eq_true rfl) (Nat.le_of_ble_eq_true rfl) ?_
      refine W.eq (g2 := F0 m 59 ls [.int r14, .int (nI p9), .ref h0]) rfl ?_
      have hP : va_P G.1 pCl (mW G h0 a (upd (upd (upd (upd (upd (upd (upd (upd (upd (upd F 102 (nI op)) 111 (nI ((tp - 1) - 1))) 115 (nI wn)) 116 (-1)) 117 (nI fu)) 118 rs0) 119 uc0) 125 nw) 126 isn) 111 (nI ((tp - 1) - 1))) (updA (updA B 68 (B 68)) 69 (B 69))) _ := hP
      have hD : va_D A (mW G h0 a (upd (upd (upd (upd (upd (upd (upd (upd (upd (upd F 102 (nI op)) 111 (nI ((tp - 1) - 1))) 115 (nI wn)) 116 (-1)) 117 (nI fu)) 118 rs0) 119 uc0) 125 nw) 126 isn) 111 (nI ((tp - 1) - 1))) (updA (updA B 68 (B 68)) 69 (B 69))) := mW_D hD
      refine pc_V0 (G := G) (As := [.int (nI p9), .int r14]) (rest := []) hx hb hml hown hq hE hX pX0_al hP hD hS hA hl.1 (R_gives l G h0 a (upd (upd (upd (upd (upd (upd (upd (upd (upd F 102 (nI op)) 111 (nI ((tp - 1) - 1))) 115 (nI wn)) 116 (-1)) 117 (nI fu)) 118 rs0) 119 uc0) 125 nw) 126 isn) B p9 t9 ((tp - 1) - 1) r14 (B 68) (B 69) (by omega) hm3 (by omega) (by omega)) (gV pw_2069 pw_2070 pw_2071 pw_1523 pw_2006) hV_X12_gives 0 9 rfl rfl rfl rfl (Nat.le_of_ble_eq_true rfl) dX12_works_59 ⟨Nat.le_of_ble_eq_true rfl, Nat.le_of_ble_eq_true rfl⟩ ⟨Nat.le_of_ble_eq_true rfl, Nat.le_of_ble_eq_true rfl⟩ (fun v17 u15 H locs hw16 hP hD hS => ?_)
      obtain ⟨b18, rf19⟩ := u15
      obtain ⟨hw16, h20, h21⟩ := hw16
      replace h20 : rf19 = upd (B 69) ((tp - 1) - 1) (nI b18) := h20
      replace h21 : b18 ≤ 1 ∧ 3 * b18 ≤ t9 ∧ t9 ≤ 2 + 9000 * b18 := h21
      obtain rfl : v17 = none := hw16
      have hP : va_P G.1 pCl (mW G h0 a (upd (upd (upd (upd (upd (upd (upd (upd (upd F 102 (nI op)) 111 (nI (((tp - 1) - 1) + 1))) 115 (nI wn)) 116 (-1)) 117 (nI fu)) 118 rs0) 119 uc0) 125 (nI p9)) 126 0) (updA (updA B 68 (upd (B 68) ((tp - 1) - 1) r14)) 69 rf19)) _ := mW_to (F := F) (l1 := [(102, (nI op)), (111, (nI ((tp - 1) - 1))), (115, (nI wn)), (116, (-1)), (117, (nI fu)), (118, rs0), (119, uc0), (125, nw), (126, isn), (111, (nI (((tp - 1) - 1) + 1))), (125, (nI p9)), (126, 0)]) (l2 := [(102, (nI op)), (111, (nI (((tp - 1) - 1) + 1))), (115, (nI wn)), (116, (-1)), (117, (nI fu)), (118, rs0), (119, uc0), (125, (nI p9)), (126, 0)]) (V := [(nI op), (nI (((tp - 1) - 1) + 1)), (nI wn), (-1), (nI fu), rs0, uc0, (nI p9), 0, (nI (((tp - 1) - 1) + 1)), (nI p9), 0, (nI op), (nI (((tp - 1) - 1) + 1)), (nI wn), (-1), (nI fu), rs0, uc0, (nI p9), 0]) rfl rfl rfl hP
      have hD : va_D A (mW G h0 a (upd (upd (upd (upd (upd (upd (upd (upd (upd F 102 (nI op)) 111 (nI (((tp - 1) - 1) + 1))) 115 (nI wn)) 116 (-1)) 117 (nI fu)) 118 rs0) 119 uc0) 125 (nI p9)) 126 0) (updA (updA B 68 (upd (B 68) ((tp - 1) - 1) r14)) 69 rf19)) := mW_D hD
      refine W.widen (k := 0) (n := 0) (Nat.le_of_ble_eq_true rfl) (Nat.le_of_ble_eq_true rfl) ?_
      refine W.eq (g2 := F0 m 62 ls []) rfl ?_
      obtain rfl : rf19 = _ := h20
      have hP : va_P G.1 pCl (mW G h0 a (upd (upd (upd (upd (upd (upd (upd (upd (upd F 102 (nI op)) 111 (nI (((tp - 1) - 1) + 1))) 115 (nI wn)) 116 (-1)) 117 (nI fu)) 118 rs0) 119 uc0) 125 (nI p9)) 126 0) (updA (updA B 68 (upd (B 68) ((tp - 1) - 1) r14)) 69 (upd (B 69) ((tp - 1) - 1) (nI b18)))) _ := hP
      have hD : va_D A (mW G h0 a (upd (upd (upd (upd (upd (upd (upd (upd (upd F 102 (nI op)) 111 (nI (((tp - 1) - 1) + 1))) 115 (nI wn)) 116 (-1)) 117 (nI fu)) 118 rs0) 119 uc0) 125 (nI p9)) 126 0) (updA (updA B 68 (upd (B 68) ((tp - 1) - 1) r14)) 69 (upd (B 69) ((tp - 1) - 1) (nI b18)))) := mW_D hD
      have hz22 : Nx Xs (updA (updA B 68 (upd (B 68) ((tp - 1) - 1) r14)) 69 (upd (B 69) ((tp - 1) - 1) (nI b18))) gh nd T nm wr lz dc fd md pr bk M rmm fu (Phi gh ps op (rkN gh n9 true)) op (((tp - 1) - 1) + 1) wn fu rd on idn fl ct ((-1) : Int32) (nI p9) (0 : Int32) uc0 := (hR.givesUp hp hst hkd (by omega) (fun h => absurd h (by omega)) hm3 (by unfold TyC; omega) (by omega) (VTd.num (by omega)) h21 (by omega))
      have hP : va_P G.1 pCl (mW G h0 a (upd (upd (upd (upd (upd (upd (upd (upd (upd F 102 (nI op)) 111 (nI (((tp - 1) - 1) + 1))) 115 (nI wn)) 116 ((-1) : Int32)) 117 (nI fu)) 118 rs0) 119 uc0) 125 (nI p9)) 126 (0 : Int32)) (updA (updA B 68 (upd (B 68) ((tp - 1) - 1) r14)) 69 (upd (B 69) ((tp - 1) - 1) (nI b18)))) _ := mW_to (F := F) (l1 := [(102, (nI op)), (111, (nI (((tp - 1) - 1) + 1))), (115, (nI wn)), (116, (-1)), (117, (nI fu)), (118, rs0), (119, uc0), (125, (nI p9)), (126, 0)]) (l2 := [(102, (nI op)), (111, (nI (((tp - 1) - 1) + 1))), (115, (nI wn)), (116, ((-1) : Int32)), (117, (nI fu)), (118, rs0), (119, uc0), (125, (nI p9)), (126, (0 : Int32))]) (V := [(nI op), (nI (((tp - 1) - 1) + 1)), (nI wn), ((-1) : Int32), (nI fu), rs0, uc0, (nI p9), (0 : Int32), (nI op), (nI (((tp - 1) - 1) + 1)), (nI wn), ((-1) : Int32), (nI fu), rs0, uc0, (nI p9), (0 : Int32)]) rfl rfl rfl hP
      have hD : va_D A (mW G h0 a (upd (upd (upd (upd (upd (upd (upd (upd (upd F 102 (nI op)) 111 (nI (((tp - 1) - 1) + 1))) 115 (nI wn)) 116 ((-1) : Int32)) 117 (nI fu)) 118 rs0) 119 uc0) 125 (nI p9)) 126 (0 : Int32)) (updA (updA B 68 (upd (B 68) ((tp - 1) - 1) r14)) 69 (upd (B 69) ((tp - 1) - 1) (nI b18)))) := mW_D hD
      exact W.vret hx hb hr (fun t9 ht9 hW9 => ⟨⟨_, (op, (((tp - 1) - 1) + 1), wn, fu, ((-1) : Int32), (nI p9), (0 : Int32), rs0, uc0, (updA (updA B 68 (upd (B 68) ((tp - 1) - 1) r14)) 69 (upd (B 69) ((tp - 1) - 1) (nI b18)))), rfl, ⟨rfl, hz22⟩, by rw [ht9]; exact hP, hD⟩, hS.F ht9⟩) hS.2.2 dX12_works_62
    · refine lv_aload_n hx hb dX12_works_41 rfl (lv_at hl 3 rfl) ?_
      refine lv_iload_n hx hb dX12_works_42 rfl (lv_at hl 4 rfl) ?_
      refine lv_sipush (v := 4003) hx hb dX12_works_43 (by decide) ?_
      have hln23 := (Rn.lnP hR hp hst hkd (by omega) (by omega)).1
      have hP : va_P G.1 pCl (mW G h0 a (upd (upd (upd (upd (upd (upd (upd (upd (upd (upd (upd (upd (upd (upd (upd (upd (upd (upd F 102 (nI op)) 111 (nI ((tp - 1) - 1))) 115 (nI wn)) 116 (-1)) 117 (nI fu)) 118 rs0) 119 uc0) 125 nw) 126 isn) 102 (nI op)) 111 (nI ((tp - 1) - 1))) 115 (nI wn)) 116 (-1)) 117 (nI fu)) 118 rs0) 119 uc0) 125 nw) 126 isn) B) _ := mW_to (F := F) (l1 := [(102, (nI op)), (111, (nI ((tp - 1) - 1))), (115, (nI wn)), (116, (-1)), (117, (nI fu)), (118, rs0), (119, uc0), (125, nw), (126, isn)]) (l2 := [(102, (nI op)), (111, (nI ((tp - 1) - 1))), (115, (nI wn)), (116, (-1)), (117, (nI fu)), (118, rs0), (119, uc0), (125, nw), (126, isn), (102, (nI op)), (111, (nI ((tp - 1) - 1))), (115, (nI wn)), (116, (-1)), (117, (nI fu)), (118, rs0), (119, uc0), (125, nw), (126, isn)]) (V := [(nI op), (nI ((tp - 1) - 1)), (nI wn), (-1), (nI fu), rs0, uc0, nw, isn, (nI op), (nI ((tp - 1) - 1)), (nI wn), (-1), (nI fu), rs0, uc0, nw, isn, (nI op), (nI ((tp - 1) - 1)), (nI wn), (-1), (nI fu), rs0, uc0, nw, isn]) rfl rfl rfl hP
      have hD : va_D A (mW G h0 a (upd (upd (upd (upd (upd (upd (upd (upd (upd (upd (upd (upd (upd (upd (upd (upd (upd (upd F 102 (nI op)) 111 (nI ((tp - 1) - 1))) 115 (nI wn)) 116 (-1)) 117 (nI fu)) 118 rs0) 119 uc0) 125 nw) 126 isn) 102 (nI op)) 111 (nI ((tp - 1) - 1))) 115 (nI wn)) 116 (-1)) 117 (nI fu)) 118 rs0) 119 uc0) 125 nw) 126 isn) B) := mW_D hD
      refine pc_V0 (G := G) (As := [.int (nI p9), .int (nI 4003)]) (rest := []) hx hb hml hown hq hE hX pX0_al hP hD hS hA hl.1 (R_raises l G h0 a (upd (upd (upd (upd (upd (upd (upd (upd (upd F 102 (nI op)) 111 (nI ((tp - 1) - 1))) 115 (nI wn)) 116 (-1)) 117 (nI fu)) 118 rs0) 119 uc0) 125 nw) 126 isn) B Xs gh nd T nm wr lz dc fd md pr bk M rmm (Phi gh ps op (rkN gh n9 true)) op wn fu rd on idn fl ct p9 4003 (4003 - 4000) mt ps (yyU yy (op - 1) u) bf wf (nI ((tp - 1) - 1)) nw isn rs0 uc0 hln23 (by omega) (by omega) (Or.inr (by omega)) (clF_1 (by omega)) (by omega)) (gV pw_2054 pw_2055 pw_2056 pw_1523 pw_2053) hV_X12_raises 0 9 rfl rfl rfl rfl (Nat.le_of_ble_eq_true rfl) dX12_works_46 ⟨Nat.le_of_ble_eq_true rfl, Nat.le_of_ble_eq_true rfl⟩ ⟨Nat.le_of_ble_eq_true rfl, Nat.le_of_ble_eq_true rfl⟩ (fun v26 u24 H locs hw25 hP hD hS => ?_)
      obtain ⟨op27, tp28, wn29, fu30, en31, nw32, is33, rs34, uc35, X36⟩ := u24
      obtain ⟨hw25, h37⟩ := hw25
      replace h37 : Nx Xs X36 gh nd T nm wr lz dc fd md pr bk M rmm fu (Phi gh ps op (rkN gh n9 true)) op27 tp28 wn29 fu30 rd on idn fl ct en31 nw32 is33 uc35 := h37
      obtain rfl : v26 = none := hw25
      have hP : va_P G.1 pCl (mW G h0 a (upd (upd (upd (upd (upd (upd (upd (upd (upd F 102 (nI op27)) 111 (nI tp28)) 115 (nI wn29)) 116 en31) 117 (nI fu30)) 118 rs34) 119 uc35) 125 nw32) 126 is33) X36) _ := mW_to (F := F) (l1 := [(102, (nI op)), (111, (nI ((tp - 1) - 1))), (115, (nI wn)), (116, (-1)), (117, (nI fu)), (118, rs0), (119, uc0), (125, nw), (126, isn), (102, (nI op27)), (111, (nI tp28)), (115, (nI wn29)), (116, en31), (117, (nI fu30)), (118, rs34), (119, uc35), (125, nw32), (126, is33)]) (l2 := [(102, (nI op27)), (111, (nI tp28)), (115, (nI wn29)), (116, en31), (117, (nI fu30)), (118, rs34), (119, uc35), (125, nw32), (126, is33)]) (V := [(nI op27), (nI tp28), (nI wn29), en31, (nI fu30), rs34, uc35, nw32, is33, (nI op27), (nI tp28), (nI wn29), en31, (nI fu30), rs34, uc35, nw32, is33, (nI op27), (nI tp28), (nI wn29), en31, (nI fu30), rs34, uc35, nw32, is33]) rfl rfl rfl hP
      have hD : va_D A (mW G h0 a (upd (upd (upd (upd (upd (upd (upd (upd (upd F 102 (nI op27)) 111 (nI tp28)) 115 (nI wn29)) 116 en31) 117 (nI fu30)) 118 rs34) 119 uc35) 125 nw32) 126 is33) X36) := mW_D hD
      refine W.widen (k := 0) (n := 0) (Nat.le_of_ble_eq_true rfl) (Nat.le_of_ble_eq_true rfl) ?_
      refine W.eq (g2 := F0 m 49 ls []) rfl ?_
      have hz38 : Nx Xs X36 gh nd T nm wr lz dc fd md pr bk M rmm fu (Phi gh ps op (rkN gh n9 true)) op27 tp28 wn29 fu30 rd on idn fl ct en31 nw32 is33 uc35 := h37
      have hP : va_P G.1 pCl (mW G h0 a (upd (upd (upd (upd (upd (upd (upd (upd (upd F 102 (nI op27)) 111 (nI tp28)) 115 (nI wn29)) 116 en31) 117 (nI fu30)) 118 rs34) 119 uc35) 125 nw32) 126 is33) X36) _ := hP
      have hD : va_D A (mW G h0 a (upd (upd (upd (upd (upd (upd (upd (upd (upd F 102 (nI op27)) 111 (nI tp28)) 115 (nI wn29)) 116 en31) 117 (nI fu30)) 118 rs34) 119 uc35) 125 nw32) 126 is33) X36) := mW_D hD
      exact W.vret hx hb hr (fun t9 ht9 hW9 => ⟨⟨_, (op27, tp28, wn29, fu30, en31, nw32, is33, rs34, uc35, X36), rfl, ⟨rfl, hz38⟩, by rw [ht9]; exact hP, hD⟩, hS.F ht9⟩) hS.2.2 dX12_works_49
  · refine lv_iload hx hb dX12_works_30 (lv_at hl 0 rfl) ?_
    refine lv_bipush (v := 37) hx hb dX12_works_32 (by decide) ?_
    refine lv_icmp_ne (tgt := 50) hx hb dX12_works_34 (by decide) (fun c39 => ?_) (fun c39 => ?_)
    · refine lv_aload_n hx hb dX12_works_50 rfl (lv_at hl 3 rfl) ?_
      refine lv_iload_n hx hb dX12_works_51 rfl (lv_at hl 4 rfl) ?_
      refine lv_iload hx hb dX12_works_52 (lv_at hl 0 rfl) ?_
      refine lv_iload_n hx hb dX12_works_54 rfl (lv_at hl 1 rfl) ?_
      refine lv_iload_n hx hb dX12_works_55 rfl (lv_at hl 2 rfl) ?_
      refine pc_SN (G := G) (As := [.int ((B 2) tk9), .int ((B 68) ((tp - 1) - 1)), .int ((B 68) (tp - 1))]) (rest := [.int (nI p9), .ref h0]) hx hb hml hown hq hE hX pX0_al hP hS hA hl.1 (s_reckon l G ((B 2) tk9) ((B 68) ((tp - 1) - 1)) ((B 68) (tp - 1)) (Or.inr ⟨c9, c39, by rw [hw2]; exact hm7⟩)) (gS pw_2090 pw_2091 pw_1523 pw_2089) hS_X12_reckon rfl (Nat.le_of_ble_eq_true rfl) dX12_works_56 ⟨Nat.le_of_ble_eq_true rfl, Nat.le_of_ble_eq_true rfl⟩ ⟨Nat.le_of_ble_eq_true rfl, Nat.le_of_ble_eq_true rfl⟩ (fun v42 u40 H locs hw41 hP hS => ?_)
      obtain ⟨r43, rfl⟩ := hw41
      refine W.widen (k := 0) (n := 0) (Nat.le_of_ble_eq_true rfl) (Nat.le_of_ble_eq_true rfl) ?_
      refine W.eq (g2 := F0 m 59 ls [.int r43, .int (nI p9), .ref h0]) rfl ?_
      have hP : va_P G.1 pCl (mW G h0 a (upd (upd (upd (upd (upd (upd (upd (upd (upd (upd F 102 (nI op)) 111 (nI ((tp - 1) - 1))) 115 (nI wn)) 116 (-1)) 117 (nI fu)) 118 rs0) 119 uc0) 125 nw) 126 isn) 111 (nI ((tp - 1) - 1))) (updA (updA B 68 (B 68)) 69 (B 69))) _ := hP
      have hD : va_D A (mW G h0 a (upd (upd (upd (upd (upd (upd (upd (upd (upd (upd F 102 (nI op)) 111 (nI ((tp - 1) - 1))) 115 (nI wn)) 116 (-1)) 117 (nI fu)) 118 rs0) 119 uc0) 125 nw) 126 isn) 111 (nI ((tp - 1) - 1))) (updA (updA B 68 (B 68)) 69 (B 69))) := mW_D hD
      refine pc_V0 (G := G) (As := [.int (nI p9), .int r43]) (rest := []) hx hb hml hown hq hE hX pX0_al hP hD hS hA hl.1 (R_gives l G h0 a (upd (upd (upd (upd (upd (upd (upd (upd (upd F 102 (nI op)) 111 (nI ((tp - 1) - 1))) 115 (nI wn)) 116 (-1)) 117 (nI fu)) 118 rs0) 119 uc0) 125 nw) 126 isn) B p9 t9 ((tp - 1) - 1) r43 (B 68) (B 69) (by omega) hm3 (by omega) (by omega)) (gV pw_2069 pw_2070 pw_2071 pw_1523 pw_2006) hV_X12_gives 0 9 rfl rfl rfl rfl (Nat.le_of_ble_eq_true rfl) dX12_works_59 ⟨Nat.le_of_ble_eq_true rfl, Nat.le_of_ble_eq_true rfl⟩ ⟨Nat.le_of_ble_eq_true rfl, Nat.le_of_ble_eq_true rfl⟩ (fun v46 u44 H locs hw45 hP hD hS => ?_)
      obtain ⟨b47, rf48⟩ := u44
      obtain ⟨hw45, h49, h50⟩ := hw45
      replace h49 : rf48 = upd (B 69) ((tp - 1) - 1) (nI b47) := h49
      replace h50 : b47 ≤ 1 ∧ 3 * b47 ≤ t9 ∧ t9 ≤ 2 + 9000 * b47 := h50
      obtain rfl : v46 = none := hw45
      have hP : va_P G.1 pCl (mW G h0 a (upd (upd (upd (upd (upd (upd (upd (upd (upd F 102 (nI op)) 111 (nI (((tp - 1) - 1) + 1))) 115 (nI wn)) 116 (-1)) 117 (nI fu)) 118 rs0) 119 uc0) 125 (nI p9)) 126 0) (updA (updA B 68 (upd (B 68) ((tp - 1) - 1) r43)) 69 rf48)) _ := mW_to (F := F) (l1 := [(102, (nI op)), (111, (nI ((tp - 1) - 1))), (115, (nI wn)), (116, (-1)), (117, (nI fu)), (118, rs0), (119, uc0), (125, nw), (126, isn), (111, (nI (((tp - 1) - 1) + 1))), (125, (nI p9)), (126, 0)]) (l2 := [(102, (nI op)), (111, (nI (((tp - 1) - 1) + 1))), (115, (nI wn)), (116, (-1)), (117, (nI fu)), (118, rs0), (119, uc0), (125, (nI p9)), (126, 0)]) (V := [(nI op), (nI (((tp - 1) - 1) + 1)), (nI wn), (-1), (nI fu), rs0, uc0, (nI p9), 0, (nI (((tp - 1) - 1) + 1)), (nI p9), 0, (nI op), (nI (((tp - 1) - 1) + 1)), (nI wn), (-1), (nI fu), rs0, uc0, (nI p9), 0]) rfl rfl rfl hP
      have hD : va_D A (mW G h0 a (upd (upd (upd (upd (upd (upd (upd (upd (upd F 102 (nI op)) 111 (nI (((tp - 1) - 1) + 1))) 115 (nI wn)) 116 (-1)) 117 (nI fu)) 118 rs0) 119 uc0) 125 (nI p9)) 126 0) (updA (updA B 68 (upd (B 68) ((tp - 1) - 1) r43)) 69 rf48)) := mW_D hD
      refine W.widen (k := 0) (n := 0) (Nat.le_of_ble_eq_true rfl) (Nat.le_of_ble_eq_true rfl) ?_
      refine W.eq (g2 := F0 m 62 ls []) rfl ?_
      obtain rfl : rf48 = _ := h49
      have hP : va_P G.1 pCl (mW G h0 a (upd (upd (upd (upd (upd (upd (upd (upd (upd F 102 (nI op)) 111 (nI (((tp - 1) - 1) + 1))) 115 (nI wn)) 116 (-1)) 117 (nI fu)) 118 rs0) 119 uc0) 125 (nI p9)) 126 0) (updA (updA B 68 (upd (B 68) ((tp - 1) - 1) r43)) 69 (upd (B 69) ((tp - 1) - 1) (nI b47)))) _ := hP
      have hD : va_D A (mW G h0 a (upd (upd (upd (upd (upd (upd (upd (upd (upd F 102 (nI op)) 111 (nI (((tp - 1) - 1) + 1))) 115 (nI wn)) 116 (-1)) 117 (nI fu)) 118 rs0) 119 uc0) 125 (nI p9)) 126 0) (updA (updA B 68 (upd (B 68) ((tp - 1) - 1) r43)) 69 (upd (B 69) ((tp - 1) - 1) (nI b47)))) := mW_D hD
      have hz51 : Nx Xs (updA (updA B 68 (upd (B 68) ((tp - 1) - 1) r43)) 69 (upd (B 69) ((tp - 1) - 1) (nI b47))) gh nd T nm wr lz dc fd md pr bk M rmm fu (Phi gh ps op (rkN gh n9 true)) op (((tp - 1) - 1) + 1) wn fu rd on idn fl ct ((-1) : Int32) (nI p9) (0 : Int32) uc0 := (hR.givesUp hp hst hkd (by omega) (fun h => absurd h (by omega)) hm3 (by unfold TyC; omega) (by omega) (VTd.num (by omega)) h50 (by omega))
      have hP : va_P G.1 pCl (mW G h0 a (upd (upd (upd (upd (upd (upd (upd (upd (upd F 102 (nI op)) 111 (nI (((tp - 1) - 1) + 1))) 115 (nI wn)) 116 ((-1) : Int32)) 117 (nI fu)) 118 rs0) 119 uc0) 125 (nI p9)) 126 (0 : Int32)) (updA (updA B 68 (upd (B 68) ((tp - 1) - 1) r43)) 69 (upd (B 69) ((tp - 1) - 1) (nI b47)))) _ := mW_to (F := F) (l1 := [(102, (nI op)), (111, (nI (((tp - 1) - 1) + 1))), (115, (nI wn)), (116, (-1)), (117, (nI fu)), (118, rs0), (119, uc0), (125, (nI p9)), (126, 0)]) (l2 := [(102, (nI op)), (111, (nI (((tp - 1) - 1) + 1))), (115, (nI wn)), (116, ((-1) : Int32)), (117, (nI fu)), (118, rs0), (119, uc0), (125, (nI p9)), (126, (0 : Int32))]) (V := [(nI op), (nI (((tp - 1) - 1) + 1)), (nI wn), ((-1) : Int32), (nI fu), rs0, uc0, (nI p9), (0 : Int32), (nI op), (nI (((tp - 1) - 1) + 1)), (nI wn), ((-1) : Int32), (nI fu), rs0, uc0, (nI p9), (0 : Int32)]) rfl rfl rfl hP
      have hD : va_D A (mW G h0 a (upd (upd (upd (upd (upd (upd (upd (upd (upd F 102 (nI op)) 111 (nI (((tp - 1) - 1) + 1))) 115 (nI wn)) 116 ((-1) : Int32)) 117 (nI fu)) 118 rs0) 119 uc0) 125 (nI p9)) 126 (0 : Int32)) (updA (updA B 68 (upd (B 68) ((tp - 1) - 1) r43)) 69 (upd (B 69) ((tp - 1) - 1) (nI b47)))) := mW_D hD
      exact W.vret hx hb hr (fun t9 ht9 hW9 => ⟨⟨_, (op, (((tp - 1) - 1) + 1), wn, fu, ((-1) : Int32), (nI p9), (0 : Int32), rs0, uc0, (updA (updA B 68 (upd (B 68) ((tp - 1) - 1) r43)) 69 (upd (B 69) ((tp - 1) - 1) (nI b47)))), rfl, ⟨rfl, hz51⟩, by rw [ht9]; exact hP, hD⟩, hS.F ht9⟩) hS.2.2 dX12_works_62
    · refine lv_iload_n hx hb dX12_works_37 rfl (lv_at hl 2 rfl) ?_
      refine lv_if_ne (tgt := 50) hx hb dX12_works_38 (by decide) (fun c52 => ?_) (fun c52 => ?_)
      · refine lv_aload_n hx hb dX12_works_50 rfl (lv_at hl 3 rfl) ?_
        refine lv_iload_n hx hb dX12_works_51 rfl (lv_at hl 4 rfl) ?_
        refine lv_iload hx hb dX12_works_52 (lv_at hl 0 rfl) ?_
        refine lv_iload_n hx hb dX12_works_54 rfl (lv_at hl 1 rfl) ?_
        refine lv_iload_n hx hb dX12_works_55 rfl (lv_at hl 2 rfl) ?_
        refine pc_SN (G := G) (As := [.int ((B 2) tk9), .int ((B 68) ((tp - 1) - 1)), .int ((B 68) (tp - 1))]) (rest := [.int (nI p9), .ref h0]) hx hb hml hown hq hE hX pX0_al hP hS hA hl.1 (s_reckon l G ((B 2) tk9) ((B 68) ((tp - 1) - 1)) ((B 68) (tp - 1)) (Or.inl c52)) (gS pw_2090 pw_2091 pw_1523 pw_2089) hS_X12_reckon rfl (Nat.le_of_ble_eq_true rfl) dX12_works_56 ⟨Nat.le_of_ble_eq_true rfl, Nat.le_of_ble_eq_true rfl⟩ ⟨Nat.le_of_ble_eq_true rfl, Nat.le_of_ble_eq_true rfl⟩ (fun v55 u53 H locs hw54 hP hS => ?_)
        obtain ⟨r56, rfl⟩ := hw54
        refine W.widen (k := 0) (n := 0) (Nat.le_of_ble_eq_true rfl) (Nat.le_of_ble_eq_true rfl) ?_
        refine W.eq (g2 := F0 m 59 ls [.int r56, .int (nI p9), .ref h0]) rfl ?_
        have hP : va_P G.1 pCl (mW G h0 a (upd (upd (upd (upd (upd (upd (upd (upd (upd (upd F 102 (nI op)) 111 (nI ((tp - 1) - 1))) 115 (nI wn)) 116 (-1)) 117 (nI fu)) 118 rs0) 119 uc0) 125 nw) 126 isn) 111 (nI ((tp - 1) - 1))) (updA (updA B 68 (B 68)) 69 (B 69))) _ := hP
        have hD : va_D A (mW G h0 a (upd (upd (upd (upd (upd (upd (upd (upd (upd (upd F 102 (nI op)) 111 (nI ((tp - 1) - 1))) 115 (nI wn)) 116 (-1)) 117 (nI fu)) 118 rs0) 119 uc0) 125 nw) 126 isn) 111 (nI ((tp - 1) - 1))) (updA (updA B 68 (B 68)) 69 (B 69))) := mW_D hD
        refine pc_V0 (G := G) (As := [.int (nI p9), .int r56]) (rest := []) hx hb hml hown hq hE hX pX0_al hP hD hS hA hl.1 (R_gives l G h0 a (upd (upd (upd (upd (upd (upd (upd (upd (upd F 102 (nI op)) 111 (nI ((tp - 1) - 1))) 115 (nI wn)) 116 (-1)) 117 (nI fu)) 118 rs0) 119 uc0) 125 nw) 126 isn) B p9 t9 ((tp - 1) - 1) r56 (B 68) (B 69) (by omega) hm3 (by omega) (by omega)) (gV pw_2069 pw_2070 pw_2071 pw_1523 pw_2006) hV_X12_gives 0 9 rfl rfl rfl rfl (Nat.le_of_ble_eq_true rfl) dX12_works_59 ⟨Nat.le_of_ble_eq_true rfl, Nat.le_of_ble_eq_true rfl⟩ ⟨Nat.le_of_ble_eq_true rfl, Nat.le_of_ble_eq_true rfl⟩ (fun v59 u57 H locs hw58 hP hD hS => ?_)
        obtain ⟨b60, rf61⟩ := u57
        obtain ⟨hw58, h62, h63⟩ := hw58
        replace h62 : rf61 = upd (B 69) ((tp - 1) - 1) (nI b60) := h62
        replace h63 : b60 ≤ 1 ∧ 3 * b60 ≤ t9 ∧ t9 ≤ 2 + 9000 * b60 := h63
        obtain rfl : v59 = none := hw58
        have hP : va_P G.1 pCl (mW G h0 a (upd (upd (upd (upd (upd (upd (upd (upd (upd F 102 (nI op)) 111 (nI (((tp - 1) - 1) + 1))) 115 (nI wn)) 116 (-1)) 117 (nI fu)) 118 rs0) 119 uc0) 125 (nI p9)) 126 0) (updA (updA B 68 (upd (B 68) ((tp - 1) - 1) r56)) 69 rf61)) _ := mW_to (F := F) (l1 := [(102, (nI op)), (111, (nI ((tp - 1) - 1))), (115, (nI wn)), (116, (-1)), (117, (nI fu)), (118, rs0), (119, uc0), (125, nw), (126, isn), (111, (nI (((tp - 1) - 1) + 1))), (125, (nI p9)), (126, 0)]) (l2 := [(102, (nI op)), (111, (nI (((tp - 1) - 1) + 1))), (115, (nI wn)), (116, (-1)), (117, (nI fu)), (118, rs0), (119, uc0), (125, (nI p9)), (126, 0)]) (V := [(nI op), (nI (((tp - 1) - 1) + 1)), (nI wn), (-1), (nI fu), rs0, uc0, (nI p9), 0, (nI (((tp - 1) - 1) + 1)), (nI p9), 0, (nI op), (nI (((tp - 1) - 1) + 1)), (nI wn), (-1), (nI fu), rs0, uc0, (nI p9), 0]) rfl rfl rfl hP
        have hD : va_D A (mW G h0 a (upd (upd (upd (upd (upd (upd (upd (upd (upd F 102 (nI op)) 111 (nI (((tp - 1) - 1) + 1))) 115 (nI wn)) 116 (-1)) 117 (nI fu)) 118 rs0) 119 uc0) 125 (nI p9)) 126 0) (updA (updA B 68 (upd (B 68) ((tp - 1) - 1) r56)) 69 rf61)) := mW_D hD
        refine W.widen (k := 0) (n := 0) (Nat.le_of_ble_eq_true rfl) (Nat.le_of_ble_eq_true rfl) ?_
        refine W.eq (g2 := F0 m 62 ls []) rfl ?_
        obtain rfl : rf61 = _ := h62
        have hP : va_P G.1 pCl (mW G h0 a (upd (upd (upd (upd (upd (upd (upd (upd (upd F 102 (nI op)) 111 (nI (((tp - 1) - 1) + 1))) 115 (nI wn)) 116 (-1)) 117 (nI fu)) 118 rs0) 119 uc0) 125 (nI p9)) 126 0) (updA (updA B 68 (upd (B 68) ((tp - 1) - 1) r56)) 69 (upd (B 69) ((tp - 1) - 1) (nI b60)))) _ := hP
        have hD : va_D A (mW G h0 a (upd (upd (upd (upd (upd (upd (upd (upd (upd F 102 (nI op)) 111 (nI (((tp - 1) - 1) + 1))) 115 (nI wn)) 116 (-1)) 117 (nI fu)) 118 rs0) 119 uc0) 125 (nI p9)) 126 0) (updA (updA B 68 (upd (B 68) ((tp - 1) - 1) r56)) 69 (upd (B 69) ((tp - 1) - 1) (nI b60)))) := mW_D hD
        have hz64 : Nx Xs (updA (updA B 68 (upd (B 68) ((tp - 1) - 1) r56)) 69 (upd (B 69) ((tp - 1) - 1) (nI b60))) gh nd T nm wr lz dc fd md pr bk M rmm fu (Phi gh ps op (rkN gh n9 true)) op (((tp - 1) - 1) + 1) wn fu rd on idn fl ct ((-1) : Int32) (nI p9) (0 : Int32) uc0 := (hR.givesUp hp hst hkd (by omega) (fun h => absurd h (by omega)) hm3 (by unfold TyC; omega) (by omega) (VTd.num (by omega)) h63 (by omega))
        have hP : va_P G.1 pCl (mW G h0 a (upd (upd (upd (upd (upd (upd (upd (upd (upd F 102 (nI op)) 111 (nI (((tp - 1) - 1) + 1))) 115 (nI wn)) 116 ((-1) : Int32)) 117 (nI fu)) 118 rs0) 119 uc0) 125 (nI p9)) 126 (0 : Int32)) (updA (updA B 68 (upd (B 68) ((tp - 1) - 1) r56)) 69 (upd (B 69) ((tp - 1) - 1) (nI b60)))) _ := mW_to (F := F) (l1 := [(102, (nI op)), (111, (nI (((tp - 1) - 1) + 1))), (115, (nI wn)), (116, (-1)), (117, (nI fu)), (118, rs0), (119, uc0), (125, (nI p9)), (126, 0)]) (l2 := [(102, (nI op)), (111, (nI (((tp - 1) - 1) + 1))), (115, (nI wn)), (116, ((-1) : Int32)), (117, (nI fu)), (118, rs0), (119, uc0), (125, (nI p9)), (126, (0 : Int32))]) (V := [(nI op), (nI (((tp - 1) - 1) + 1)), (nI wn), ((-1) : Int32), (nI fu), rs0, uc0, (nI p9), (0 : Int32), (nI op), (nI (((tp - 1) - 1) + 1)), (nI wn), ((-1) : Int32), (nI fu), rs0, uc0, (nI p9), (0 : Int32)]) rfl rfl rfl hP
        have hD : va_D A (mW G h0 a (upd (upd (upd (upd (upd (upd (upd (upd (upd F 102 (nI op)) 111 (nI (((tp - 1) - 1) + 1))) 115 (nI wn)) 116 ((-1) : Int32)) 117 (nI fu)) 118 rs0) 119 uc0) 125 (nI p9)) 126 (0 : Int32)) (updA (updA B 68 (upd (B 68) ((tp - 1) - 1) r56)) 69 (upd (B 69) ((tp - 1) - 1) (nI b60)))) := mW_D hD
        exact W.vret hx hb hr (fun t9 ht9 hW9 => ⟨⟨_, (op, (((tp - 1) - 1) + 1), wn, fu, ((-1) : Int32), (nI p9), (0 : Int32), rs0, uc0, (updA (updA B 68 (upd (B 68) ((tp - 1) - 1) r56)) 69 (upd (B 69) ((tp - 1) - 1) (nI b60)))), rfl, ⟨rfl, hz64⟩, by rw [ht9]; exact hP, hD⟩, hS.F ht9⟩) hS.2.2 dX12_works_62
      · refine lv_aload_n hx hb dX12_works_41 rfl (lv_at hl 3 rfl) ?_
        refine lv_iload_n hx hb dX12_works_42 rfl (lv_at hl 4 rfl) ?_
        refine lv_sipush (v := 4003) hx hb dX12_works_43 (by decide) ?_
        have hln65 := (Rn.lnP hR hp hst hkd (by omega) (by omega)).1
        have hP : va_P G.1 pCl (mW G h0 a (upd (upd (upd (upd (upd (upd (upd (upd (upd (upd (upd (upd (upd (upd (upd (upd (upd (upd F 102 (nI op)) 111 (nI ((tp - 1) - 1))) 115 (nI wn)) 116 (-1)) 117 (nI fu)) 118 rs0) 119 uc0) 125 nw) 126 isn) 102 (nI op)) 111 (nI ((tp - 1) - 1))) 115 (nI wn)) 116 (-1)) 117 (nI fu)) 118 rs0) 119 uc0) 125 nw) 126 isn) B) _ := mW_to (F := F) (l1 := [(102, (nI op)), (111, (nI ((tp - 1) - 1))), (115, (nI wn)), (116, (-1)), (117, (nI fu)), (118, rs0), (119, uc0), (125, nw), (126, isn)]) (l2 := [(102, (nI op)), (111, (nI ((tp - 1) - 1))), (115, (nI wn)), (116, (-1)), (117, (nI fu)), (118, rs0), (119, uc0), (125, nw), (126, isn), (102, (nI op)), (111, (nI ((tp - 1) - 1))), (115, (nI wn)), (116, (-1)), (117, (nI fu)), (118, rs0), (119, uc0), (125, nw), (126, isn)]) (V := [(nI op), (nI ((tp - 1) - 1)), (nI wn), (-1), (nI fu), rs0, uc0, nw, isn, (nI op), (nI ((tp - 1) - 1)), (nI wn), (-1), (nI fu), rs0, uc0, nw, isn, (nI op), (nI ((tp - 1) - 1)), (nI wn), (-1), (nI fu), rs0, uc0, nw, isn]) rfl rfl rfl hP
        have hD : va_D A (mW G h0 a (upd (upd (upd (upd (upd (upd (upd (upd (upd (upd (upd (upd (upd (upd (upd (upd (upd (upd F 102 (nI op)) 111 (nI ((tp - 1) - 1))) 115 (nI wn)) 116 (-1)) 117 (nI fu)) 118 rs0) 119 uc0) 125 nw) 126 isn) 102 (nI op)) 111 (nI ((tp - 1) - 1))) 115 (nI wn)) 116 (-1)) 117 (nI fu)) 118 rs0) 119 uc0) 125 nw) 126 isn) B) := mW_D hD
        refine pc_V0 (G := G) (As := [.int (nI p9), .int (nI 4003)]) (rest := []) hx hb hml hown hq hE hX pX0_al hP hD hS hA hl.1 (R_raises l G h0 a (upd (upd (upd (upd (upd (upd (upd (upd (upd F 102 (nI op)) 111 (nI ((tp - 1) - 1))) 115 (nI wn)) 116 (-1)) 117 (nI fu)) 118 rs0) 119 uc0) 125 nw) 126 isn) B Xs gh nd T nm wr lz dc fd md pr bk M rmm (Phi gh ps op (rkN gh n9 true)) op wn fu rd on idn fl ct p9 4003 (4003 - 4000) mt ps (yyU yy (op - 1) u) bf wf (nI ((tp - 1) - 1)) nw isn rs0 uc0 hln65 (by omega) (by omega) (Or.inr (by omega)) (clF_1 (by omega)) (by omega)) (gV pw_2054 pw_2055 pw_2056 pw_1523 pw_2053) hV_X12_raises 0 9 rfl rfl rfl rfl (Nat.le_of_ble_eq_true rfl) dX12_works_46 ⟨Nat.le_of_ble_eq_true rfl, Nat.le_of_ble_eq_true rfl⟩ ⟨Nat.le_of_ble_eq_true rfl, Nat.le_of_ble_eq_true rfl⟩ (fun v68 u66 H locs hw67 hP hD hS => ?_)
        obtain ⟨op69, tp70, wn71, fu72, en73, nw74, is75, rs76, uc77, X78⟩ := u66
        obtain ⟨hw67, h79⟩ := hw67
        replace h79 : Nx Xs X78 gh nd T nm wr lz dc fd md pr bk M rmm fu (Phi gh ps op (rkN gh n9 true)) op69 tp70 wn71 fu72 rd on idn fl ct en73 nw74 is75 uc77 := h79
        obtain rfl : v68 = none := hw67
        have hP : va_P G.1 pCl (mW G h0 a (upd (upd (upd (upd (upd (upd (upd (upd (upd F 102 (nI op69)) 111 (nI tp70)) 115 (nI wn71)) 116 en73) 117 (nI fu72)) 118 rs76) 119 uc77) 125 nw74) 126 is75) X78) _ := mW_to (F := F) (l1 := [(102, (nI op)), (111, (nI ((tp - 1) - 1))), (115, (nI wn)), (116, (-1)), (117, (nI fu)), (118, rs0), (119, uc0), (125, nw), (126, isn), (102, (nI op69)), (111, (nI tp70)), (115, (nI wn71)), (116, en73), (117, (nI fu72)), (118, rs76), (119, uc77), (125, nw74), (126, is75)]) (l2 := [(102, (nI op69)), (111, (nI tp70)), (115, (nI wn71)), (116, en73), (117, (nI fu72)), (118, rs76), (119, uc77), (125, nw74), (126, is75)]) (V := [(nI op69), (nI tp70), (nI wn71), en73, (nI fu72), rs76, uc77, nw74, is75, (nI op69), (nI tp70), (nI wn71), en73, (nI fu72), rs76, uc77, nw74, is75, (nI op69), (nI tp70), (nI wn71), en73, (nI fu72), rs76, uc77, nw74, is75]) rfl rfl rfl hP
        have hD : va_D A (mW G h0 a (upd (upd (upd (upd (upd (upd (upd (upd (upd F 102 (nI op69)) 111 (nI tp70)) 115 (nI wn71)) 116 en73) 117 (nI fu72)) 118 rs76) 119 uc77) 125 nw74) 126 is75) X78) := mW_D hD
        refine W.widen (k := 0) (n := 0) (Nat.le_of_ble_eq_true rfl) (Nat.le_of_ble_eq_true rfl) ?_
        refine W.eq (g2 := F0 m 49 ls []) rfl ?_
        have hz80 : Nx Xs X78 gh nd T nm wr lz dc fd md pr bk M rmm fu (Phi gh ps op (rkN gh n9 true)) op69 tp70 wn71 fu72 rd on idn fl ct en73 nw74 is75 uc77 := h79
        have hP : va_P G.1 pCl (mW G h0 a (upd (upd (upd (upd (upd (upd (upd (upd (upd F 102 (nI op69)) 111 (nI tp70)) 115 (nI wn71)) 116 en73) 117 (nI fu72)) 118 rs76) 119 uc77) 125 nw74) 126 is75) X78) _ := hP
        have hD : va_D A (mW G h0 a (upd (upd (upd (upd (upd (upd (upd (upd (upd F 102 (nI op69)) 111 (nI tp70)) 115 (nI wn71)) 116 en73) 117 (nI fu72)) 118 rs76) 119 uc77) 125 nw74) 126 is75) X78) := mW_D hD
        exact W.vret hx hb hr (fun t9 ht9 hW9 => ⟨⟨_, (op69, tp70, wn71, fu72, en73, nw74, is75, rs76, uc77, X78), rfl, ⟨rfl, hz80⟩, by rw [ht9]; exact hP, hD⟩, hS.F ht9⟩) hS.2.2 dX12_works_49

def lpD (X : Nat → Nat → Int32) (n : Nat) : Nat := if X 9 n = 36 ∧ ¬ X 12 n = -1 ∧ X 9 (chN X 1 n) = 30 then 1 else 0
theorem Ln.mv3 {X Y : Nat → Nat → Int32} {gh : Nat → Nat → Nat} {nd T nm wr lz dc fd md pr bk rmm mu op wn fu rd on idn fl ct p c : Nat} {M : MTb} {mt ps : Nat → Nat} {yy : Nat → Ps} {bf wf : Nat → Nat} {u : Ps} (h : Ln X Y gh nd T nm wr lz dc fd md pr bk M rmm mu op wn fu rd on idn fl ct c mt ps yy bf wf) (hp : Pv X (M.1 (mt (op - 1))) (rtP M (mt (op - 1))) p u) (hst : stq X p u c (yy (op - 1))) (ek : X 9 p = nI 41) (hC : Y 14 p = nI c) : 1 ≤ wn ∧ Ln X Y gh nd T nm wr lz dc fd md pr bk M rmm mu op (wn - 1) fu rd on idn fl ct p mt ps (yyU yy (op - 1) u) bf wf ∧ (yyU yy (op - 1) u (op - 1)).1.2.1 = (yy (op - 1)).1.2.1 := by
  have b := h.1.bd
  have r := h.room
  have pn : p < nd := (hp.und h.1.fs (by omega) h.rt.1.1).1
  have e14 : Y 14 p = X 14 p := h.1.r14 p pn (by rw [ek]; decide)
  rw [e14] at hC
  obtain ⟨e1, _, pl⟩ := hst.p41 (yy := yy) (op := op) h.1.fs (by omega) pn ek
  have w1 : (yy (op - 1)).2.2 = u.2.2 ++ [u.1.2.1] := by
    rcases pl with w | w | w
    · exact absurd hC w.2.2.1
    · exact absurd hC w.1
    · exact w.2.2.2
  have wl := r.2.2.2.2.2.2.2.2.1
  rw [w1, List.length_append] at wl
  have wl' : wf (op - 1) + (u.2.2.length + 1) = wn := wl
  have L := (h.mv hp hst).2.1
  rw [show wf (op - 1) + u.2.2.length = wn - 1 by omega] at L
  exact ⟨by omega, L, by rw [show yyU yy (op - 1) u (op - 1) = u from if_pos rfl, e1]⟩
theorem Ln.mv2 {X Y : Nat → Nat → Int32} {gh : Nat → Nat → Nat} {nd T nm wr lz dc fd md pr bk rmm mu op wn fu rd on idn fl ct p c kk : Nat} {M : MTb} {mt ps : Nat → Nat} {yy : Nat → Ps} {bf wf : Nat → Nat} {u : Ps} (h : Ln X Y gh nd T nm wr lz dc fd md pr bk M rmm mu op wn fu rd on idn fl ct c mt ps yy bf wf) (hp : Pv X (M.1 (mt (op - 1))) (rtP M (mt (op - 1))) p u) (hst : stq X p u c (yy (op - 1))) (ek : X 9 p = nI kk) (k4 : kk ≤ 44) (hC : kk = 41 → ¬ Y 14 p = nI c) : Ln X Y gh nd T nm wr lz dc fd md pr bk M rmm mu op wn fu rd on idn fl ct p mt ps (yyU yy (op - 1) u) bf wf ∧ (kk = 41 → (yyU yy (op - 1) u (op - 1)).1.2.1 = (yy (op - 1)).1.2.1) := by
  have b := h.1.bd
  have r := h.room
  have pn : p < nd := (hp.und h.1.fs (by omega) h.rt.1.1).1
  have wl := r.2.2.2.2.2.2.2.2.1
  have L := (h.mv hp hst).2.1
  have w1 : (yy (op - 1)).2.2 = u.2.2 ∧ (kk = 41 → (yy (op - 1)).1 = u.1) := by
    by_cases q : kk = 41
    · subst q
      have e14 : Y 14 p = X 14 p := h.1.r14 p pn (by rw [ek]; decide)
      have hC := hC rfl
      rw [e14] at hC
      obtain ⟨e1, _, pl⟩ := hst.p41 (yy := yy) (op := op) h.1.fs (by omega) pn ek
      refine ⟨?_, fun _ => e1⟩
      rcases pl with w | w | w
      · exact w.2.2.2
      · exact w.2.2.2.2
      · exact absurd w.1 hC
    · refine ⟨?_, fun w => absurd w q⟩
      obtain ⟨k2, s, i, a1, _, _, _, _, _, _, e⟩ := hst
      have : k2 = kk := (nI_eq (by omega) (by omega)).mp (a1.symm.trans ek)
      rw [e]
      show (if k2 = 41 ∧ s = 3 then _ else _) = _
      rw [if_neg (by omega)]
  rw [← w1.1, wl] at L
  exact ⟨L, fun w => by rw [show yyU yy (op - 1) u (op - 1) = u from if_pos rfl, w1.2 w]⟩
theorem dX12_loops_0 : decode cX12_loops 0 = .ok (.aload_n 0, 1) := by decide +kernel
theorem dX12_loops_1 : decode cX12_loops 1 = .ok (.getfield 202, 3) := by decide +kernel
theorem dX12_loops_4 : decode cX12_loops 4 = .ok (.aload_n 0, 1) := by decide +kernel
theorem dX12_loops_5 : decode cX12_loops 5 = .ok (.getfield 707, 3) := by decide +kernel
theorem dX12_loops_8 : decode cX12_loops 8 = .ok (.iconst 1, 1) := by decide +kernel
theorem dX12_loops_9 : decode cX12_loops 9 = .ok (.isub, 1) := by decide +kernel
theorem dX12_loops_10 : decode cX12_loops 10 = .ok (.aload_n 0, 1) := by decide +kernel
theorem dX12_loops_11 : decode cX12_loops 11 = .ok (.getfield 65, 3) := by decide +kernel
theorem dX12_loops_14 : decode cX12_loops 14 = .ok (.iload_n 1, 1) := by decide +kernel
theorem dX12_loops_15 : decode cX12_loops 15 = .ok (.iaload, 1) := by decide +kernel
theorem dX12_loops_16 : decode cX12_loops 16 = .ok (.iastore, 1) := by decide +kernel
theorem dX12_loops_17 : decode cX12_loops 17 = .ok (.iload_n 2, 1) := by decide +kernel
theorem dX12_loops_18 : decode cX12_loops 18 = .ok (.iconst 3, 1) := by decide +kernel
theorem dX12_loops_19 : decode cX12_loops 19 = .ok (.if_icmp .ne 9, 3) := by decide +kernel
theorem dX12_loops_28 : decode cX12_loops 28 = .ok (.aload_n 0, 1) := by decide +kernel
theorem dX12_loops_29 : decode cX12_loops 29 = .ok (.getfield 38, 3) := by decide +kernel
theorem dX12_loops_32 : decode cX12_loops 32 = .ok (.iload_n 1, 1) := by decide +kernel
theorem dX12_loops_33 : decode cX12_loops 33 = .ok (.iaload, 1) := by decide +kernel
theorem dX12_loops_34 : decode cX12_loops 34 = .ok (.bipush 36, 2) := by decide +kernel
theorem dX12_loops_36 : decode cX12_loops 36 = .ok (.if_icmp .ne 44, 3) := by decide +kernel
theorem dX12_loops_80 : decode cX12_loops 80 = .ok (.aload_n 0, 1) := by decide +kernel
theorem dX12_loops_81 : decode cX12_loops 81 = .ok (.getfield 38, 3) := by decide +kernel
theorem dX12_loops_84 : decode cX12_loops 84 = .ok (.iload_n 1, 1) := by decide +kernel
theorem dX12_loops_85 : decode cX12_loops 85 = .ok (.iaload, 1) := by decide +kernel
theorem dX12_loops_86 : decode cX12_loops 86 = .ok (.bipush 36, 2) := by decide +kernel
theorem dX12_loops_88 : decode cX12_loops 88 = .ok (.if_icmp .ne 26, 3) := by decide +kernel
theorem dX12_loops_114 : decode cX12_loops 114 = .ok (.aload_n 0, 1) := by decide +kernel
theorem dX12_loops_115 : decode cX12_loops 115 = .ok (.iload_n 1, 1) := by decide +kernel
theorem dX12_loops_116 : decode cX12_loops 116 = .ok (.invokevirtual 812, 3) := by decide +kernel
theorem dX12_loops_119 : decode cX12_loops 119 = .ok (.return_, 1) := by decide +kernel
theorem dX12_loops_22 : decode cX12_loops 22 = .ok (.aload_n 0, 1) := by decide +kernel
theorem dX12_loops_23 : decode cX12_loops 23 = .ok (.iload_n 1, 1) := by decide +kernel
theorem dX12_loops_24 : decode cX12_loops 24 = .ok (.invokevirtual 760, 3) := by decide +kernel
theorem dX12_loops_27 : decode cX12_loops 27 = .ok (.return_, 1) := by decide +kernel
theorem dX12_loops_39 : decode cX12_loops 39 = .ok (.aload_n 0, 1) := by decide +kernel
theorem dX12_loops_40 : decode cX12_loops 40 = .ok (.getfield 47, 3) := by decide +kernel
theorem dX12_loops_43 : decode cX12_loops 43 = .ok (.iload_n 1, 1) := by decide +kernel
theorem dX12_loops_44 : decode cX12_loops 44 = .ok (.iaload, 1) := by decide +kernel
theorem dX12_loops_45 : decode cX12_loops 45 = .ok (.iconst (-1), 1) := by decide +kernel
theorem dX12_loops_46 : decode cX12_loops 46 = .ok (.if_icmp .eq 34, 3) := by decide +kernel
theorem dX12_loops_91 : decode cX12_loops 91 = .ok (.aload_n 0, 1) := by decide +kernel
theorem dX12_loops_92 : decode cX12_loops 92 = .ok (.getfield 53, 3) := by decide +kernel
theorem dX12_loops_95 : decode cX12_loops 95 = .ok (.iload_n 1, 1) := by decide +kernel
theorem dX12_loops_96 : decode cX12_loops 96 = .ok (.iaload, 1) := by decide +kernel
theorem dX12_loops_97 : decode cX12_loops 97 = .ok (.iconst (-1), 1) := by decide +kernel
theorem dX12_loops_98 : decode cX12_loops 98 = .ok (.if_icmp .eq 16, 3) := by decide +kernel
theorem dX12_loops_101 : decode cX12_loops 101 = .ok (.aload_n 0, 1) := by decide +kernel
theorem dX12_loops_102 : decode cX12_loops 102 = .ok (.aload_n 0, 1) := by decide +kernel
theorem dX12_loops_103 : decode cX12_loops 103 = .ok (.getfield 53, 3) := by decide +kernel
theorem dX12_loops_106 : decode cX12_loops 106 = .ok (.iload_n 1, 1) := by decide +kernel
theorem dX12_loops_107 : decode cX12_loops 107 = .ok (.iaload, 1) := by decide +kernel
theorem dX12_loops_108 : decode cX12_loops 108 = .ok (.invokevirtual 794, 3) := by decide +kernel
theorem dX12_loops_111 : decode cX12_loops 111 = .ok (.goto 8, 3) := by decide +kernel
theorem dX12_loops_49 : decode cX12_loops 49 = .ok (.aload_n 0, 1) := by decide +kernel
theorem dX12_loops_50 : decode cX12_loops 50 = .ok (.getfield 38, 3) := by decide +kernel
theorem dX12_loops_53 : decode cX12_loops 53 = .ok (.aload_n 0, 1) := by decide +kernel
theorem dX12_loops_54 : decode cX12_loops 54 = .ok (.getfield 47, 3) := by decide +kernel
theorem dX12_loops_57 : decode cX12_loops 57 = .ok (.iload_n 1, 1) := by decide +kernel
theorem dX12_loops_58 : decode cX12_loops 58 = .ok (.iaload, 1) := by decide +kernel
theorem dX12_loops_59 : decode cX12_loops 59 = .ok (.iaload, 1) := by decide +kernel
theorem dX12_loops_60 : decode cX12_loops 60 = .ok (.bipush 30, 2) := by decide +kernel
theorem dX12_loops_62 : decode cX12_loops 62 = .ok (.if_icmp .ne 18, 3) := by decide +kernel
theorem dX12_loops_65 : decode cX12_loops 65 = .ok (.aload_n 0, 1) := by decide +kernel
theorem dX12_loops_66 : decode cX12_loops 66 = .ok (.getfield 202, 3) := by decide +kernel
theorem dX12_loops_69 : decode cX12_loops 69 = .ok (.aload_n 0, 1) := by decide +kernel
theorem dX12_loops_70 : decode cX12_loops 70 = .ok (.getfield 707, 3) := by decide +kernel
theorem dX12_loops_73 : decode cX12_loops 73 = .ok (.iconst 1, 1) := by decide +kernel
theorem dX12_loops_74 : decode cX12_loops 74 = .ok (.isub, 1) := by decide +kernel
theorem dX12_loops_75 : decode cX12_loops 75 = .ok (.dup2, 1) := by decide +kernel
theorem dX12_loops_76 : decode cX12_loops 76 = .ok (.iaload, 1) := by decide +kernel
theorem dX12_loops_77 : decode cX12_loops 77 = .ok (.iconst 1, 1) := by decide +kernel
theorem dX12_loops_78 : decode cX12_loops 78 = .ok (.iadd, 1) := by decide +kernel
theorem dX12_loops_79 : decode cX12_loops 79 = .ok (.iastore, 1) := by decide +kernel
theorem hV_X12_looksAt : yX12_looksAt.cls = RX12 ∧ yX12_looksAt.cls ≠ "java/lang/invoke/MethodHandle" ∧ yX12_looksAt.cls ≠ "java/lang/invoke/VarHandle" ∧ (parseMethodDescriptor yX12_looksAt.desc).map (fun d => d.parameters.length) = some 1 := by decide +kernel
set_option maxHeartbeats 2000000 in
set_option maxRecDepth 100000 in
/-- loops(p, kind) -/
theorem R_loops (l : Launch) (G : pT) (h0 : Nat) (a : Nat → Nat) (F : Nat → Int32) (B : Nat → Nat → Int32) (n9 : Nat) (kk : Nat) (op : Nat) (sc : Nat) (fu : Nat) (kd : Int32) (en : Int32) (nw : Int32) (isn : Int32) (csc : Nat → Int32) (hn9 : n9 < 12000) (hop : 1 ≤ op ∧ op ≤ 100) (hfu : fu ≤ 20000) (hsc : B 18 n9 = nI sc) (hs3 : sc ≤ 30) (hkd : B 9 n9 = nI kk) (hkk : kk = 35 ∨ kk = 36) (hka : OrY (B 12 n9) 12000) : PM l G pX0 yX12_loops cX12_loops 3 none ({ frames := 4, cells := 0, slots := 0, locals := 102 }) [.ref h0, .int (nI n9), .int kd] (mW G h0 a (upd (upd (upd (upd (upd F 102 (nI op)) 116 en) 117 (nI fu)) 125 nw) 126 isn) (updA B 63 csc)) (fun (v : Option Value) (u : Nat × Int32 × Int32 × Int32 × (Nat → Int32)) => v = none ∧ (∀ i : Nat, i ≠ op - 1 → u.2.2.2.2 i = csc i) ∧ (If (kd = (3 : Int32)) (u.2.2.2.2 (op - 1) = nI sc ∧ u.2.2.1 = nI n9 ∧ u.2.2.2.1 = 0 ∧ u.2.1 = en ∧ u.1 = fu)) ∧ (If (¬ kd = (3 : Int32)) (u.2.2.2.2 (op - 1) = nI (sc + lpD B n9) ∧ ((kk = 36 ∧ ¬ B 14 n9 = -1 ∧ u.2.2.1 = B 14 n9 ∧ u.2.2.2.1 = 1 ∧ u.2.1 = en ∧ u.1 = fu) ∨ u.2.1 = 2 ∨ (u.1 + 1 = fu ∧ u.2.1 = en ∧ u.2.2.2.1 = 1 ∧ u.2.2.1 = lkF B n9))))) (fun u => (mW G h0 a (upd (upd (upd (upd (upd F 102 (nI op)) 116 u.2.1) 117 (nI u.1)) 125 u.2.2.1) 126 u.2.2.2.1) (updA B 63 u.2.2.2.2))) := by
  intro sz
  refine Met.ofW (cc := cX12_loops) (maxL := 3) (ret := none) (by decide) rfl ?_
  intro p e s m args below meth c s₁ B9 hml hv
  obtain ⟨rfl, hsz, hP, hD0, hE, hX⟩ := hv
  have hx := B9.exec
  have hb := B9.bytes
  have hr := B9.returns
  have hts := atoms_spec (ws := Cond.code yX12_loops cX12_loops 3 none :: pw) B9.pre
  have hq : ∀ w ∈ pw, w.before _ s = true := fun w h => hts w (List.mem_cons_of_mem _ h)
  have hown : s.vm.findClass RX12 = some m.cls := findClass_of_methodNamed B9.named
  have hlocks := B9.notSynchronized
  subst hsz
  have hD := hD0.self (sz := s.heap.size)
  have hA : ∀ q : Nat, s.heap.size ≤ q → va_A (mW G h0 a (upd (upd (upd (upd (upd F 102 (nI op)) 116 en) 117 (nI fu)) 125 nw) 126 isn) (updA B 63 csc)) s.heap.size q := fun q h => Or.inr h
  have hP : va_P G.1 pCl (mW G h0 a (upd (upd (upd (upd (upd F 102 (nI op)) 116 en) 117 (nI fu)) 125 nw) 126 isn) (updA B 63 csc)) s.heap := hP
  generalize va_A (mW G h0 a (upd (upd (upd (upd (upd F 102 (nI op)) 116 en) 117 (nI fu)) 125 nw) 126 isn) (updA B 63 csc)) s.heap.size = A at hD hE hA ⊢
  have hS : va_S A s.heap s.heap [] := va_S.rf
  have hl := lv_entry ([.ref h0, .int (nI n9), .int kd]) (n := 3) (Nat.le_of_ble_eq_true rfl)
  rw [lg_entry_eq]
  generalize (lg_sl ([.ref h0, .int (nI n9), .int kd]) ++ List.replicate (3 - (lg_sl ([.ref h0, .int (nI n9), .int kd])).length) Slot.unset).toArray = ls at hl ⊢
  have hl : lv_has ls 3 [(0, .ref h0), (1, .int (nI n9)), (2, .int kd)] := hl
  rcases hkk with ekk | ekk
  · refine lv_aload_n hx hb dX12_loops_0 rfl (lv_at hl 0 rfl) ?_
    refine r_get (v := .ref (a 63)) hx hb hown hq hE hP 104 202 tFX12_104 (by decide) pw_1495 rfl dX12_loops_1 ?_
    refine lv_aload_n hx hb dX12_loops_4 rfl (lv_at hl 0 rfl) ?_
    refine r_get (v := .int (nI op)) hx hb hown hq hE hP 102 707 tFX12_102 (by decide) pw_1969 rfl dX12_loops_5 ?_
    refine lv_iconst (v := 1) hx hb dX12_loops_8 (by decide) ?_
    refine lv_isub hx hb dX12_loops_9 ?_
    refine lv_topi (fun x1 e2 => ?_)
    obtain rfl : x1 = nI (op - 1) := e2.trans (nI_subN (a := 1) (b := op) (by omega))
    refine lv_aload_n hx hb dX12_loops_10 rfl (lv_at hl 0 rfl) ?_
    refine r_get (v := .ref (a 18)) hx hb hown hq hE hP 26 65 tFX12_26 (by decide) pw_1448 rfl dX12_loops_11 ?_
    refine lv_iload_n hx hb dX12_loops_14 rfl (lv_at hl 1 rfl) ?_
    refine r_ldi (f := (B 18)) (j := n9) hx hb hE hP 18 (ma_18 G a _) rfl (by omega) (by decide) dX12_loops_15 ?_
    refine lv_topi (fun x3 e4 => ?_)
    obtain rfl : x3 = nI sc := e4.trans hsc
    refine r_sti (f := csc) (j := (op - 1)) hx hb hE hP hD hS 63 (ma_63 G a _) rfl (mas_63 G a _) (by omega) (by decide) dX12_loops_16 (fun H locs hP hD hS => ?_)
    refine lv_iload_n hx hb dX12_loops_17 rfl (lv_at hl 2 rfl) ?_
    refine lv_iconst (v := 3) hx hb dX12_loops_18 (by decide) ?_
    refine lv_icmp_ne (tgt := 28) hx hb dX12_loops_19 (by decide) (fun c5 => ?_) (fun c5 => ?_)
    · refine lv_aload_n hx hb dX12_loops_28 rfl (lv_at hl 0 rfl) ?_
      refine r_get (v := .ref (a 9)) hx hb hown hq hE hP 17 38 tFX12_17 (by decide) pw_1439 rfl dX12_loops_29 ?_
      refine lv_iload_n hx hb dX12_loops_32 rfl (lv_at hl 1 rfl) ?_
      refine r_ldi (f := (B 9)) (j := n9) hx hb hE hP 9 (ma_9 G a _) rfl (by omega) (by decide) dX12_loops_33 ?_
      refine lv_topi (fun x6 e7 => ?_)
      obtain rfl : x6 = 35 := e7.trans (by rw [hkd, ekk]; rfl)
      refine lv_bipush (v := 36) hx hb dX12_loops_34 (by decide) ?_
      refine lv_icmp_ne (tgt := 80) hx hb dX12_loops_36 (by decide) (fun c8 => ?_) (fun c8 => absurd c8 (by decide))
      refine lv_aload_n hx hb dX12_loops_80 rfl (lv_at hl 0 rfl) ?_
      refine r_get (v := .ref (a 9)) hx hb hown hq hE hP 17 38 tFX12_17 (by decide) pw_1439 rfl dX12_loops_81 ?_
      refine lv_iload_n hx hb dX12_loops_84 rfl (lv_at hl 1 rfl) ?_
      refine r_ldi (f := (B 9)) (j := n9) hx hb hE hP 9 (ma_9 G a _) rfl (by omega) (by decide) dX12_loops_85 ?_
      refine lv_topi (fun x9 e10 => ?_)
      obtain rfl : x9 = 35 := e10.trans (by rw [hkd, ekk]; rfl)
      refine lv_bipush (v := 36) hx hb dX12_loops_86 (by decide) ?_
      refine lv_icmp_ne (tgt := 114) hx hb dX12_loops_88 (by decide) (fun c11 => ?_) (fun c11 => absurd c11 (by decide))
      refine lv_aload_n hx hb dX12_loops_114 rfl (lv_at hl 0 rfl) ?_
      refine lv_iload_n hx hb dX12_loops_115 rfl (lv_at hl 1 rfl) ?_
      have hP : va_P G.1 pCl (mW G h0 a (upd (upd (upd (upd (upd (upd (upd (upd (upd F 102 (nI op)) 116 en) 117 (nI fu)) 125 nw) 126 isn) 116 en) 117 (nI fu)) 125 nw) 126 isn) (updA B 63 (upd csc (op - 1) (nI sc)))) _ := mW_to (F := F) (l1 := [(102, (nI op)), (116, en), (117, (nI fu)), (125, nw), (126, isn)]) (l2 := [(102, (nI op)), (116, en), (117, (nI fu)), (125, nw), (126, isn), (116, en), (117, (nI fu)), (125, nw), (126, isn)]) (V := [(nI op), en, (nI fu), nw, isn, (nI op), en, (nI fu), nw, isn, en, (nI fu), nw, isn]) rfl rfl (show (updA (updA B 63 csc) 63 (upd csc (op - 1) (nI sc))) = (updA B 63 (upd csc (op - 1) (nI sc))) from updsA_eq2 (F := B) (l1 := [(63, csc), (63, (upd csc (op - 1) (nI sc)))]) (l2 := [(63, (upd csc (op - 1) (nI sc)))]) (V := [(upd csc (op - 1) (nI sc)), (upd csc (op - 1) (nI sc)), (upd csc (op - 1) (nI sc))]) rfl rfl) hP
      have hD : va_D A (mW G h0 a (upd (upd (upd (upd (upd (upd (upd (upd (upd F 102 (nI op)) 116 en) 117 (nI fu)) 125 nw) 126 isn) 116 en) 117 (nI fu)) 125 nw) 126 isn) (updA B 63 (upd csc (op - 1) (nI sc)))) := mW_D hD
      refine pc_V0 (G := G) (As := [.int (nI n9)]) (rest := []) hx hb hml hown hq hE hX pX0_al hP hD hS hA hl.1 (R_looksAt l G h0 a (upd (upd (upd (upd (upd F 102 (nI op)) 116 en) 117 (nI fu)) 125 nw) 126 isn) (updA B 63 (upd csc (op - 1) (nI sc))) n9 fu en nw isn (by omega) (by omega)) (gV pw_2029 pw_2030 pw_2031 pw_1523 pw_2025) hV_X12_looksAt 0 9 rfl rfl rfl rfl (Nat.le_of_ble_eq_true rfl) dX12_loops_116 ⟨Nat.le_of_ble_eq_true rfl, Nat.le_of_ble_eq_true rfl⟩ ⟨Nat.le_of_ble_eq_true rfl, Nat.le_of_ble_eq_true rfl⟩ (fun v14 u12 H locs hw13 hP hD hS => ?_)
      obtain ⟨r15, fu16, en17, nw18, is19⟩ := u12
      obtain ⟨hw13, h20, h21, h22, h23⟩ := hw13
      replace h20 : r15 ≤ 1 := h20
      replace h21 : fu16 + r15 = fu := h21
      replace h22 : If (r15 = 0) (en17 = 2) := h22
      replace h23 : If (r15 = 1) (en17 = en ∧ is19 = 1 ∧ nw18 = lkF (updA B 63 (upd csc (op - 1) (nI sc))) n9) := h23
      obtain rfl : v14 = none := hw13
      have hP : va_P G.1 pCl (mW G h0 a (upd (upd (upd (upd (upd F 102 (nI op)) 116 en17) 117 (nI fu16)) 125 nw18) 126 is19) (updA B 63 (upd csc (op - 1) (nI sc)))) _ := mW_to (F := F) (l1 := [(102, (nI op)), (116, en), (117, (nI fu)), (125, nw), (126, isn), (116, en17), (117, (nI fu16)), (125, nw18), (126, is19)]) (l2 := [(102, (nI op)), (116, en17), (117, (nI fu16)), (125, nw18), (126, is19)]) (V := [(nI op), en17, (nI fu16), nw18, is19, en17, (nI fu16), nw18, is19, (nI op), en17, (nI fu16), nw18, is19]) rfl rfl rfl hP
      have hD : va_D A (mW G h0 a (upd (upd (upd (upd (upd F 102 (nI op)) 116 en17) 117 (nI fu16)) 125 nw18) 126 is19) (updA B 63 (upd csc (op - 1) (nI sc)))) := mW_D hD
      refine W.widen (k := 0) (n := 0) (Nat.le_of_ble_eq_true rfl) (Nat.le_of_ble_eq_true rfl) ?_
      refine W.eq (g2 := F0 m 119 ls []) rfl ?_
      have hz24 : ∀ i : Nat, i ≠ op - 1 → (upd csc (op - 1) (nI sc)) i = csc i := (fun i h => if_neg h)
      have hz25 : If (kd = (3 : Int32)) ((upd csc (op - 1) (nI sc)) (op - 1) = nI sc ∧ nw18 = nI n9 ∧ is19 = 0 ∧ en17 = en ∧ fu16 = fu) := (fun h => absurd h c5)
      have hz26 : If (¬ kd = (3 : Int32)) ((upd csc (op - 1) (nI sc)) (op - 1) = nI (sc + lpD B n9) ∧ ((kk = 36 ∧ ¬ B 14 n9 = -1 ∧ nw18 = B 14 n9 ∧ is19 = 1 ∧ en17 = en ∧ fu16 = fu) ∨ en17 = 2 ∨ (fu16 + 1 = fu ∧ en17 = en ∧ is19 = 1 ∧ nw18 = lkF B n9))) := (fun _ => ⟨(by unfold lpD; rw [if_neg (fun h => by rw [hkd, ekk] at h; exact absurd h.1 (by decide))]; exact upd_eq), (by rcases Nat.eq_zero_or_pos r15 with z | z; exact Or.inr (Or.inl (h22 z)); exact Or.inr (Or.inr ⟨by omega, (h23 (by omega)).1, (h23 (by omega)).2.1, (h23 (by omega)).2.2⟩))⟩)
      have hP : va_P G.1 pCl (mW G h0 a (upd (upd (upd (upd (upd F 102 (nI op)) 116 en17) 117 (nI fu16)) 125 nw18) 126 is19) (updA B 63 (upd csc (op - 1) (nI sc)))) _ := hP
      have hD : va_D A (mW G h0 a (upd (upd (upd (upd (upd F 102 (nI op)) 116 en17) 117 (nI fu16)) 125 nw18) 126 is19) (updA B 63 (upd csc (op - 1) (nI sc)))) := mW_D hD
      exact W.vret hx hb hr (fun t9 ht9 hW9 => ⟨⟨_, (fu16, en17, nw18, is19, (upd csc (op - 1) (nI sc))), rfl, ⟨rfl, hz24, hz25, hz26⟩, by rw [ht9]; exact hP, hD⟩, hS.F ht9⟩) hS.2.2 dX12_loops_119
    · refine lv_aload_n hx hb dX12_loops_22 rfl (lv_at hl 0 rfl) ?_
      refine lv_iload_n hx hb dX12_loops_23 rfl (lv_at hl 1 rfl) ?_
      have hP : va_P G.1 pCl (mW G h0 a (upd (upd (upd (upd (upd F 102 (nI op)) 116 en) 117 (nI fu)) 125 nw) 126 isn) (updA B 63 (upd csc (op - 1) (nI sc)))) _ := mW_to (F := F) (l1 := [(102, (nI op)), (116, en), (117, (nI fu)), (125, nw), (126, isn)]) (l2 := [(102, (nI op)), (116, en), (117, (nI fu)), (125, nw), (126, isn)]) (V := [(nI op), en, (nI fu), nw, isn, (nI op), en, (nI fu), nw, isn]) rfl rfl (show (updA (updA B 63 csc) 63 (upd csc (op - 1) (nI sc))) = (updA B 63 (upd csc (op - 1) (nI sc))) from updsA_eq2 (F := B) (l1 := [(63, csc), (63, (upd csc (op - 1) (nI sc)))]) (l2 := [(63, (upd csc (op - 1) (nI sc)))]) (V := [(upd csc (op - 1) (nI sc)), (upd csc (op - 1) (nI sc)), (upd csc (op - 1) (nI sc))]) rfl rfl) hP
      have hD : va_D A (mW G h0 a (upd (upd (upd (upd (upd F 102 (nI op)) 116 en) 117 (nI fu)) 125 nw) 126 isn) (updA B 63 (upd csc (op - 1) (nI sc)))) := mW_D hD
      refine pc_V0 (G := G) (As := [.int (nI n9)]) (rest := []) hx hb hml hown hq hE hX pX0_al hP hD hS hA hl.1 (R_comesToEnd l G h0 a (upd (upd (upd (upd (upd F 102 (nI op)) 116 en) 117 (nI fu)) 125 nw) 126 isn) (updA B 63 (upd csc (op - 1) (nI sc))) (nI n9)) (gV pw_2010 pw_2011 pw_2012 pw_1523 pw_2005) hV_X12_comesToEnd 0 9 rfl rfl rfl rfl (Nat.le_of_ble_eq_true rfl) dX12_loops_24 ⟨Nat.le_of_ble_eq_true rfl, Nat.le_of_ble_eq_true rfl⟩ ⟨Nat.le_of_ble_eq_true rfl, Nat.le_of_ble_eq_true rfl⟩ (fun v29 u27 H locs hw28 hP hD hS => ?_)
      obtain rfl : v29 = none := hw28
      have hP : va_P G.1 pCl (mW G h0 a (upd (upd (upd (upd (upd F 102 (nI op)) 116 en) 117 (nI fu)) 125 (nI n9)) 126 0) (updA B 63 (upd csc (op - 1) (nI sc)))) _ := mW_to (F := F) (l1 := [(102, (nI op)), (116, en), (117, (nI fu)), (125, nw), (126, isn), (125, (nI n9)), (126, 0)]) (l2 := [(102, (nI op)), (116, en), (117, (nI fu)), (125, (nI n9)), (126, 0)]) (V := [(nI op), en, (nI fu), (nI n9), 0, (nI n9), 0, (nI op), en, (nI fu), (nI n9), 0]) rfl rfl rfl hP
      have hD : va_D A (mW G h0 a (upd (upd (upd (upd (upd F 102 (nI op)) 116 en) 117 (nI fu)) 125 (nI n9)) 126 0) (updA B 63 (upd csc (op - 1) (nI sc)))) := mW_D hD
      refine W.widen (k := 0) (n := 0) (Nat.le_of_ble_eq_true rfl) (Nat.le_of_ble_eq_true rfl) ?_
      refine W.eq (g2 := F0 m 27 ls []) rfl ?_
      have hz30 : ∀ i : Nat, i ≠ op - 1 → (upd csc (op - 1) (nI sc)) i = csc i := (fun i h => if_neg h)
      have hz31 : If (kd = (3 : Int32)) ((upd csc (op - 1) (nI sc)) (op - 1) = nI sc ∧ (nI n9) = nI n9 ∧ (0 : Int32) = 0 ∧ en = en ∧ fu = fu) := (fun _ => ⟨upd_eq, rfl, rfl, rfl, rfl⟩)
      have hz32 : If (¬ kd = (3 : Int32)) ((upd csc (op - 1) (nI sc)) (op - 1) = nI (sc + lpD B n9) ∧ ((kk = 36 ∧ ¬ B 14 n9 = -1 ∧ (nI n9) = B 14 n9 ∧ (0 : Int32) = 1 ∧ en = en ∧ fu = fu) ∨ en = 2 ∨ (fu + 1 = fu ∧ en = en ∧ (0 : Int32) = 1 ∧ (nI n9) = lkF B n9))) := (fun h => absurd c5 h)
      have hP : va_P G.1 pCl (mW G h0 a (upd (upd (upd (upd (upd F 102 (nI op)) 116 en) 117 (nI fu)) 125 (nI n9)) 126 (0 : Int32)) (updA B 63 (upd csc (op - 1) (nI sc)))) _ := mW_to (F := F) (l1 := [(102, (nI op)), (116, en), (117, (nI fu)), (125, (nI n9)), (126, 0)]) (l2 := [(102, (nI op)), (116, en), (117, (nI fu)), (125, (nI n9)), (126, (0 : Int32))]) (V := [(nI op), en, (nI fu), (nI n9), (0 : Int32), (nI op), en, (nI fu), (nI n9), (0 : Int32)]) rfl rfl rfl hP
      have hD : va_D A (mW G h0 a (upd (upd (upd (upd (upd F 102 (nI op)) 116 en) 117 (nI fu)) 125 (nI n9)) 126 (0 : Int32)) (updA B 63 (upd csc (op - 1) (nI sc)))) := mW_D hD
      exact W.vret hx hb hr (fun t9 ht9 hW9 => ⟨⟨_, (fu, en, (nI n9), (0 : Int32), (upd csc (op - 1) (nI sc))), rfl, ⟨rfl, hz30, hz31, hz32⟩, by rw [ht9]; exact hP, hD⟩, hS.F ht9⟩) hS.2.2 dX12_loops_27
  · refine lv_aload_n hx hb dX12_loops_0 rfl (lv_at hl 0 rfl) ?_
    refine r_get (v := .ref (a 63)) hx hb hown hq hE hP 104 202 tFX12_104 (by decide) pw_1495 rfl dX12_loops_1 ?_
    refine lv_aload_n hx hb dX12_loops_4 rfl (lv_at hl 0 rfl) ?_
    refine r_get (v := .int (nI op)) hx hb hown hq hE hP 102 707 tFX12_102 (by decide) pw_1969 rfl dX12_loops_5 ?_
    refine lv_iconst (v := 1) hx hb dX12_loops_8 (by decide) ?_
    refine lv_isub hx hb dX12_loops_9 ?_
    refine lv_topi (fun x33 e34 => ?_)
    obtain rfl : x33 = nI (op - 1) := e34.trans (nI_subN (a := 1) (b := op) (by omega))
    refine lv_aload_n hx hb dX12_loops_10 rfl (lv_at hl 0 rfl) ?_
    refine r_get (v := .ref (a 18)) hx hb hown hq hE hP 26 65 tFX12_26 (by decide) pw_1448 rfl dX12_loops_11 ?_
    refine lv_iload_n hx hb dX12_loops_14 rfl (lv_at hl 1 rfl) ?_
    refine r_ldi (f := (B 18)) (j := n9) hx hb hE hP 18 (ma_18 G a _) rfl (by omega) (by decide) dX12_loops_15 ?_
    refine lv_topi (fun x35 e36 => ?_)
    obtain rfl : x35 = nI sc := e36.trans hsc
    refine r_sti (f := csc) (j := (op - 1)) hx hb hE hP hD hS 63 (ma_63 G a _) rfl (mas_63 G a _) (by omega) (by decide) dX12_loops_16 (fun H locs hP hD hS => ?_)
    refine lv_iload_n hx hb dX12_loops_17 rfl (lv_at hl 2 rfl) ?_
    refine lv_iconst (v := 3) hx hb dX12_loops_18 (by decide) ?_
    refine lv_icmp_ne (tgt := 28) hx hb dX12_loops_19 (by decide) (fun c37 => ?_) (fun c37 => ?_)
    · refine lv_aload_n hx hb dX12_loops_28 rfl (lv_at hl 0 rfl) ?_
      refine r_get (v := .ref (a 9)) hx hb hown hq hE hP 17 38 tFX12_17 (by decide) pw_1439 rfl dX12_loops_29 ?_
      refine lv_iload_n hx hb dX12_loops_32 rfl (lv_at hl 1 rfl) ?_
      refine r_ldi (f := (B 9)) (j := n9) hx hb hE hP 9 (ma_9 G a _) rfl (by omega) (by decide) dX12_loops_33 ?_
      refine lv_topi (fun x38 e39 => ?_)
      obtain rfl : x38 = 36 := e39.trans (by rw [hkd, ekk]; rfl)
      refine lv_bipush (v := 36) hx hb dX12_loops_34 (by decide) ?_
      refine lv_icmp_ne (tgt := 80) hx hb dX12_loops_36 (by decide) (fun c40 => absurd c40 (by decide)) (fun c40 => ?_)
      refine lv_aload_n hx hb dX12_loops_39 rfl (lv_at hl 0 rfl) ?_
      refine r_get (v := .ref (a 12)) hx hb hown hq hE hP 20 47 tFX12_20 (by decide) pw_1442 rfl dX12_loops_40 ?_
      refine lv_iload_n hx hb dX12_loops_43 rfl (lv_at hl 1 rfl) ?_
      refine r_ldi (f := (B 12)) (j := n9) hx hb hE hP 12 (ma_12 G a _) rfl (by omega) (by decide) dX12_loops_44 ?_
      refine lv_iconst (v := (-1)) hx hb dX12_loops_45 (by decide) ?_
      refine lv_icmp_eq (tgt := 80) hx hb dX12_loops_46 (by decide) (fun c41 => ?_) (fun c41 => ?_)
      · refine lv_aload_n hx hb dX12_loops_80 rfl (lv_at hl 0 rfl) ?_
        refine r_get (v := .ref (a 9)) hx hb hown hq hE hP 17 38 tFX12_17 (by decide) pw_1439 rfl dX12_loops_81 ?_
        refine lv_iload_n hx hb dX12_loops_84 rfl (lv_at hl 1 rfl) ?_
        refine r_ldi (f := (B 9)) (j := n9) hx hb hE hP 9 (ma_9 G a _) rfl (by omega) (by decide) dX12_loops_85 ?_
        refine lv_topi (fun x42 e43 => ?_)
        obtain rfl : x42 = 36 := e43.trans (by rw [hkd, ekk]; rfl)
        refine lv_bipush (v := 36) hx hb dX12_loops_86 (by decide) ?_
        refine lv_icmp_ne (tgt := 114) hx hb dX12_loops_88 (by decide) (fun c44 => absurd c44 (by decide)) (fun c44 => ?_)
        refine lv_aload_n hx hb dX12_loops_91 rfl (lv_at hl 0 rfl) ?_
        refine r_get (v := .ref (a 14)) hx hb hown hq hE hP 22 53 tFX12_22 (by decide) pw_1444 rfl dX12_loops_92 ?_
        refine lv_iload_n hx hb dX12_loops_95 rfl (lv_at hl 1 rfl) ?_
        refine r_ldi (f := (B 14)) (j := n9) hx hb hE hP 14 (ma_14 G a _) rfl (by omega) (by decide) dX12_loops_96 ?_
        refine lv_iconst (v := (-1)) hx hb dX12_loops_97 (by decide) ?_
        refine lv_icmp_eq (tgt := 114) hx hb dX12_loops_98 (by decide) (fun c45 => ?_) (fun c45 => ?_)
        · refine lv_aload_n hx hb dX12_loops_114 rfl (lv_at hl 0 rfl) ?_
          refine lv_iload_n hx hb dX12_loops_115 rfl (lv_at hl 1 rfl) ?_
          have hP : va_P G.1 pCl (mW G h0 a (upd (upd (upd (upd (upd (upd (upd (upd (upd F 102 (nI op)) 116 en) 117 (nI fu)) 125 nw) 126 isn) 116 en) 117 (nI fu)) 125 nw) 126 isn) (updA B 63 (upd csc (op - 1) (nI sc)))) _ := mW_to (F := F) (l1 := [(102, (nI op)), (116, en), (117, (nI fu)), (125, nw), (126, isn)]) (l2 := [(102, (nI op)), (116, en), (117, (nI fu)), (125, nw), (126, isn), (116, en), (117, (nI fu)), (125, nw), (126, isn)]) (V := [(nI op), en, (nI fu), nw, isn, (nI op), en, (nI fu), nw, isn, en, (nI fu), nw, isn]) rfl rfl (show (updA (updA B 63 csc) 63 (upd csc (op - 1) (nI sc))) = (updA B 63 (upd csc (op - 1) (nI sc))) from updsA_eq2 (F := B) (l1 := [(63, csc), (63, (upd csc (op - 1) (nI sc)))]) (l2 := [(63, (upd csc (op - 1) (nI sc)))]) (V := [(upd csc (op - 1) (nI sc)), (upd csc (op - 1) (nI sc)), (upd csc (op - 1) (nI sc))]) rfl rfl) hP
          have hD : va_D A (mW G h0 a (upd (upd (upd (upd (upd (upd (upd (upd (upd F 102 (nI op)) 116 en) 117 (nI fu)) 125 nw) 126 isn) 116 en) 117 (nI fu)) 125 nw) 126 isn) (updA B 63 (upd csc (op - 1) (nI sc)))) := mW_D hD
          refine pc_V0 (G := G) (As := [.int (nI n9)]) (rest := []) hx hb hml hown hq hE hX pX0_al hP hD hS hA hl.1 (R_looksAt l G h0 a (upd (upd (upd (upd (upd F 102 (nI op)) 116 en) 117 (nI fu)) 125 nw) 126 isn) (updA B 63 (upd csc (op - 1) (nI sc))) n9 fu en nw isn (by omega) (by omega)) (gV pw_2029 pw_2030 pw_2031 pw_1523 pw_2025) hV_X12_looksAt 0 9 rfl rfl rfl rfl (Nat.le_of_ble_eq_true rfl) dX12_loops_116 ⟨Nat.le_of_ble_eq_true rfl, Nat.le_of_ble_eq_true rfl⟩ ⟨Nat.le_of_ble_eq_true rfl, Nat.le_of_ble_eq_true rfl⟩ (fun v48 u46 H locs hw47 hP hD hS => ?_)
          obtain ⟨r49, fu50, en51, nw52, is53⟩ := u46
          obtain ⟨hw47, h54, h55, h56, h57⟩ := hw47
          replace h54 : r49 ≤ 1 := h54
          replace h55 : fu50 + r49 = fu := h55
          replace h56 : If (r49 = 0) (en51 = 2) := h56
          replace h57 : If (r49 = 1) (en51 = en ∧ is53 = 1 ∧ nw52 = lkF (updA B 63 (upd csc (op - 1) (nI sc))) n9) := h57
          obtain rfl : v48 = none := hw47
          have hP : va_P G.1 pCl (mW G h0 a (upd (upd (upd (upd (upd F 102 (nI op)) 116 en51) 117 (nI fu50)) 125 nw52) 126 is53) (updA B 63 (upd csc (op - 1) (nI sc)))) _ := mW_to (F := F) (l1 := [(102, (nI op)), (116, en), (117, (nI fu)), (125, nw), (126, isn), (116, en51), (117, (nI fu50)), (125, nw52), (126, is53)]) (l2 := [(102, (nI op)), (116, en51), (117, (nI fu50)), (125, nw52), (126, is53)]) (V := [(nI op), en51, (nI fu50), nw52, is53, en51, (nI fu50), nw52, is53, (nI op), en51, (nI fu50), nw52, is53]) rfl rfl rfl hP
          have hD : va_D A (mW G h0 a (upd (upd (upd (upd (upd F 102 (nI op)) 116 en51) 117 (nI fu50)) 125 nw52) 126 is53) (updA B 63 (upd csc (op - 1) (nI sc)))) := mW_D hD
          refine W.widen (k := 0) (n := 0) (Nat.le_of_ble_eq_true rfl) (Nat.le_of_ble_eq_true rfl) ?_
          refine W.eq (g2 := F0 m 119 ls []) rfl ?_
          have hz58 : ∀ i : Nat, i ≠ op - 1 → (upd csc (op - 1) (nI sc)) i = csc i := (fun i h => if_neg h)
          have hz59 : If (kd = (3 : Int32)) ((upd csc (op - 1) (nI sc)) (op - 1) = nI sc ∧ nw52 = nI n9 ∧ is53 = 0 ∧ en51 = en ∧ fu50 = fu) := (fun h => absurd h c37)
          have hz60 : If (¬ kd = (3 : Int32)) ((upd csc (op - 1) (nI sc)) (op - 1) = nI (sc + lpD B n9) ∧ ((kk = 36 ∧ ¬ B 14 n9 = -1 ∧ nw52 = B 14 n9 ∧ is53 = 1 ∧ en51 = en ∧ fu50 = fu) ∨ en51 = 2 ∨ (fu50 + 1 = fu ∧ en51 = en ∧ is53 = 1 ∧ nw52 = lkF B n9))) := (fun _ => ⟨(by unfold lpD; rw [if_neg (fun h => h.2.1 c41)]; exact upd_eq), (by rcases Nat.eq_zero_or_pos r49 with z | z; exact Or.inr (Or.inl (h56 z)); exact Or.inr (Or.inr ⟨by omega, (h57 (by omega)).1, (h57 (by omega)).2.1, (h57 (by omega)).2.2⟩))⟩)
          have hP : va_P G.1 pCl (mW G h0 a (upd (upd (upd (upd (upd F 102 (nI op)) 116 en51) 117 (nI fu50)) 125 nw52) 126 is53) (updA B 63 (upd csc (op - 1) (nI sc)))) _ := hP
          have hD : va_D A (mW G h0 a (upd (upd (upd (upd (upd F 102 (nI op)) 116 en51) 117 (nI fu50)) 125 nw52) 126 is53) (updA B 63 (upd csc (op - 1) (nI sc)))) := mW_D hD
          exact W.vret hx hb hr (fun t9 ht9 hW9 => ⟨⟨_, (fu50, en51, nw52, is53, (upd csc (op - 1) (nI sc))), rfl, ⟨rfl, hz58, hz59, hz60⟩, by rw [ht9]; exact hP, hD⟩, hS.F ht9⟩) hS.2.2 dX12_loops_119
        · refine lv_aload_n hx hb dX12_loops_101 rfl (lv_at hl 0 rfl) ?_
          refine lv_aload_n hx hb dX12_loops_102 rfl (lv_at hl 0 rfl) ?_
          refine r_get (v := .ref (a 14)) hx hb hown hq hE hP 22 53 tFX12_22 (by decide) pw_1444 rfl dX12_loops_103 ?_
          refine lv_iload_n hx hb dX12_loops_106 rfl (lv_at hl 1 rfl) ?_
          refine r_ldi (f := (B 14)) (j := n9) hx hb hE hP 14 (ma_14 G a _) rfl (by omega) (by decide) dX12_loops_107 ?_
          have hP : va_P G.1 pCl (mW G h0 a (upd (upd (upd (upd (upd F 102 (nI op)) 116 en) 117 (nI fu)) 125 nw) 126 isn) (updA B 63 (upd csc (op - 1) (nI sc)))) _ := mW_to (F := F) (l1 := [(102, (nI op)), (116, en), (117, (nI fu)), (125, nw), (126, isn)]) (l2 := [(102, (nI op)), (116, en), (117, (nI fu)), (125, nw), (126, isn)]) (V := [(nI op), en, (nI fu), nw, isn, (nI op), en, (nI fu), nw, isn]) rfl rfl (show (updA (updA B 63 csc) 63 (upd csc (op - 1) (nI sc))) = (updA B 63 (upd csc (op - 1) (nI sc))) from updsA_eq2 (F := B) (l1 := [(63, csc), (63, (upd csc (op - 1) (nI sc)))]) (l2 := [(63, (upd csc (op - 1) (nI sc)))]) (V := [(upd csc (op - 1) (nI sc)), (upd csc (op - 1) (nI sc)), (upd csc (op - 1) (nI sc))]) rfl rfl) hP
          have hD : va_D A (mW G h0 a (upd (upd (upd (upd (upd F 102 (nI op)) 116 en) 117 (nI fu)) 125 nw) 126 isn) (updA B 63 (upd csc (op - 1) (nI sc)))) := mW_D hD
          refine pc_V0 (G := G) (As := [.int ((B 14) n9)]) (rest := []) hx hb hml hown hq hE hX pX0_al hP hD hS hA hl.1 (R_begin l G h0 a (upd (upd (upd (upd (upd F 102 (nI op)) 116 en) 117 (nI fu)) 125 nw) 126 isn) (updA B 63 (upd csc (op - 1) (nI sc))) ((B 14) n9)) (gV pw_2016 pw_2017 pw_2018 pw_1523 pw_2002) hV_X12_begin 0 9 rfl rfl rfl rfl (Nat.le_of_ble_eq_true rfl) dX12_loops_108 ⟨Nat.le_of_ble_eq_true rfl, Nat.le_of_ble_eq_true rfl⟩ ⟨Nat.le_of_ble_eq_true rfl, Nat.le_of_ble_eq_true rfl⟩ (fun v63 u61 H locs hw62 hP hD hS => ?_)
          obtain rfl : v63 = none := hw62
          have hP : va_P G.1 pCl (mW G h0 a (upd (upd (upd (upd (upd F 102 (nI op)) 116 en) 117 (nI fu)) 125 ((B 14) n9)) 126 1) (updA B 63 (upd csc (op - 1) (nI sc)))) _ := mW_to (F := F) (l1 := [(102, (nI op)), (116, en), (117, (nI fu)), (125, nw), (126, isn), (125, ((B 14) n9)), (126, 1)]) (l2 := [(102, (nI op)), (116, en), (117, (nI fu)), (125, ((B 14) n9)), (126, 1)]) (V := [(nI op), en, (nI fu), ((B 14) n9), 1, ((B 14) n9), 1, (nI op), en, (nI fu), ((B 14) n9), 1]) rfl rfl rfl hP
          have hD : va_D A (mW G h0 a (upd (upd (upd (upd (upd F 102 (nI op)) 116 en) 117 (nI fu)) 125 ((B 14) n9)) 126 1) (updA B 63 (upd csc (op - 1) (nI sc)))) := mW_D hD
          refine W.widen (k := 0) (n := 0) (Nat.le_of_ble_eq_true rfl) (Nat.le_of_ble_eq_true rfl) ?_
          refine W.eq (g2 := F0 m 111 ls []) rfl ?_
          refine lv_goto (tgt := 119) hx hb dX12_loops_111 (by decide) ?_
          have hz64 : ∀ i : Nat, i ≠ op - 1 → (upd csc (op - 1) (nI sc)) i = csc i := (fun i h => if_neg h)
          have hz65 : If (kd = (3 : Int32)) ((upd csc (op - 1) (nI sc)) (op - 1) = nI sc ∧ ((B 14) n9) = nI n9 ∧ (1 : Int32) = 0 ∧ en = en ∧ fu = fu) := (fun h => absurd h c37)
          have hz66 : If (¬ kd = (3 : Int32)) ((upd csc (op - 1) (nI sc)) (op - 1) = nI (sc + lpD B n9) ∧ ((kk = 36 ∧ ¬ B 14 n9 = -1 ∧ ((B 14) n9) = B 14 n9 ∧ (1 : Int32) = 1 ∧ en = en ∧ fu = fu) ∨ en = 2 ∨ (fu + 1 = fu ∧ en = en ∧ (1 : Int32) = 1 ∧ ((B 14) n9) = lkF B n9))) := (fun _ => ⟨(by unfold lpD; rw [if_neg (fun h => h.2.1 c41)]; exact upd_eq), (Or.inl ⟨ekk, c45, rfl, rfl, rfl, rfl⟩)⟩)
          have hP : va_P G.1 pCl (mW G h0 a (upd (upd (upd (upd (upd F 102 (nI op)) 116 en) 117 (nI fu)) 125 ((B 14) n9)) 126 (1 : Int32)) (updA B 63 (upd csc (op - 1) (nI sc)))) _ := mW_to (F := F) (l1 := [(102, (nI op)), (116, en), (117, (nI fu)), (125, ((B 14) n9)), (126, 1)]) (l2 := [(102, (nI op)), (116, en), (117, (nI fu)), (125, ((B 14) n9)), (126, (1 : Int32))]) (V := [(nI op), en, (nI fu), ((B 14) n9), (1 : Int32), (nI op), en, (nI fu), ((B 14) n9), (1 : Int32)]) rfl rfl rfl hP
          have hD : va_D A (mW G h0 a (upd (upd (upd (upd (upd F 102 (nI op)) 116 en) 117 (nI fu)) 125 ((B 14) n9)) 126 (1 : Int32)) (updA B 63 (upd csc (op - 1) (nI sc)))) := mW_D hD
          exact W.vret hx hb hr (fun t9 ht9 hW9 => ⟨⟨_, (fu, en, ((B 14) n9), (1 : Int32), (upd csc (op - 1) (nI sc))), rfl, ⟨rfl, hz64, hz65, hz66⟩, by rw [ht9]; exact hP, hD⟩, hS.F ht9⟩) hS.2.2 dX12_loops_119
      · obtain ⟨z67, e68, h69⟩ := Or.resolve_left hka c41
        refine lv_aload_n hx hb dX12_loops_49 rfl (lv_at hl 0 rfl) ?_
        refine r_get (v := .ref (a 9)) hx hb hown hq hE hP 17 38 tFX12_17 (by decide) pw_1439 rfl dX12_loops_50 ?_
        refine lv_aload_n hx hb dX12_loops_53 rfl (lv_at hl 0 rfl) ?_
        refine r_get (v := .ref (a 12)) hx hb hown hq hE hP 20 47 tFX12_20 (by decide) pw_1442 rfl dX12_loops_54 ?_
        refine lv_iload_n hx hb dX12_loops_57 rfl (lv_at hl 1 rfl) ?_
        refine r_ldi (f := (B 12)) (j := n9) hx hb hE hP 12 (ma_12 G a _) rfl (by omega) (by decide) dX12_loops_58 ?_
        refine lv_topi (fun x70 e71 => ?_)
        obtain rfl : x70 = nI z67 := e71.trans e68
        refine r_ldi (f := (B 9)) (j := z67) hx hb hE hP 9 (ma_9 G a _) rfl (by omega) (by decide) dX12_loops_59 ?_
        refine lv_bipush (v := 30) hx hb dX12_loops_60 (by decide) ?_
        refine lv_icmp_ne (tgt := 80) hx hb dX12_loops_62 (by decide) (fun c72 => ?_) (fun c72 => ?_)
        · refine lv_aload_n hx hb dX12_loops_80 rfl (lv_at hl 0 rfl) ?_
          refine r_get (v := .ref (a 9)) hx hb hown hq hE hP 17 38 tFX12_17 (by decide) pw_1439 rfl dX12_loops_81 ?_
          refine lv_iload_n hx hb dX12_loops_84 rfl (lv_at hl 1 rfl) ?_
          refine r_ldi (f := (B 9)) (j := n9) hx hb hE hP 9 (ma_9 G a _) rfl (by omega) (by decide) dX12_loops_85 ?_
          refine lv_topi (fun x73 e74 => ?_)
          obtain rfl : x73 = 36 := e74.trans (by rw [hkd, ekk]; rfl)
          refine lv_bipush (v := 36) hx hb dX12_loops_86 (by decide) ?_
          refine lv_icmp_ne (tgt := 114) hx hb dX12_loops_88 (by decide) (fun c75 => absurd c75 (by decide)) (fun c75 => ?_)
          refine lv_aload_n hx hb dX12_loops_91 rfl (lv_at hl 0 rfl) ?_
          refine r_get (v := .ref (a 14)) hx hb hown hq hE hP 22 53 tFX12_22 (by decide) pw_1444 rfl dX12_loops_92 ?_
          refine lv_iload_n hx hb dX12_loops_95 rfl (lv_at hl 1 rfl) ?_
          refine r_ldi (f := (B 14)) (j := n9) hx hb hE hP 14 (ma_14 G a _) rfl (by omega) (by decide) dX12_loops_96 ?_
          refine lv_iconst (v := (-1)) hx hb dX12_loops_97 (by decide) ?_
          refine lv_icmp_eq (tgt := 114) hx hb dX12_loops_98 (by decide) (fun c76 => ?_) (fun c76 => ?_)
          · refine lv_aload_n hx hb dX12_loops_114 rfl (lv_at hl 0 rfl) ?_
            refine lv_iload_n hx hb dX12_loops_115 rfl (lv_at hl 1 rfl) ?_
            have hP : va_P G.1 pCl (mW G h0 a (upd (upd (upd (upd (upd (upd (upd (upd (upd F 102 (nI op)) 116 en) 117 (nI fu)) 125 nw) 126 isn) 116 en) 117 (nI fu)) 125 nw) 126 isn) (updA B 63 (upd csc (op - 1) (nI sc)))) _ := mW_to (F := F) (l1 := [(102, (nI op)), (116, en), (117, (nI fu)), (125, nw), (126, isn)]) (l2 := [(102, (nI op)), (116, en), (117, (nI fu)), (125, nw), (126, isn), (116, en), (117, (nI fu)), (125, nw), (126, isn)]) (V := [(nI op), en, (nI fu), nw, isn, (nI op), en, (nI fu), nw, isn, en, (nI fu), nw, isn]) rfl rfl (show (updA (updA B 63 csc) 63 (upd csc (op - 1) (nI sc))) = (updA B 63 (upd csc (op - 1) (nI sc))) from updsA_eq2 (F := B) (l1 := [(63, csc), (63, (upd csc (op - 1) (nI sc)))]) (l2 := [(63, (upd csc (op - 1) (nI sc)))]) (V := [(upd csc (op - 1) (nI sc)), (upd csc (op - 1) (nI sc)), (upd csc (op - 1) (nI sc))]) rfl rfl) hP
            have hD : va_D A (mW G h0 a (upd (upd (upd (upd (upd (upd (upd (upd (upd F 102 (nI op)) 116 en) 117 (nI fu)) 125 nw) 126 isn) 116 en) 117 (nI fu)) 125 nw) 126 isn) (updA B 63 (upd csc (op - 1) (nI sc)))) := mW_D hD
            refine pc_V0 (G := G) (As := [.int (nI n9)]) (rest := []) hx hb hml hown hq hE hX pX0_al hP hD hS hA hl.1 (R_looksAt l G h0 a (upd (upd (upd (upd (upd F 102 (nI op)) 116 en) 117 (nI fu)) 125 nw) 126 isn) (updA B 63 (upd csc (op - 1) (nI sc))) n9 fu en nw isn (by omega) (by omega)) (gV pw_2029 pw_2030 pw_2031 pw_1523 pw_2025) hV_X12_looksAt 0 9 rfl rfl rfl rfl (Nat.le_of_ble_eq_true rfl) dX12_loops_116 ⟨Nat.le_of_ble_eq_true rfl, Nat.le_of_ble_eq_true rfl⟩ ⟨Nat.le_of_ble_eq_true rfl, Nat.le_of_ble_eq_true rfl⟩ (fun v79 u77 H locs hw78 hP hD hS => ?_)
            obtain ⟨r80, fu81, en82, nw83, is84⟩ := u77
            obtain ⟨hw78, h85, h86, h87, h88⟩ := hw78
            replace h85 : r80 ≤ 1 := h85
            replace h86 : fu81 + r80 = fu := h86
            replace h87 : If (r80 = 0) (en82 = 2) := h87
            replace h88 : If (r80 = 1) (en82 = en ∧ is84 = 1 ∧ nw83 = lkF (updA B 63 (upd csc (op - 1) (nI sc))) n9) := h88
            obtain rfl : v79 = none := hw78
            have hP : va_P G.1 pCl (mW G h0 a (upd (upd (upd (upd (upd F 102 (nI op)) 116 en82) 117 (nI fu81)) 125 nw83) 126 is84) (updA B 63 (upd csc (op - 1) (nI sc)))) _ := mW_to (F := F) (l1 := [(102, (nI op)), (116, en), (117, (nI fu)), (125, nw), (126, isn), (116, en82), (117, (nI fu81)), (125, nw83), (126, is84)]) (l2 := [(102, (nI op)), (116, en82), (117, (nI fu81)), (125, nw83), (126, is84)]) (V := [(nI op), en82, (nI fu81), nw83, is84, en82, (nI fu81), nw83, is84, (nI op), en82, (nI fu81), nw83, is84]) rfl rfl rfl hP
            have hD : va_D A (mW G h0 a (upd (upd (upd (upd (upd F 102 (nI op)) 116 en82) 117 (nI fu81)) 125 nw83) 126 is84) (updA B 63 (upd csc (op - 1) (nI sc)))) := mW_D hD
            refine W.widen (k := 0) (n := 0) (Nat.le_of_ble_eq_true rfl) (Nat.le_of_ble_eq_true rfl) ?_
            refine W.eq (g2 := F0 m 119 ls []) rfl ?_
            have hz89 : ∀ i : Nat, i ≠ op - 1 → (upd csc (op - 1) (nI sc)) i = csc i := (fun i h => if_neg h)
            have hz90 : If (kd = (3 : Int32)) ((upd csc (op - 1) (nI sc)) (op - 1) = nI sc ∧ nw83 = nI n9 ∧ is84 = 0 ∧ en82 = en ∧ fu81 = fu) := (fun h => absurd h c37)
            have hz91 : If (¬ kd = (3 : Int32)) ((upd csc (op - 1) (nI sc)) (op - 1) = nI (sc + lpD B n9) ∧ ((kk = 36 ∧ ¬ B 14 n9 = -1 ∧ nw83 = B 14 n9 ∧ is84 = 1 ∧ en82 = en ∧ fu81 = fu) ∨ en82 = 2 ∨ (fu81 + 1 = fu ∧ en82 = en ∧ is84 = 1 ∧ nw83 = lkF B n9))) := (fun _ => ⟨(by unfold lpD; rw [if_neg (fun h => c72 (by rw [show chN B 1 n9 = z67 by unfold chN; rw [e68, nI_cl (by omega)]] at h; exact h.2.2))]; exact upd_eq), (by rcases Nat.eq_zero_or_pos r80 with z | z; exact Or.inr (Or.inl (h87 z)); exact Or.inr (Or.inr ⟨by omega, (h88 (by omega)).1, (h88 (by omega)).2.1, (h88 (by omega)).2.2⟩))⟩)
            have hP : va_P G.1 pCl (mW G h0 a (upd (upd (upd (upd (upd F 102 (nI op)) 116 en82) 117 (nI fu81)) 125 nw83) 126 is84) (updA B 63 (upd csc (op - 1) (nI sc)))) _ := hP
            have hD : va_D A (mW G h0 a (upd (upd (upd (upd (upd F 102 (nI op)) 116 en82) 117 (nI fu81)) 125 nw83) 126 is84) (updA B 63 (upd csc (op - 1) (nI sc)))) := mW_D hD
            exact W.vret hx hb hr (fun t9 ht9 hW9 => ⟨⟨_, (fu81, en82, nw83, is84, (upd csc (op - 1) (nI sc))), rfl, ⟨rfl, hz89, hz90, hz91⟩, by rw [ht9]; exact hP, hD⟩, hS.F ht9⟩) hS.2.2 dX12_loops_119
          · refine lv_aload_n hx hb dX12_loops_101 rfl (lv_at hl 0 rfl) ?_
            refine lv_aload_n hx hb dX12_loops_102 rfl (lv_at hl 0 rfl) ?_
            refine r_get (v := .ref (a 14)) hx hb hown hq hE hP 22 53 tFX12_22 (by decide) pw_1444 rfl dX12_loops_103 ?_
            refine lv_iload_n hx hb dX12_loops_106 rfl (lv_at hl 1 rfl) ?_
            refine r_ldi (f := (B 14)) (j := n9) hx hb hE hP 14 (ma_14 G a _) rfl (by omega) (by decide) dX12_loops_107 ?_
            have hP : va_P G.1 pCl (mW G h0 a (upd (upd (upd (upd (upd F 102 (nI op)) 116 en) 117 (nI fu)) 125 nw) 126 isn) (updA B 63 (upd csc (op - 1) (nI sc)))) _ := mW_to (F := F) (l1 := [(102, (nI op)), (116, en), (117, (nI fu)), (125, nw), (126, isn)]) (l2 := [(102, (nI op)), (116, en), (117, (nI fu)), (125, nw), (126, isn)]) (V := [(nI op), en, (nI fu), nw, isn, (nI op), en, (nI fu), nw, isn]) rfl rfl (show (updA (updA B 63 csc) 63 (upd csc (op - 1) (nI sc))) = (updA B 63 (upd csc (op - 1) (nI sc))) from updsA_eq2 (F := B) (l1 := [(63, csc), (63, (upd csc (op - 1) (nI sc)))]) (l2 := [(63, (upd csc (op - 1) (nI sc)))]) (V := [(upd csc (op - 1) (nI sc)), (upd csc (op - 1) (nI sc)), (upd csc (op - 1) (nI sc))]) rfl rfl) hP
            have hD : va_D A (mW G h0 a (upd (upd (upd (upd (upd F 102 (nI op)) 116 en) 117 (nI fu)) 125 nw) 126 isn) (updA B 63 (upd csc (op - 1) (nI sc)))) := mW_D hD
            refine pc_V0 (G := G) (As := [.int ((B 14) n9)]) (rest := []) hx hb hml hown hq hE hX pX0_al hP hD hS hA hl.1 (R_begin l G h0 a (upd (upd (upd (upd (upd F 102 (nI op)) 116 en) 117 (nI fu)) 125 nw) 126 isn) (updA B 63 (upd csc (op - 1) (nI sc))) ((B 14) n9)) (gV pw_2016 pw_2017 pw_2018 pw_1523 pw_2002) hV_X12_begin 0 9 rfl rfl rfl rfl (Nat.le_of_ble_eq_true rfl) dX12_loops_108 ⟨Nat.le_of_ble_eq_true rfl, Nat.le_of_ble_eq_true rfl⟩ ⟨Nat.le_of_ble_eq_true rfl, Nat.le_of_ble_eq_true rfl⟩ (fun v94 u92 H locs hw93 hP hD hS => ?_)
            obtain rfl : v94 = none := hw93
            have hP : va_P G.1 pCl (mW G h0 a (upd (upd (upd (upd (upd F 102 (nI op)) 116 en) 117 (nI fu)) 125 ((B 14) n9)) 126 1) (updA B 63 (upd csc (op - 1) (nI sc)))) _ := mW_to (F := F) (l1 := [(102, (nI op)), (116, en), (117, (nI fu)), (125, nw), (126, isn), (125, ((B 14) n9)), (126, 1)]) (l2 := [(102, (nI op)), (116, en), (117, (nI fu)), (125, ((B 14) n9)), (126, 1)]) (V := [(nI op), en, (nI fu), ((B 14) n9), 1, ((B 14) n9), 1, (nI op), en, (nI fu), ((B 14) n9), 1]) rfl rfl rfl hP
            have hD : va_D A (mW G h0 a (upd (upd (upd (upd (upd F 102 (nI op)) 116 en) 117 (nI fu)) 125 ((B 14) n9)) 126 1) (updA B 63 (upd csc (op - 1) (nI sc)))) := mW_D hD
            refine W.widen (k := 0) (n := 0) (Nat.le_of_ble_eq_true rfl) (Nat.le_of_ble_eq_true rfl) ?_
            refine W.eq (g2 := F0 m 111 ls []) rfl ?_
            refine lv_goto (tgt := 119) hx hb dX12_loops_111 (by decide) ?_
            have hz95 : ∀ i : Nat, i ≠ op - 1 → (upd csc (op - 1) (nI sc)) i = csc i := (fun i h => if_neg h)
            have hz96 : If (kd = (3 : Int32)) ((upd csc (op - 1) (nI sc)) (op - 1) = nI sc ∧ ((B 14) n9) = nI n9 ∧ (1 : Int32) = 0 ∧ en = en ∧ fu = fu) := (fun h => absurd h c37)
            have hz97 : If (¬ kd = (3 : Int32)) ((upd csc (op - 1) (nI sc)) (op - 1) = nI (sc + lpD B n9) ∧ ((kk = 36 ∧ ¬ B 14 n9 = -1 ∧ ((B 14) n9) = B 14 n9 ∧ (1 : Int32) = 1 ∧ en = en ∧ fu = fu) ∨ en = 2 ∨ (fu + 1 = fu ∧ en = en ∧ (1 : Int32) = 1 ∧ ((B 14) n9) = lkF B n9))) := (fun _ => ⟨(by unfold lpD; rw [if_neg (fun h => c72 (by rw [show chN B 1 n9 = z67 by unfold chN; rw [e68, nI_cl (by omega)]] at h; exact h.2.2))]; exact upd_eq), (Or.inl ⟨ekk, c76, rfl, rfl, rfl, rfl⟩)⟩)
            have hP : va_P G.1 pCl (mW G h0 a (upd (upd (upd (upd (upd F 102 (nI op)) 116 en) 117 (nI fu)) 125 ((B 14) n9)) 126 (1 : Int32)) (updA B 63 (upd csc (op - 1) (nI sc)))) _ := mW_to (F := F) (l1 := [(102, (nI op)), (116, en), (117, (nI fu)), (125, ((B 14) n9)), (126, 1)]) (l2 := [(102, (nI op)), (116, en), (117, (nI fu)), (125, ((B 14) n9)), (126, (1 : Int32))]) (V := [(nI op), en, (nI fu), ((B 14) n9), (1 : Int32), (nI op), en, (nI fu), ((B 14) n9), (1 : Int32)]) rfl rfl rfl hP
            have hD : va_D A (mW G h0 a (upd (upd (upd (upd (upd F 102 (nI op)) 116 en) 117 (nI fu)) 125 ((B 14) n9)) 126 (1 : Int32)) (updA B 63 (upd csc (op - 1) (nI sc)))) := mW_D hD
            exact W.vret hx hb hr (fun t9 ht9 hW9 => ⟨⟨_, (fu, en, ((B 14) n9), (1 : Int32), (upd csc (op - 1) (nI sc))), rfl, ⟨rfl, hz95, hz96, hz97⟩, by rw [ht9]; exact hP, hD⟩, hS.F ht9⟩) hS.2.2 dX12_loops_119
        · refine lv_aload_n hx hb dX12_loops_65 rfl (lv_at hl 0 rfl) ?_
          refine r_get (v := .ref (a 63)) hx hb hown hq hE hP 104 202 tFX12_104 (by decide) pw_1495 rfl dX12_loops_66 ?_
          refine lv_aload_n hx hb dX12_loops_69 rfl (lv_at hl 0 rfl) ?_
          refine r_get (v := .int (nI op)) hx hb hown hq hE hP 102 707 tFX12_102 (by decide) pw_1969 rfl dX12_loops_70 ?_
          refine lv_iconst (v := 1) hx hb dX12_loops_73 (by decide) ?_
          refine lv_isub hx hb dX12_loops_74 ?_
          refine lv_topi (fun x98 e99 => ?_)
          obtain rfl : x98 = nI (op - 1) := e99.trans (nI_subN (a := 1) (b := op) (by omega))
          refine lv_dup2_11 hx hb dX12_loops_75 rfl rfl ?_
          refine r_ldi (f := (upd csc (op - 1) (nI sc))) (j := (op - 1)) hx hb hE hP 63 (ma_63 G a _) rfl (by omega) (by decide) dX12_loops_76 ?_
          refine lv_topi (fun x100 e101 => ?_)
          obtain rfl : x100 = nI sc := e101.trans upd_eq
          refine lv_iconst (v := 1) hx hb dX12_loops_77 (by decide) ?_
          refine lv_iadd hx hb dX12_loops_78 ?_
          refine lv_topi (fun x102 e103 => ?_)
          obtain rfl : x102 = nI (sc + 1) := e103.trans (nI_add (sc) (1))
          refine r_sti (f := (upd csc (op - 1) (nI sc))) (j := (op - 1)) hx hb hE hP hD hS 63 (ma_63 G a _) rfl (mas_63 G a _) (by omega) (by decide) dX12_loops_79 (fun H locs hP hD hS => ?_)
          refine lv_aload_n hx hb dX12_loops_80 rfl (lv_at hl 0 rfl) ?_
          refine r_get (v := .ref (a 9)) hx hb hown hq hE hP 17 38 tFX12_17 (by decide) pw_1439 rfl dX12_loops_81 ?_
          refine lv_iload_n hx hb dX12_loops_84 rfl (lv_at hl 1 rfl) ?_
          refine r_ldi (f := (B 9)) (j := n9) hx hb hE hP 9 (ma_9 G a _) rfl (by omega) (by decide) dX12_loops_85 ?_
          refine lv_topi (fun x104 e105 => ?_)
          obtain rfl : x104 = 36 := e105.trans (by rw [hkd, ekk]; rfl)
          refine lv_bipush (v := 36) hx hb dX12_loops_86 (by decide) ?_
          refine lv_icmp_ne (tgt := 114) hx hb dX12_loops_88 (by decide) (fun c106 => absurd c106 (by decide)) (fun c106 => ?_)
          refine lv_aload_n hx hb dX12_loops_91 rfl (lv_at hl 0 rfl) ?_
          refine r_get (v := .ref (a 14)) hx hb hown hq hE hP 22 53 tFX12_22 (by decide) pw_1444 rfl dX12_loops_92 ?_
          refine lv_iload_n hx hb dX12_loops_95 rfl (lv_at hl 1 rfl) ?_
          refine r_ldi (f := (B 14)) (j := n9) hx hb hE hP 14 (ma_14 G a _) rfl (by omega) (by decide) dX12_loops_96 ?_
          refine lv_iconst (v := (-1)) hx hb dX12_loops_97 (by decide) ?_
          refine lv_icmp_eq (tgt := 114) hx hb dX12_loops_98 (by decide) (fun c107 => ?_) (fun c107 => ?_)
          · refine lv_aload_n hx hb dX12_loops_114 rfl (lv_at hl 0 rfl) ?_
            refine lv_iload_n hx hb dX12_loops_115 rfl (lv_at hl 1 rfl) ?_
            have hP : va_P G.1 pCl (mW G h0 a (upd (upd (upd (upd (upd (upd (upd (upd (upd F 102 (nI op)) 116 en) 117 (nI fu)) 125 nw) 126 isn) 116 en) 117 (nI fu)) 125 nw) 126 isn) (updA B 63 (upd (upd csc (op - 1) (nI sc)) (op - 1) (nI (sc + 1))))) _ := mW_to (F := F) (l1 := [(102, (nI op)), (116, en), (117, (nI fu)), (125, nw), (126, isn)]) (l2 := [(102, (nI op)), (116, en), (117, (nI fu)), (125, nw), (126, isn), (116, en), (117, (nI fu)), (125, nw), (126, isn)]) (V := [(nI op), en, (nI fu), nw, isn, (nI op), en, (nI fu), nw, isn, en, (nI fu), nw, isn]) rfl rfl (show (updA (updA (updA B 63 csc) 63 (upd csc (op - 1) (nI sc))) 63 (upd (upd csc (op - 1) (nI sc)) (op - 1) (nI (sc + 1)))) = (updA B 63 (upd (upd csc (op - 1) (nI sc)) (op - 1) (nI (sc + 1)))) from updsA_eq2 (F := B) (l1 := [(63, csc), (63, (upd csc (op - 1) (nI sc))), (63, (upd (upd csc (op - 1) (nI sc)) (op - 1) (nI (sc + 1))))]) (l2 := [(63, (upd (upd csc (op - 1) (nI sc)) (op - 1) (nI (sc + 1))))]) (V := [(upd (upd csc (op - 1) (nI sc)) (op - 1) (nI (sc + 1))), (upd (upd csc (op - 1) (nI sc)) (op - 1) (nI (sc + 1))), (upd (upd csc (op - 1) (nI sc)) (op - 1) (nI (sc + 1))), (upd (upd csc (op - 1) (nI sc)) (op - 1) (nI (sc + 1)))]) rfl rfl) hP
            have hD : va_D A (mW G h0 a (upd (upd (upd (upd (upd (upd (upd (upd (upd F 102 (nI op)) 116 en) 117 (nI fu)) 125 nw) 126 isn) 116 en) 117 (nI fu)) 125 nw) 126 isn) (updA B 63 (upd (upd csc (op - 1) (nI sc)) (op - 1) (nI (sc + 1))))) := mW_D hD
            refine pc_V0 (G := G) (As := [.int (nI n9)]) (rest := []) hx hb hml hown hq hE hX pX0_al hP hD hS hA hl.1 (R_looksAt l G h0 a (upd (upd (upd (upd (upd F 102 (nI op)) 116 en) 117 (nI fu)) 125 nw) 126 isn) (updA B 63 (upd (upd csc (op - 1) (nI sc)) (op - 1) (nI (sc + 1)))) n9 fu en nw isn (by omega) (by omega)) (gV pw_2029 pw_2030 pw_2031 pw_1523 pw_2025) hV_X12_looksAt 0 9 rfl rfl rfl rfl (Nat.le_of_ble_eq_true rfl) dX12_loops_116 ⟨Nat.le_of_ble_eq_true rfl, Nat.le_of_ble_eq_true rfl⟩ ⟨Nat.le_of_ble_eq_true rfl, Nat.le_of_ble_eq_true rfl⟩ (fun v110 u108 H locs hw109 hP hD hS => ?_)
            obtain ⟨r111, fu112, en113, nw114, is115⟩ := u108
            obtain ⟨hw109, h116, h117, h118, h119⟩ := hw109
            replace h116 : r111 ≤ 1 := h116
            replace h117 : fu112 + r111 = fu := h117
            replace h118 : If (r111 = 0) (en113 = 2) := h118
            replace h119 : If (r111 = 1) (en113 = en ∧ is115 = 1 ∧ nw114 = lkF (updA B 63 (upd (upd csc (op - 1) (nI sc)) (op - 1) (nI (sc + 1)))) n9) := h119
            obtain rfl : v110 = none := hw109
            have hP : va_P G.1 pCl (mW G h0 a (upd (upd (upd (upd (upd F 102 (nI op)) 116 en113) 117 (nI fu112)) 125 nw114) 126 is115) (updA B 63 (upd (upd csc (op - 1) (nI sc)) (op - 1) (nI (sc + 1))))) _ := mW_to (F := F) (l1 := [(102, (nI op)), (116, en), (117, (nI fu)), (125, nw), (126, isn), (116, en113), (117, (nI fu112)), (125, nw114), (126, is115)]) (l2 := [(102, (nI op)), (116, en113), (117, (nI fu112)), (125, nw114), (126, is115)]) (V := [(nI op), en113, (nI fu112), nw114, is115, en113, (nI fu112), nw114, is115, (nI op), en113, (nI fu112), nw114, is115]) rfl rfl rfl hP
            have hD : va_D A (mW G h0 a (upd (upd (upd (upd (upd F 102 (nI op)) 116 en113) 117 (nI fu112)) 125 nw114) 126 is115) (updA B 63 (upd (upd csc (op - 1) (nI sc)) (op - 1) (nI (sc + 1))))) := mW_D hD
            refine W.widen (k := 0) (n := 0) (Nat.le_of_ble_eq_true rfl) (Nat.le_of_ble_eq_true rfl) ?_
            refine W.eq (g2 := F0 m 119 ls []) rfl ?_
            have hz120 : ∀ i : Nat, i ≠ op - 1 → (upd (upd csc (op - 1) (nI sc)) (op - 1) (nI (sc + 1))) i = csc i := (fun i h => (if_neg h).trans (if_neg h))
            have hz121 : If (kd = (3 : Int32)) ((upd (upd csc (op - 1) (nI sc)) (op - 1) (nI (sc + 1))) (op - 1) = nI sc ∧ nw114 = nI n9 ∧ is115 = 0 ∧ en113 = en ∧ fu112 = fu) := (fun h => absurd h c37)
            have hz122 : If (¬ kd = (3 : Int32)) ((upd (upd csc (op - 1) (nI sc)) (op - 1) (nI (sc + 1))) (op - 1) = nI (sc + lpD B n9) ∧ ((kk = 36 ∧ ¬ B 14 n9 = -1 ∧ nw114 = B 14 n9 ∧ is115 = 1 ∧ en113 = en ∧ fu112 = fu) ∨ en113 = 2 ∨ (fu112 + 1 = fu ∧ en113 = en ∧ is115 = 1 ∧ nw114 = lkF B n9))) := (fun _ => ⟨(by unfold lpD; rw [if_pos ⟨(by rw [hkd, ekk]; rfl), c41, by rw [show chN B 1 n9 = z67 by unfold chN; rw [e68, nI_cl (by omega)]]; exact c72⟩]; exact upd_eq), (by rcases Nat.eq_zero_or_pos r111 with z | z; exact Or.inr (Or.inl (h118 z)); exact Or.inr (Or.inr ⟨by omega, (h119 (by omega)).1, (h119 (by omega)).2.1, (h119 (by omega)).2.2⟩))⟩)
            have hP : va_P G.1 pCl (mW G h0 a (upd (upd (upd (upd (upd F 102 (nI op)) 116 en113) 117 (nI fu112)) 125 nw114) 126 is115) (updA B 63 (upd (upd csc (op - 1) (nI sc)) (op - 1) (nI (sc + 1))))) _ := hP
            have hD : va_D A (mW G h0 a (upd (upd (upd (upd (upd F 102 (nI op)) 116 en113) 117 (nI fu112)) 125 nw114) 126 is115) (updA B 63 (upd (upd csc (op - 1) (nI sc)) (op - 1) (nI (sc + 1))))) := mW_D hD
            exact W.vret hx hb hr (fun t9 ht9 hW9 => ⟨⟨_, (fu112, en113, nw114, is115, (upd (upd csc (op - 1) (nI sc)) (op - 1) (nI (sc + 1)))), rfl, ⟨rfl, hz120, hz121, hz122⟩, by rw [ht9]; exact hP, hD⟩, hS.F ht9⟩) hS.2.2 dX12_loops_119
          · refine lv_aload_n hx hb dX12_loops_101 rfl (lv_at hl 0 rfl) ?_
            refine lv_aload_n hx hb dX12_loops_102 rfl (lv_at hl 0 rfl) ?_
            refine r_get (v := .ref (a 14)) hx hb hown hq hE hP 22 53 tFX12_22 (by decide) pw_1444 rfl dX12_loops_103 ?_
            refine lv_iload_n hx hb dX12_loops_106 rfl (lv_at hl 1 rfl) ?_
            refine r_ldi (f := (B 14)) (j := n9) hx hb hE hP 14 (ma_14 G a _) rfl (by omega) (by decide) dX12_loops_107 ?_
            have hP : va_P G.1 pCl (mW G h0 a (upd (upd (upd (upd (upd F 102 (nI op)) 116 en) 117 (nI fu)) 125 nw) 126 isn) (updA B 63 (upd (upd csc (op - 1) (nI sc)) (op - 1) (nI (sc + 1))))) _ := mW_to (F := F) (l1 := [(102, (nI op)), (116, en), (117, (nI fu)), (125, nw), (126, isn)]) (l2 := [(102, (nI op)), (116, en), (117, (nI fu)), (125, nw), (126, isn)]) (V := [(nI op), en, (nI fu), nw, isn, (nI op), en, (nI fu), nw, isn]) rfl rfl (show (updA (updA (updA B 63 csc) 63 (upd csc (op - 1) (nI sc))) 63 (upd (upd csc (op - 1) (nI sc)) (op - 1) (nI (sc + 1)))) = (updA B 63 (upd (upd csc (op - 1) (nI sc)) (op - 1) (nI (sc + 1)))) from updsA_eq2 (F := B) (l1 := [(63, csc), (63, (upd csc (op - 1) (nI sc))), (63, (upd (upd csc (op - 1) (nI sc)) (op - 1) (nI (sc + 1))))]) (l2 := [(63, (upd (upd csc (op - 1) (nI sc)) (op - 1) (nI (sc + 1))))]) (V := [(upd (upd csc (op - 1) (nI sc)) (op - 1) (nI (sc + 1))), (upd (upd csc (op - 1) (nI sc)) (op - 1) (nI (sc + 1))), (upd (upd csc (op - 1) (nI sc)) (op - 1) (nI (sc + 1))), (upd (upd csc (op - 1) (nI sc)) (op - 1) (nI (sc + 1)))]) rfl rfl) hP
            have hD : va_D A (mW G h0 a (upd (upd (upd (upd (upd F 102 (nI op)) 116 en) 117 (nI fu)) 125 nw) 126 isn) (updA B 63 (upd (upd csc (op - 1) (nI sc)) (op - 1) (nI (sc + 1))))) := mW_D hD
            refine pc_V0 (G := G) (As := [.int ((B 14) n9)]) (rest := []) hx hb hml hown hq hE hX pX0_al hP hD hS hA hl.1 (R_begin l G h0 a (upd (upd (upd (upd (upd F 102 (nI op)) 116 en) 117 (nI fu)) 125 nw) 126 isn) (updA B 63 (upd (upd csc (op - 1) (nI sc)) (op - 1) (nI (sc + 1)))) ((B 14) n9)) (gV pw_2016 pw_2017 pw_2018 pw_1523 pw_2002) hV_X12_begin 0 9 rfl rfl rfl rfl (Nat.le_of_ble_eq_true rfl) dX12_loops_108 ⟨Nat.le_of_ble_eq_true rfl, Nat.le_of_ble_eq_true rfl⟩ ⟨Nat.le_of_ble_eq_true rfl, Nat.le_of_ble_eq_true rfl⟩ (fun v125 u123 H locs hw124 hP hD hS => ?_)
            obtain rfl : v125 = none := hw124
            have hP : va_P G.1 pCl (mW G h0 a (upd (upd (upd (upd (upd F 102 (nI op)) 116 en) 117 (nI fu)) 125 ((B 14) n9)) 126 1) (updA B 63 (upd (upd csc (op - 1) (nI sc)) (op - 1) (nI (sc + 1))))) _ := mW_to (F := F) (l1 := [(102, (nI op)), (116, en), (117, (nI fu)), (125, nw), (126, isn), (125, ((B 14) n9)), (126, 1)]) (l2 := [(102, (nI op)), (116, en), (117, (nI fu)), (125, ((B 14) n9)), (126, 1)]) (V := [(nI op), en, (nI fu), ((B 14) n9), 1, ((B 14) n9), 1, (nI op), en, (nI fu), ((B 14) n9), 1]) rfl rfl rfl hP
            have hD : va_D A (mW G h0 a (upd (upd (upd (upd (upd F 102 (nI op)) 116 en) 117 (nI fu)) 125 ((B 14) n9)) 126 1) (updA B 63 (upd (upd csc (op - 1) (nI sc)) (op - 1) (nI (sc + 1))))) := mW_D hD
            refine W.widen (k := 0) (n := 0) (Nat.le_of_ble_eq_true rfl) (Nat.le_of_ble_eq_true rfl) ?_
            refine W.eq (g2 := F0 m 111 ls []) rfl ?_
            refine lv_goto (tgt := 119) hx hb dX12_loops_111 (by decide) ?_
            have hz126 : ∀ i : Nat, i ≠ op - 1 → (upd (upd csc (op - 1) (nI sc)) (op - 1) (nI (sc + 1))) i = csc i := (fun i h => (if_neg h).trans (if_neg h))
            have hz127 : If (kd = (3 : Int32)) ((upd (upd csc (op - 1) (nI sc)) (op - 1) (nI (sc + 1))) (op - 1) = nI sc ∧ ((B 14) n9) = nI n9 ∧ (1 : Int32) = 0 ∧ en = en ∧ fu = fu) := (fun h => absurd h c37)
            have hz128 : If (¬ kd = (3 : Int32)) ((upd (upd csc (op - 1) (nI sc)) (op - 1) (nI (sc + 1))) (op - 1) = nI (sc + lpD B n9) ∧ ((kk = 36 ∧ ¬ B 14 n9 = -1 ∧ ((B 14) n9) = B 14 n9 ∧ (1 : Int32) = 1 ∧ en = en ∧ fu = fu) ∨ en = 2 ∨ (fu + 1 = fu ∧ en = en ∧ (1 : Int32) = 1 ∧ ((B 14) n9) = lkF B n9))) := (fun _ => ⟨(by unfold lpD; rw [if_pos ⟨(by rw [hkd, ekk]; rfl), c41, by rw [show chN B 1 n9 = z67 by unfold chN; rw [e68, nI_cl (by omega)]]; exact c72⟩]; exact upd_eq), (Or.inl ⟨ekk, c107, rfl, rfl, rfl, rfl⟩)⟩)
            have hP : va_P G.1 pCl (mW G h0 a (upd (upd (upd (upd (upd F 102 (nI op)) 116 en) 117 (nI fu)) 125 ((B 14) n9)) 126 (1 : Int32)) (updA B 63 (upd (upd csc (op - 1) (nI sc)) (op - 1) (nI (sc + 1))))) _ := mW_to (F := F) (l1 := [(102, (nI op)), (116, en), (117, (nI fu)), (125, ((B 14) n9)), (126, 1)]) (l2 := [(102, (nI op)), (116, en), (117, (nI fu)), (125, ((B 14) n9)), (126, (1 : Int32))]) (V := [(nI op), en, (nI fu), ((B 14) n9), (1 : Int32), (nI op), en, (nI fu), ((B 14) n9), (1 : Int32)]) rfl rfl rfl hP
            have hD : va_D A (mW G h0 a (upd (upd (upd (upd (upd F 102 (nI op)) 116 en) 117 (nI fu)) 125 ((B 14) n9)) 126 (1 : Int32)) (updA B 63 (upd (upd csc (op - 1) (nI sc)) (op - 1) (nI (sc + 1))))) := mW_D hD
            exact W.vret hx hb hr (fun t9 ht9 hW9 => ⟨⟨_, (fu, en, ((B 14) n9), (1 : Int32), (upd (upd csc (op - 1) (nI sc)) (op - 1) (nI (sc + 1)))), rfl, ⟨rfl, hz126, hz127, hz128⟩, by rw [ht9]; exact hP, hD⟩, hS.F ht9⟩) hS.2.2 dX12_loops_119
    · refine lv_aload_n hx hb dX12_loops_22 rfl (lv_at hl 0 rfl) ?_
      refine lv_iload_n hx hb dX12_loops_23 rfl (lv_at hl 1 rfl) ?_
      have hP : va_P G.1 pCl (mW G h0 a (upd (upd (upd (upd (upd F 102 (nI op)) 116 en) 117 (nI fu)) 125 nw) 126 isn) (updA B 63 (upd csc (op - 1) (nI sc)))) _ := mW_to (F := F) (l1 := [(102, (nI op)), (116, en), (117, (nI fu)), (125, nw), (126, isn)]) (l2 := [(102, (nI op)), (116, en), (117, (nI fu)), (125, nw), (126, isn)]) (V := [(nI op), en, (nI fu), nw, isn, (nI op), en, (nI fu), nw, isn]) rfl rfl (show (updA (updA B 63 csc) 63 (upd csc (op - 1) (nI sc))) = (updA B 63 (upd csc (op - 1) (nI sc))) from updsA_eq2 (F := B) (l1 := [(63, csc), (63, (upd csc (op - 1) (nI sc)))]) (l2 := [(63, (upd csc (op - 1) (nI sc)))]) (V := [(upd csc (op - 1) (nI sc)), (upd csc (op - 1) (nI sc)), (upd csc (op - 1) (nI sc))]) rfl rfl) hP
      have hD : va_D A (mW G h0 a (upd (upd (upd (upd (upd F 102 (nI op)) 116 en) 117 (nI fu)) 125 nw) 126 isn) (updA B 63 (upd csc (op - 1) (nI sc)))) := mW_D hD
      refine pc_V0 (G := G) (As := [.int (nI n9)]) (rest := []) hx hb hml hown hq hE hX pX0_al hP hD hS hA hl.1 (R_comesToEnd l G h0 a (upd (upd (upd (upd (upd F 102 (nI op)) 116 en) 117 (nI fu)) 125 nw) 126 isn) (updA B 63 (upd csc (op - 1) (nI sc))) (nI n9)) (gV pw_2010 pw_2011 pw_2012 pw_1523 pw_2005) hV_X12_comesToEnd 0 9 rfl rfl rfl rfl (Nat.le_of_ble_eq_true rfl) dX12_loops_24 ⟨Nat.le_of_ble_eq_true rfl, Nat.le_of_ble_eq_true rfl⟩ ⟨Nat.le_of_ble_eq_true rfl, Nat.le_of_ble_eq_true rfl⟩ (fun v131 u129 H locs hw130 hP hD hS => ?_)
      obtain rfl : v131 = none := hw130
      have hP : va_P G.1 pCl (mW G h0 a (upd (upd (upd (upd (upd F 102 (nI op)) 116 en) 117 (nI fu)) 125 (nI n9)) 126 0) (updA B 63 (upd csc (op - 1) (nI sc)))) _ := mW_to (F := F) (l1 := [(102, (nI op)), (116, en), (117, (nI fu)), (125, nw), (126, isn), (125, (nI n9)), (126, 0)]) (l2 := [(102, (nI op)), (116, en), (117, (nI fu)), (125, (nI n9)), (126, 0)]) (V := [(nI op), en, (nI fu), (nI n9), 0, (nI n9), 0, (nI op), en, (nI fu), (nI n9), 0]) rfl rfl rfl hP
      have hD : va_D A (mW G h0 a (upd (upd (upd (upd (upd F 102 (nI op)) 116 en) 117 (nI fu)) 125 (nI n9)) 126 0) (updA B 63 (upd csc (op - 1) (nI sc)))) := mW_D hD
      refine W.widen (k := 0) (n := 0) (Nat.le_of_ble_eq_true rfl) (Nat.le_of_ble_eq_true rfl) ?_
      refine W.eq (g2 := F0 m 27 ls []) rfl ?_
      have hz132 : ∀ i : Nat, i ≠ op - 1 → (upd csc (op - 1) (nI sc)) i = csc i := (fun i h => if_neg h)
      have hz133 : If (kd = (3 : Int32)) ((upd csc (op - 1) (nI sc)) (op - 1) = nI sc ∧ (nI n9) = nI n9 ∧ (0 : Int32) = 0 ∧ en = en ∧ fu = fu) := (fun _ => ⟨upd_eq, rfl, rfl, rfl, rfl⟩)
      have hz134 : If (¬ kd = (3 : Int32)) ((upd csc (op - 1) (nI sc)) (op - 1) = nI (sc + lpD B n9) ∧ ((kk = 36 ∧ ¬ B 14 n9 = -1 ∧ (nI n9) = B 14 n9 ∧ (0 : Int32) = 1 ∧ en = en ∧ fu = fu) ∨ en = 2 ∨ (fu + 1 = fu ∧ en = en ∧ (0 : Int32) = 1 ∧ (nI n9) = lkF B n9))) := (fun h => absurd c37 h)
      have hP : va_P G.1 pCl (mW G h0 a (upd (upd (upd (upd (upd F 102 (nI op)) 116 en) 117 (nI fu)) 125 (nI n9)) 126 (0 : Int32)) (updA B 63 (upd csc (op - 1) (nI sc)))) _ := mW_to (F := F) (l1 := [(102, (nI op)), (116, en), (117, (nI fu)), (125, (nI n9)), (126, 0)]) (l2 := [(102, (nI op)), (116, en), (117, (nI fu)), (125, (nI n9)), (126, (0 : Int32))]) (V := [(nI op), en, (nI fu), (nI n9), (0 : Int32), (nI op), en, (nI fu), (nI n9), (0 : Int32)]) rfl rfl rfl hP
      have hD : va_D A (mW G h0 a (upd (upd (upd (upd (upd F 102 (nI op)) 116 en) 117 (nI fu)) 125 (nI n9)) 126 (0 : Int32)) (updA B 63 (upd csc (op - 1) (nI sc)))) := mW_D hD
      exact W.vret hx hb hr (fun t9 ht9 hW9 => ⟨⟨_, (fu, en, (nI n9), (0 : Int32), (upd csc (op - 1) (nI sc))), rfl, ⟨rfl, hz132, hz133, hz134⟩, by rw [ht9]; exact hP, hD⟩, hS.F ht9⟩) hS.2.2 dX12_loops_27

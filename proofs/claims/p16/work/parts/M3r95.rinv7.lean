section INV
variable {X Y Z : Nat → Nat → Int32} {gh : Nat → Nat → Nat} {nd T nm wr lz dc fd md pr bk rmm mu op tp wn fu rd on idn fl ct p q rc m2 : Nat} {M : MTb} {mt ps : Nat → Nat} {yy : Nat → Ps} {bf wf : Nat → Nat} {co : Nat → Int32} {v co0 is0 uc0 : Int32}
theorem Rdy.cho (h : Rdy X Y gh nd T nm wr lz dc fd md pr bk M rmm mu op tp wn fu rd on idn fl ct p mt ps yy bf wf q rc) (g : ChO X co dc md nm) : Rdy X (updA Y 54 co) gh nd T nm wr lz dc fd md pr bk M rmm mu op tp wn fu rd on idn fl ct p mt ps yy bf wf q rc := ⟨h.1.cho g, h.2⟩
theorem Rdy.bd (h : Rdy X Y gh nd T nm wr lz dc fd md pr bk M rmm mu op tp wn fu rd on idn fl ct p mt ps yy bf wf q rc) : 1 ≤ op ∧ op ≤ 100 ∧ p < nd ∧ nd ≤ 12000 ∧ q + rc ≤ tp ∧ tp ≤ 40000 ∧ wn ≤ 20 * op ∧ ¬ Y 62 (op - 1) = 0 ∧ ∃ m : Nat, Y 18 p = nI m ∧ m < md ∧ X 41 m = nI q := by
  have b := h.1.bd
  obtain ⟨P, hh, ⟨hC, hq, ht⟩, _, _, _, _, _, hm⟩ := h
  have r := Cfg.room P.fs (by omega) P.tbl P.blk hC
  obtain ⟨f, _⟩ := hC.top
  exact ⟨r.1, r.2.1, r.2.2.1, by omega, hq, ht, r.2.2.2.2.1, f.2.2.1.1, hm⟩
theorem Rdy.stop (h : Rdy X Y gh nd T nm wr lz dc fd md pr bk M rmm mu op tp wn fu rd on idn fl ct p mt ps yy bf wf q rc) {en nw isn uc : Int32} (e1 : ¬ en = -1) (e2 : ¬ en = 1) {fu2 mu2 op1 tp2 wn2 fu3 rd2 : Nat} : Nx X Y gh nd T nm wr lz dc fd md pr bk M rmm fu2 mu2 op1 tp2 wn2 fu3 rd2 on idn fl ct en nw isn uc := ⟨h.1, h.2.1, Or.inl ⟨e1, fun w => absurd w e2⟩⟩
theorem Nx.rows (h : Nx X Y gh nd T nm wr lz dc fd md pr bk M rmm fu mu op tp wn p rd on idn fl ct v co0 is0 uc0) (e : Z = Y) : Nx X Z gh nd T nm wr lz dc fd md pr bk M rmm fu mu op tp wn p rd on idn fl ct v co0 is0 uc0 := by rw [e]; exact h
theorem upd6_id {B : Nat → Nat → Int32} : updA (updA (updA (updA (updA (updA B 62 (B 62)) 63 (B 63)) 64 (B 64)) 65 (B 65)) 66 (B 66)) 67 (B 67) = B := by
  funext i
  unfold updA
  by_cases h1 : i = 67
  · rw [if_pos h1, h1]
  · by_cases h2 : i = 66
    · rw [if_neg h1, if_pos h2, h2]
    · by_cases h3 : i = 65
      · rw [if_neg h1, if_neg h2, if_pos h3, h3]
      · by_cases h4 : i = 64
        · rw [if_neg h1, if_neg h2, if_neg h3, if_pos h4, h4]
        · by_cases h5 : i = 63
          · rw [if_neg h1, if_neg h2, if_neg h3, if_neg h4, if_pos h5, h5]
          · by_cases h6 : i = 62
            · rw [if_neg h1, if_neg h2, if_neg h3, if_neg h4, if_neg h5, if_pos h6, h6]
            · rw [if_neg h1, if_neg h2, if_neg h3, if_neg h4, if_neg h5, if_neg h6]
end INV
theorem dX12_invokes_0 : decode cX12_invokes 0 = .ok (.aload_n 0, 1) := by decide +kernel
theorem dX12_invokes_1 : decode cX12_invokes 1 = .ok (.invokevirtual 782, 3) := by decide +kernel
theorem dX12_invokes_4 : decode cX12_invokes 4 = .ok (.ifCond .ne 4, 3) := by decide +kernel
theorem dX12_invokes_7 : decode cX12_invokes 7 = .ok (.return_, 1) := by decide +kernel
theorem dX12_invokes_8 : decode cX12_invokes 8 = .ok (.aload_n 0, 1) := by decide +kernel
theorem dX12_invokes_9 : decode cX12_invokes 9 = .ok (.getfield 65, 3) := by decide +kernel
theorem dX12_invokes_12 : decode cX12_invokes 12 = .ok (.iload_n 1, 1) := by decide +kernel
theorem dX12_invokes_13 : decode cX12_invokes 13 = .ok (.iaload, 1) := by decide +kernel
theorem dX12_invokes_14 : decode cX12_invokes 14 = .ok (.istore_n 2, 1) := by decide +kernel
theorem dX12_invokes_15 : decode cX12_invokes 15 = .ok (.aload_n 0, 1) := by decide +kernel
theorem dX12_invokes_16 : decode cX12_invokes 16 = .ok (.getfield 38, 3) := by decide +kernel
theorem dX12_invokes_19 : decode cX12_invokes 19 = .ok (.iload_n 1, 1) := by decide +kernel
theorem dX12_invokes_20 : decode cX12_invokes 20 = .ok (.iaload, 1) := by decide +kernel
theorem dX12_invokes_21 : decode cX12_invokes 21 = .ok (.bipush 14, 2) := by decide +kernel
theorem dX12_invokes_23 : decode cX12_invokes 23 = .ok (.if_icmp .ne 24, 3) := by decide +kernel
theorem dX12_invokes_47 : decode cX12_invokes 47 = .ok (.aload_n 0, 1) := by decide +kernel
theorem dX12_invokes_48 : decode cX12_invokes 48 = .ok (.getfield 199, 3) := by decide +kernel
theorem dX12_invokes_51 : decode cX12_invokes 51 = .ok (.aload_n 0, 1) := by decide +kernel
theorem dX12_invokes_52 : decode cX12_invokes 52 = .ok (.getfield 707, 3) := by decide +kernel
theorem dX12_invokes_55 : decode cX12_invokes 55 = .ok (.iconst 1, 1) := by decide +kernel
theorem dX12_invokes_56 : decode cX12_invokes 56 = .ok (.isub, 1) := by decide +kernel
theorem dX12_invokes_57 : decode cX12_invokes 57 = .ok (.iaload, 1) := by decide +kernel
theorem dX12_invokes_58 : decode cX12_invokes 58 = .ok (.istore_n 3, 1) := by decide +kernel
theorem dX12_invokes_59 : decode cX12_invokes 59 = .ok (.iload_n 3, 1) := by decide +kernel
theorem dX12_invokes_60 : decode cX12_invokes 60 = .ok (.ifCond .ne 12, 3) := by decide +kernel
theorem dX12_invokes_72 : decode cX12_invokes 72 = .ok (.aload_n 0, 1) := by decide +kernel
theorem dX12_invokes_73 : decode cX12_invokes 73 = .ok (.getfield 38, 3) := by decide +kernel
theorem dX12_invokes_76 : decode cX12_invokes 76 = .ok (.iload_n 1, 1) := by decide +kernel
theorem dX12_invokes_77 : decode cX12_invokes 77 = .ok (.iaload, 1) := by decide +kernel
theorem dX12_invokes_78 : decode cX12_invokes 78 = .ok (.bipush 8, 2) := by decide +kernel
theorem dX12_invokes_80 : decode cX12_invokes 80 = .ok (.if_icmp .ne 7, 3) := by decide +kernel
theorem dX12_invokes_87 : decode cX12_invokes 87 = .ok (.aload_n 0, 1) := by decide +kernel
theorem dX12_invokes_88 : decode cX12_invokes 88 = .ok (.aload_n 0, 1) := by decide +kernel
theorem dX12_invokes_89 : decode cX12_invokes 89 = .ok (.iload_n 3, 1) := by decide +kernel
theorem dX12_invokes_90 : decode cX12_invokes 90 = .ok (.invokevirtual 745, 3) := by decide +kernel
theorem dX12_invokes_93 : decode cX12_invokes 93 = .ok (.aload_n 0, 1) := by decide +kernel
theorem dX12_invokes_94 : decode cX12_invokes 94 = .ok (.getfield 123, 3) := by decide +kernel
theorem dX12_invokes_97 : decode cX12_invokes 97 = .ok (.iload_n 2, 1) := by decide +kernel
theorem dX12_invokes_98 : decode cX12_invokes 98 = .ok (.iaload, 1) := by decide +kernel
theorem dX12_invokes_99 : decode cX12_invokes 99 = .ok (.invokevirtual 855, 3) := by decide +kernel
theorem dX12_invokes_102 : decode cX12_invokes 102 = .ok (.istore 4, 2) := by decide +kernel
theorem dX12_invokes_104 : decode cX12_invokes 104 = .ok (.aload_n 0, 1) := by decide +kernel
theorem dX12_invokes_105 : decode cX12_invokes 105 = .ok (.getfield 38, 3) := by decide +kernel
theorem dX12_invokes_108 : decode cX12_invokes 108 = .ok (.iload_n 1, 1) := by decide +kernel
theorem dX12_invokes_109 : decode cX12_invokes 109 = .ok (.iaload, 1) := by decide +kernel
theorem dX12_invokes_110 : decode cX12_invokes 110 = .ok (.bipush 14, 2) := by decide +kernel
theorem dX12_invokes_112 : decode cX12_invokes 112 = .ok (.if_icmp .ne 7, 3) := by decide +kernel
theorem dX12_invokes_119 : decode cX12_invokes 119 = .ok (.iconst 0, 1) := by decide +kernel
theorem dX12_invokes_120 : decode cX12_invokes 120 = .ok (.istore 5, 2) := by decide +kernel
theorem dX12_invokes_122 : decode cX12_invokes 122 = .ok (.aload_n 0, 1) := by decide +kernel
theorem dX12_invokes_123 : decode cX12_invokes 123 = .ok (.iload 4, 2) := by decide +kernel
theorem dX12_invokes_125 : decode cX12_invokes 125 = .ok (.iload_n 3, 1) := by decide +kernel
theorem dX12_invokes_126 : decode cX12_invokes 126 = .ok (.iload_n 1, 1) := by decide +kernel
theorem dX12_invokes_127 : decode cX12_invokes 127 = .ok (.invokevirtual 785, 3) := by decide +kernel
theorem dX12_invokes_130 : decode cX12_invokes 130 = .ok (.aload_n 0, 1) := by decide +kernel
theorem dX12_invokes_131 : decode cX12_invokes 131 = .ok (.getfield 233, 3) := by decide +kernel
theorem dX12_invokes_134 : decode cX12_invokes 134 = .ok (.iconst (-1), 1) := by decide +kernel
theorem dX12_invokes_135 : decode cX12_invokes 135 = .ok (.if_icmp .ne 33, 3) := by decide +kernel
theorem dX12_invokes_168 : decode cX12_invokes 168 = .ok (.return_, 1) := by decide +kernel
theorem dX12_invokes_138 : decode cX12_invokes 138 = .ok (.iload 5, 2) := by decide +kernel
theorem dX12_invokes_140 : decode cX12_invokes 140 = .ok (.ifCond .eq 28, 3) := by decide +kernel
theorem hV_X12_chosenOf : yX12_chosenOf.cls = RX12 ∧ yX12_chosenOf.cls ≠ "java/lang/invoke/MethodHandle" ∧ yX12_chosenOf.cls ≠ "java/lang/invoke/VarHandle" ∧ (parseMethodDescriptor yX12_chosenOf.desc).map (fun d => d.parameters.length) = some 2 := by decide +kernel
theorem hV_X12_opens : yX12_opens.cls = RX12 ∧ yX12_opens.cls ≠ "java/lang/invoke/MethodHandle" ∧ yX12_opens.cls ≠ "java/lang/invoke/VarHandle" ∧ (parseMethodDescriptor yX12_opens.desc).map (fun d => d.parameters.length) = some 3 := by decide +kernel
set_option maxHeartbeats 16000000 in
set_option maxRecDepth 100000 in
/-- invokes(n), kind 7 -/
theorem R_invokes7 (l : Launch) (G : pT) (h0 : Nat) (a : Nat → Nat) (F : Nat → Int32) (B : Nat → Nat → Int32) (Xs : Nat → Nat → Int32) (gh : Nat → Nat → Nat) (nd : Nat) (T : Nat) (nm : Nat) (wr : Nat) (lz : Nat) (dc : Nat) (fd : Nat) (md : Nat) (pr : Nat) (bk : Nat) (M : MTb) (rmm : Nat) (mu : Nat) (op : Nat) (tp : Nat) (wn : Nat) (fu : Nat) (rd : Nat) (on : Nat) (idn : Nat) (fl : Nat) (ct : Nat) (n9 : Nat) (q9 : Nat) (mt : Nat → Nat) (ps : Nat → Nat) (yy : Nat → Ps) (bf : Nat → Nat) (wf : Nat → Nat) (nw : Int32) (isn : Int32) (rs0 : Int32) (uc0 : Int32) (ca : Int32) (mo : Int32) (hY : Rdy Xs B gh nd T nm wr lz dc fd md pr bk M rmm mu op tp wn fu rd on idn fl ct n9 mt ps yy bf wf q9 0) (hfu : fu ≤ 20000) (hkd : Xs 9 n9 = nI 7) : PM l G pX0 yX12_invokes cX12_invokes 6 none ({ frames := 4, cells := 0, slots := 0, locals := 106 }) [.ref h0, .int (nI n9)] (mW G h0 a (upd (upd (upd (upd (upd (upd (upd (upd (upd (upd (upd (upd F 49 (nI md)) 102 (nI op)) 111 (nI tp)) 115 (nI wn)) 116 (-1)) 117 (nI fu)) 118 rs0) 119 uc0) 123 ca) 124 mo) 125 nw) 126 isn) B) (fun (v : Option Value) (u : Nat × Nat × Nat × Nat × Int32 × Int32 × Int32 × Int32 × Int32 × Int32 × Int32 × (Nat → Nat → Int32)) => v = none ∧ (Nx Xs u.2.2.2.2.2.2.2.2.2.2.2 gh nd T nm wr lz dc fd md pr bk M rmm fu mu u.1 u.2.1 u.2.2.1 u.2.2.2.1 rd on idn fl ct u.2.2.2.2.1 u.2.2.2.2.2.1 u.2.2.2.2.2.2.1 u.2.2.2.2.2.2.2.2.1)) (fun u => (mW G h0 a (upd (upd (upd (upd (upd (upd (upd (upd (upd (upd (upd (upd F 49 (nI md)) 102 (nI u.1)) 111 (nI u.2.1)) 115 (nI u.2.2.1)) 116 u.2.2.2.2.1) 117 (nI u.2.2.2.1)) 118 u.2.2.2.2.2.2.2.1) 119 u.2.2.2.2.2.2.2.2.1) 123 u.2.2.2.2.2.2.2.2.2.1) 124 u.2.2.2.2.2.2.2.2.2.2.1) 125 u.2.2.2.2.2.1) 126 u.2.2.2.2.2.2.1) u.2.2.2.2.2.2.2.2.2.2.2)) := by
  intro sz
  refine Met.ofW (cc := cX12_invokes) (maxL := 6) (ret := none) (by decide) rfl ?_
  intro p e s m args below meth c s₁ B9 hml hv
  obtain ⟨rfl, hsz, hP, hD0, hE, hX⟩ := hv
  have hx := B9.exec
  have hb := B9.bytes
  have hr := B9.returns
  have hts := atoms_spec (ws := Cond.code yX12_invokes cX12_invokes 6 none :: pw) B9.pre
  have hq : ∀ w ∈ pw, w.before _ s = true := fun w h => hts w (List.mem_cons_of_mem _ h)
  have hown : s.vm.findClass RX12 = some m.cls := findClass_of_methodNamed B9.named
  have hlocks := B9.notSynchronized
  subst hsz
  have hD := hD0.self (sz := s.heap.size)
  have hA : ∀ q : Nat, s.heap.size ≤ q → va_A (mW G h0 a (upd (upd (upd (upd (upd (upd (upd (upd (upd (upd (upd (upd F 49 (nI md)) 102 (nI op)) 111 (nI tp)) 115 (nI wn)) 116 (-1)) 117 (nI fu)) 118 rs0) 119 uc0) 123 ca) 124 mo) 125 nw) 126 isn) B) s.heap.size q := fun q h => Or.inr h
  have hP : va_P G.1 pCl (mW G h0 a (upd (upd (upd (upd (upd (upd (upd (upd (upd (upd (upd (upd F 49 (nI md)) 102 (nI op)) 111 (nI tp)) 115 (nI wn)) 116 (-1)) 117 (nI fu)) 118 rs0) 119 uc0) 123 ca) 124 mo) 125 nw) 126 isn) B) s.heap := hP
  generalize va_A (mW G h0 a (upd (upd (upd (upd (upd (upd (upd (upd (upd (upd (upd (upd F 49 (nI md)) 102 (nI op)) 111 (nI tp)) 115 (nI wn)) 116 (-1)) 117 (nI fu)) 118 rs0) 119 uc0) 123 ca) 124 mo) 125 nw) 126 isn) B) s.heap.size = A at hD hE hA ⊢
  have hS : va_S A s.heap s.heap [] := va_S.rf
  have hl := lv_entry ([.ref h0, .int (nI n9)]) (n := 6) (Nat.le_of_ble_eq_true rfl)
  rw [lg_entry_eq]
  generalize (lg_sl ([.ref h0, .int (nI n9)]) ++ List.replicate (6 - (lg_sl ([.ref h0, .int (nI n9)])).length) Slot.unset).toArray = ls at hl ⊢
  have hl : lv_has ls 6 [(0, .ref h0), (1, .int (nI n9))] := hl
  have hPg := hY.1
  have hbd := hPg.bd
  obtain ⟨hr1, hr2, hr3, hr4, hr5, hr6, hr7, hr8, m9, hm1, hm2, hm3⟩ := hY.bd
  have hw9 : B 9 = Xs 9 := hPg.row 9 (by omega) (by omega) (by omega) (by omega) (by omega)
  have hw21 : B 21 = Xs 21 := hPg.row 21 (by omega) (by omega) (by omega) (by omega) (by omega)
  have hw29 : B 29 = Xs 29 := hPg.row 29 (by omega) (by omega) (by omega) (by omega) (by omega)
  have hw36 : B 36 = Xs 36 := hPg.row 36 (by omega) (by omega) (by omega) (by omega) (by omega)
  have hw37 : B 37 = Xs 37 := hPg.row 37 (by omega) (by omega) (by omega) (by omega) (by omega)
  have hw40 : B 40 = Xs 40 := hPg.row 40 (by omega) (by omega) (by omega) (by omega) (by omega)
  have hw41 : B 41 = Xs 41 := hPg.row 41 (by omega) (by omega) (by omega) (by omega) (by omega)
  have hw42 : B 42 = Xs 42 := hPg.row 42 (by omega) (by omega) (by omega) (by omega) (by omega)
  have hw47 : B 47 = Xs 47 := hPg.row 47 (by omega) (by omega) (by omega) (by omega) (by omega)
  refine lv_aload_n hx hb dX12_invokes_0 rfl (lv_at hl 0 rfl) ?_
  have hP : va_P G.1 pCl (mW G h0 a (upd (upd (upd (upd (upd (upd (upd (upd (upd (upd (upd (upd (upd (upd F 49 (nI md)) 102 (nI op)) 111 (nI tp)) 115 (nI wn)) 116 (-1)) 117 (nI fu)) 118 rs0) 119 uc0) 123 ca) 124 mo) 125 nw) 126 isn) 116 (-1)) 117 (nI fu)) B) _ := mW_to (F := F) (l1 := [(49, (nI md)), (102, (nI op)), (111, (nI tp)), (115, (nI wn)), (116, (-1)), (117, (nI fu)), (118, rs0), (119, uc0), (123, ca), (124, mo), (125, nw), (126, isn)]) (l2 := [(49, (nI md)), (102, (nI op)), (111, (nI tp)), (115, (nI wn)), (116, (-1)), (117, (nI fu)), (118, rs0), (119, uc0), (123, ca), (124, mo), (125, nw), (126, isn), (116, (-1)), (117, (nI fu))]) (V := [(nI md), (nI op), (nI tp), (nI wn), (-1), (nI fu), rs0, uc0, ca, mo, nw, isn, (nI md), (nI op), (nI tp), (nI wn), (-1), (nI fu), rs0, uc0, ca, mo, nw, isn, (-1), (nI fu)]) rfl rfl rfl hP
  have hD : va_D A (mW G h0 a (upd (upd (upd (upd (upd (upd (upd (upd (upd (upd (upd (upd (upd (upd F 49 (nI md)) 102 (nI op)) 111 (nI tp)) 115 (nI wn)) 116 (-1)) 117 (nI fu)) 118 rs0) 119 uc0) 123 ca) 124 mo) 125 nw) 126 isn) 116 (-1)) 117 (nI fu)) B) := mW_D hD
  refine pc_V0 (G := G) (As := []) (rest := []) hx hb hml hown hq hE hX pX0_al hP hD hS hA hl.1 (R_pays l G h0 a (upd (upd (upd (upd (upd (upd (upd (upd (upd (upd (upd (upd F 49 (nI md)) 102 (nI op)) 111 (nI tp)) 115 (nI wn)) 116 (-1)) 117 (nI fu)) 118 rs0) 119 uc0) 123 ca) 124 mo) 125 nw) 126 isn) B fu (-1) (by omega)) (gV pw_2026 pw_2027 pw_2028 pw_1523 pw_2000) hV_X12_pays 0 9 rfl rfl rfl rfl (Nat.le_of_ble_eq_true rfl) dX12_invokes_1 ⟨Nat.le_of_ble_eq_true rfl, Nat.le_of_ble_eq_true rfl⟩ ⟨Nat.le_of_ble_eq_true rfl, Nat.le_of_ble_eq_true rfl⟩ (fun v3 u1 H locs hw2 hP hD hS => ?_)
  obtain ⟨r4, fu5, en6⟩ := u1
  obtain ⟨hw2, h7, h8, h9, h10⟩ := hw2
  replace h7 : r4 ≤ 1 := h7
  replace h8 : fu5 + r4 = fu := h8
  replace h9 : If (r4 = 1) (en6 = (-1)) := h9
  replace h10 : If (r4 = 0) (en6 = 2) := h10
  obtain rfl : v3 = some (.int (nI r4)) := hw2
  have hP : va_P G.1 pCl (mW G h0 a (upd (upd (upd (upd (upd (upd (upd (upd (upd (upd (upd (upd F 49 (nI md)) 102 (nI op)) 111 (nI tp)) 115 (nI wn)) 116 en6) 117 (nI fu5)) 118 rs0) 119 uc0) 123 ca) 124 mo) 125 nw) 126 isn) B) _ := mW_to (F := F) (l1 := [(49, (nI md)), (102, (nI op)), (111, (nI tp)), (115, (nI wn)), (116, (-1)), (117, (nI fu)), (118, rs0), (119, uc0), (123, ca), (124, mo), (125, nw), (126, isn), (116, en6), (117, (nI fu5))]) (l2 := [(49, (nI md)), (102, (nI op)), (111, (nI tp)), (115, (nI wn)), (116, en6), (117, (nI fu5)), (118, rs0), (119, uc0), (123, ca), (124, mo), (125, nw), (126, isn)]) (V := [(nI md), (nI op), (nI tp), (nI wn), en6, (nI fu5), rs0, uc0, ca, mo, nw, isn, en6, (nI fu5), (nI md), (nI op), (nI tp), (nI wn), en6, (nI fu5), rs0, uc0, ca, mo, nw, isn]) rfl rfl rfl hP
  have hD : va_D A (mW G h0 a (upd (upd (upd (upd (upd (upd (upd (upd (upd (upd (upd (upd F 49 (nI md)) 102 (nI op)) 111 (nI tp)) 115 (nI wn)) 116 en6) 117 (nI fu5)) 118 rs0) 119 uc0) 123 ca) 124 mo) 125 nw) 126 isn) B) := mW_D hD
  refine W.widen (k := 0) (n := 0) (Nat.le_of_ble_eq_true rfl) (Nat.le_of_ble_eq_true rfl) ?_
  refine W.eq (g2 := F0 m 4 ls [.int (nI r4)]) rfl ?_
  rcases (show r4 = 0 ∨ r4 = 1 by omega) with hr0 | hr0
  · have hen := h10 hr0
    subst hr0
    have hP : va_P G.1 pCl (mW G h0 a (upd (upd (upd (upd (upd (upd (upd (upd (upd (upd (upd (upd F 49 (nI md)) 102 (nI op)) 111 (nI tp)) 115 (nI wn)) 116 en6) 117 (nI fu5)) 118 rs0) 119 uc0) 123 ca) 124 mo) 125 nw) 126 isn) B) _ := hP
    have hD : va_D A (mW G h0 a (upd (upd (upd (upd (upd (upd (upd (upd (upd (upd (upd (upd F 49 (nI md)) 102 (nI op)) 111 (nI tp)) 115 (nI wn)) 116 en6) 117 (nI fu5)) 118 rs0) 119 uc0) 123 ca) 124 mo) 125 nw) 126 isn) B) := mW_D hD
    refine W.eq (g2 := F0 m 4 ls [.int 0]) rfl ?_
    refine lv_if_ne (tgt := 8) hx hb dX12_invokes_4 (by decide) (fun c11 => absurd c11 (by decide)) (fun c11 => ?_)
    have hz12 : Nx Xs B gh nd T nm wr lz dc fd md pr bk M rmm fu mu op tp wn fu5 rd on idn fl ct en6 nw isn uc0 := (hY.stop (by rw [hen]; decide) (by rw [hen]; decide))
    have hP : va_P G.1 pCl (mW G h0 a (upd (upd (upd (upd (upd (upd (upd (upd (upd (upd (upd (upd F 49 (nI md)) 102 (nI op)) 111 (nI tp)) 115 (nI wn)) 116 en6) 117 (nI fu5)) 118 rs0) 119 uc0) 123 ca) 124 mo) 125 nw) 126 isn) B) _ := hP
    have hD : va_D A (mW G h0 a (upd (upd (upd (upd (upd (upd (upd (upd (upd (upd (upd (upd F 49 (nI md)) 102 (nI op)) 111 (nI tp)) 115 (nI wn)) 116 en6) 117 (nI fu5)) 118 rs0) 119 uc0) 123 ca) 124 mo) 125 nw) 126 isn) B) := mW_D hD
    exact W.vret hx hb hr (fun t9 ht9 hW9 => ⟨⟨_, (op, tp, wn, fu5, en6, nw, isn, rs0, uc0, ca, mo, B), rfl, ⟨rfl, hz12⟩, by rw [ht9]; exact hP, hD⟩, hS.F ht9⟩) hS.2.2 dX12_invokes_7
  · obtain rfl : en6 = _ := h9 hr0
    subst hr0
    have hP : va_P G.1 pCl (mW G h0 a (upd (upd (upd (upd (upd (upd (upd (upd (upd (upd (upd (upd F 49 (nI md)) 102 (nI op)) 111 (nI tp)) 115 (nI wn)) 116 (-1)) 117 (nI fu5)) 118 rs0) 119 uc0) 123 ca) 124 mo) 125 nw) 126 isn) B) _ := hP
    have hD : va_D A (mW G h0 a (upd (upd (upd (upd (upd (upd (upd (upd (upd (upd (upd (upd F 49 (nI md)) 102 (nI op)) 111 (nI tp)) 115 (nI wn)) 116 (-1)) 117 (nI fu5)) 118 rs0) 119 uc0) 123 ca) 124 mo) 125 nw) 126 isn) B) := mW_D hD
    refine W.eq (g2 := F0 m 4 ls [.int 1]) rfl ?_
    refine lv_if_ne (tgt := 8) hx hb dX12_invokes_4 (by decide) (fun c13 => ?_) (fun c13 => absurd c13 (by decide))
    refine lv_aload_n hx hb dX12_invokes_8 rfl (lv_at hl 0 rfl) ?_
    refine r_get (v := .ref (a 18)) hx hb hown hq hE hP 26 65 tFX12_26 (by decide) pw_1448 rfl dX12_invokes_9 ?_
    refine lv_iload_n hx hb dX12_invokes_12 rfl (lv_at hl 1 rfl) ?_
    refine r_ldi (f := (B 18)) (j := n9) hx hb hE hP 18 (ma_18 G a _) rfl (by omega) (by decide) dX12_invokes_13 ?_
    refine lv_topi (fun x14 e15 => ?_)
    obtain rfl : x14 = nI m9 := e15.trans hm1
    refine lv_istore_n (lv' := [(2, .int (nI m9)), (0, .ref h0), (1, .int (nI n9))]) hx hb dX12_invokes_14 rfl hl (by decide) rfl (fun ls hl => ?_)
    refine lv_aload_n hx hb dX12_invokes_15 rfl (lv_at hl 1 rfl) ?_
    refine r_get (v := .ref (a 9)) hx hb hown hq hE hP 17 38 tFX12_17 (by decide) pw_1439 rfl dX12_invokes_16 ?_
    refine lv_iload_n hx hb dX12_invokes_19 rfl (lv_at hl 2 rfl) ?_
    refine r_ldi (f := (B 9)) (j := n9) hx hb hE hP 9 (ma_9 G a _) rfl (by omega) (by decide) dX12_invokes_20 ?_
    refine lv_topi (fun x16 e17 => ?_)
    obtain rfl : x16 = 7 := e17.trans ((congrFun hw9 _).trans hkd)
    refine lv_bipush (v := 14) hx hb dX12_invokes_21 (by decide) ?_
    refine lv_icmp_ne (tgt := 47) hx hb dX12_invokes_23 (by decide) (fun c18 => ?_) (fun c18 => absurd c18 (by decide))
    refine lv_aload_n hx hb dX12_invokes_47 rfl (lv_at hl 1 rfl) ?_
    refine r_get (v := .ref (a 62)) hx hb hown hq hE hP 103 199 tFX12_103 (by decide) pw_1494 rfl dX12_invokes_48 ?_
    refine lv_aload_n hx hb dX12_invokes_51 rfl (lv_at hl 1 rfl) ?_
    refine r_get (v := .int (nI op)) hx hb hown hq hE hP 102 707 tFX12_102 (by decide) pw_1969 rfl dX12_invokes_52 ?_
    refine lv_iconst (v := 1) hx hb dX12_invokes_55 (by decide) ?_
    refine lv_isub hx hb dX12_invokes_56 ?_
    refine lv_topi (fun x19 e20 => ?_)
    obtain rfl : x19 = nI (op - 1) := e20.trans (nI_subN (a := 1) (b := op) (by omega))
    refine r_ldi (f := (B 62)) (j := (op - 1)) hx hb hE hP 62 (ma_62 G a _) rfl (by omega) (by decide) dX12_invokes_57 ?_
    have hnz := hr8
    obtain ⟨m8, x9, k9, nv9, m2, hg1, hg2, hg3, hg4, hg5, hg6, hg7, hg8, hg9, hg10, hg11, hg12⟩ := hY.tgt hkd (by omega) (Or.inl ⟨rfl, rfl⟩) hnz
    obtain rfl : m8 = m9 := (nI_eq (by omega) (by omega)).mp (hg1.symm.trans hm1)
    have hl : lv_has ls 6 [(2, .int (nI m8)), (0, .ref h0), (1, .int (nI n9))] := hl
    rw [hg3] at hg11
    refine lv_topi (fun x21 e22 => ?_)
    obtain rfl : x21 = nI x9 := e22.trans hg3
    refine lv_istore_n (lv' := [(3, .int (nI x9)), (2, .int (nI m8)), (0, .ref h0), (1, .int (nI n9))]) hx hb dX12_invokes_58 rfl hl (by decide) rfl (fun ls hl => ?_)
    refine lv_iload_n hx hb dX12_invokes_59 rfl (lv_at hl 0 rfl) ?_
    refine lv_if_ne (tgt := 72) hx hb dX12_invokes_60 (by decide) (fun c23 => ?_) (fun c23 => (by have n24 : x9 = 0 := (nI_eq (a := x9) (b := 0) (by omega) (by omega)).mp c23; omega))
    refine lv_aload_n hx hb dX12_invokes_72 rfl (lv_at hl 2 rfl) ?_
    refine r_get (v := .ref (a 9)) hx hb hown hq hE hP 17 38 tFX12_17 (by decide) pw_1439 rfl dX12_invokes_73 ?_
    refine lv_iload_n hx hb dX12_invokes_76 rfl (lv_at hl 3 rfl) ?_
    refine r_ldi (f := (B 9)) (j := n9) hx hb hE hP 9 (ma_9 G a _) rfl (by omega) (by decide) dX12_invokes_77 ?_
    refine lv_topi (fun x25 e26 => ?_)
    obtain rfl : x25 = 7 := e26.trans ((congrFun hw9 _).trans hkd)
    refine lv_bipush (v := 8) hx hb dX12_invokes_78 (by decide) ?_
    refine lv_icmp_ne (tgt := 87) hx hb dX12_invokes_80 (by decide) (fun c27 => ?_) (fun c27 => absurd c27 (by decide))
    refine lv_aload_n hx hb dX12_invokes_87 rfl (lv_at hl 2 rfl) ?_
    refine lv_aload_n hx hb dX12_invokes_88 rfl (lv_at hl 2 rfl) ?_
    refine lv_iload_n hx hb dX12_invokes_89 rfl (lv_at hl 0 rfl) ?_
    have hP : va_P G.1 pCl (mW G h0 a (upd (upd (upd (upd (upd (upd (upd (upd (upd (upd (upd (upd F 49 (nI md)) 102 (nI op)) 111 (nI tp)) 115 (nI wn)) 116 (-1)) 117 (nI fu5)) 118 rs0) 119 uc0) 123 ca) 124 mo) 125 nw) 126 isn) (updA B 55 (B 55))) _ := mW_to (F := F) (l1 := [(49, (nI md)), (102, (nI op)), (111, (nI tp)), (115, (nI wn)), (116, (-1)), (117, (nI fu5)), (118, rs0), (119, uc0), (123, ca), (124, mo), (125, nw), (126, isn)]) (l2 := [(49, (nI md)), (102, (nI op)), (111, (nI tp)), (115, (nI wn)), (116, (-1)), (117, (nI fu5)), (118, rs0), (119, uc0), (123, ca), (124, mo), (125, nw), (126, isn)]) (V := [(nI md), (nI op), (nI tp), (nI wn), (-1), (nI fu5), rs0, uc0, ca, mo, nw, isn, (nI md), (nI op), (nI tp), (nI wn), (-1), (nI fu5), rs0, uc0, ca, mo, nw, isn]) rfl rfl (show B = (updA B 55 (B 55)) from updsA_eq2 (F := B) (l1 := []) (l2 := [(55, (B 55))]) (V := [(B 55)]) rfl rfl) hP
    have hD : va_D A (mW G h0 a (upd (upd (upd (upd (upd (upd (upd (upd (upd (upd (upd (upd F 49 (nI md)) 102 (nI op)) 111 (nI tp)) 115 (nI wn)) 116 (-1)) 117 (nI fu5)) 118 rs0) 119 uc0) 123 ca) 124 mo) 125 nw) 126 isn) (updA B 55 (B 55))) := mW_D hD
    refine pc_V0 (G := G) (As := [.int (nI x9)]) (rest := [.ref h0]) hx hb hml hown hq hE hX pX0_al hP hD hS hA hl.1 (R_classOf l G h0 a (upd (upd (upd (upd (upd (upd (upd (upd (upd (upd (upd (upd F 49 (nI md)) 102 (nI op)) 111 (nI tp)) 115 (nI wn)) 116 (-1)) 117 (nI fu5)) 118 rs0) 119 uc0) 123 ca) 124 mo) 125 nw) 126 isn) B x9 (B 55) ⟨hg4, Or.inl hg5⟩) (gV pw_1995 pw_1996 pw_1997 pw_1523 pw_1994) hV_X12_classOf 0 9 rfl rfl rfl rfl (Nat.le_of_ble_eq_true rfl) dX12_invokes_90 ⟨Nat.le_of_ble_eq_true rfl, Nat.le_of_ble_eq_true rfl⟩ ⟨Nat.le_of_ble_eq_true rfl, Nat.le_of_ble_eq_true rfl⟩ (fun v30 u28 H locs hw29 hP hD hS => ?_)
    obtain rfl : v30 = some (.int (clF (B 55) x9)) := hw29
    have hP : va_P G.1 pCl (mW G h0 a (upd (upd (upd (upd (upd (upd (upd (upd (upd (upd (upd (upd F 49 (nI md)) 102 (nI op)) 111 (nI tp)) 115 (nI wn)) 116 (-1)) 117 (nI fu5)) 118 rs0) 119 uc0) 123 ca) 124 mo) 125 nw) 126 isn) B) _ := mW_to (F := F) (l1 := [(49, (nI md)), (102, (nI op)), (111, (nI tp)), (115, (nI wn)), (116, (-1)), (117, (nI fu5)), (118, rs0), (119, uc0), (123, ca), (124, mo), (125, nw), (126, isn)]) (l2 := [(49, (nI md)), (102, (nI op)), (111, (nI tp)), (115, (nI wn)), (116, (-1)), (117, (nI fu5)), (118, rs0), (119, uc0), (123, ca), (124, mo), (125, nw), (126, isn)]) (V := [(nI md), (nI op), (nI tp), (nI wn), (-1), (nI fu5), rs0, uc0, ca, mo, nw, isn, (nI md), (nI op), (nI tp), (nI wn), (-1), (nI fu5), rs0, uc0, ca, mo, nw, isn]) rfl rfl (show (updA B 55 (B 55)) = B from updsA_eq2 (F := B) (l1 := [(55, (B 55))]) (l2 := []) (V := [(B 55)]) rfl rfl) hP
    have hD : va_D A (mW G h0 a (upd (upd (upd (upd (upd (upd (upd (upd (upd (upd (upd (upd F 49 (nI md)) 102 (nI op)) 111 (nI tp)) 115 (nI wn)) 116 (-1)) 117 (nI fu5)) 118 rs0) 119 uc0) 123 ca) 124 mo) 125 nw) 126 isn) B) := mW_D hD
    refine W.widen (k := 0) (n := 0) (Nat.le_of_ble_eq_true rfl) (Nat.le_of_ble_eq_true rfl) ?_
    refine W.eq (g2 := F0 m 93 ls [.int (clF (B 55) x9), .ref h0]) rfl ?_
    refine lv_topi (fun x31 e32 => ?_)
    obtain rfl : x31 = nI k9 := e32.trans hg6
    refine lv_aload_n hx hb dX12_invokes_93 rfl (lv_at hl 2 rfl) ?_
    refine r_get (v := .ref (a 37)) hx hb hown hq hE hP 51 123 tFX12_51 (by decide) pw_1468 rfl dX12_invokes_94 ?_
    refine lv_iload_n hx hb dX12_invokes_97 rfl (lv_at hl 1 rfl) ?_
    refine r_ldi (f := (B 37)) (j := m8) hx hb hE hP 37 (ma_37 G a _) rfl (by omega) (by decide) dX12_invokes_98 ?_
    refine lv_topi (fun x33 e34 => ?_)
    obtain rfl : x33 = nI nv9 := e34.trans ((congrFun hw37 _).trans hg8)
    have hco9 : ChO B (B 54) dc md nm := by have z := hPg.ch; unfold ChO at z ⊢; rw [hw36, hw37, hw29]; exact z
    have hP : va_P G.1 pCl (mW G h0 a (upd (upd (upd (upd (upd (upd (upd (upd (upd (upd (upd (upd (upd F 49 (nI md)) 102 (nI op)) 111 (nI tp)) 115 (nI wn)) 116 (-1)) 117 (nI fu5)) 118 rs0) 119 uc0) 123 ca) 124 mo) 125 nw) 126 isn) 49 (nI md)) (updA B 54 (B 54))) _ := mW_to (F := F) (l1 := [(49, (nI md)), (102, (nI op)), (111, (nI tp)), (115, (nI wn)), (116, (-1)), (117, (nI fu5)), (118, rs0), (119, uc0), (123, ca), (124, mo), (125, nw), (126, isn)]) (l2 := [(49, (nI md)), (102, (nI op)), (111, (nI tp)), (115, (nI wn)), (116, (-1)), (117, (nI fu5)), (118, rs0), (119, uc0), (123, ca), (124, mo), (125, nw), (126, isn), (49, (nI md))]) (V := [(nI md), (nI op), (nI tp), (nI wn), (-1), (nI fu5), rs0, uc0, ca, mo, nw, isn, (nI md), (nI op), (nI tp), (nI wn), (-1), (nI fu5), rs0, uc0, ca, mo, nw, isn, (nI md)]) rfl rfl (show B = (updA B 54 (B 54)) from updsA_eq2 (F := B) (l1 := []) (l2 := [(54, (B 54))]) (V := [(B 54)]) rfl rfl) hP
    have hD : va_D A (mW G h0 a (upd (upd (upd (upd (upd (upd (upd (upd (upd (upd (upd (upd (upd F 49 (nI md)) 102 (nI op)) 111 (nI tp)) 115 (nI wn)) 116 (-1)) 117 (nI fu5)) 118 rs0) 119 uc0) 123 ca) 124 mo) 125 nw) 126 isn) 49 (nI md)) (updA B 54 (B 54))) := mW_D hD
    refine pc_V0 (G := G) (As := [.int (nI k9), .int (nI nv9)]) (rest := []) hx hb hml hown hq hE hX pX0_al hP hD hS hA hl.1 (R_chosenOf l G h0 a (upd (upd (upd (upd (upd (upd (upd (upd (upd (upd (upd (upd F 49 (nI md)) 102 (nI op)) 111 (nI tp)) 115 (nI wn)) 116 (-1)) 117 (nI fu5)) 118 rs0) 119 uc0) 123 ca) 124 mo) 125 nw) 126 isn) B k9 nv9 dc md nm (B 54) (by omega) (by omega) (by omega) (by omega) (by rw [hw29]; exact hPg.1.1.2.2.2.1) hco9) (gV pw_2057 pw_2058 pw_2059 pw_1523 pw_1999) hV_X12_chosenOf 0 9 rfl rfl rfl rfl (Nat.le_of_ble_eq_true rfl) dX12_invokes_99 ⟨Nat.le_of_ble_eq_true rfl, Nat.le_of_ble_eq_true rfl⟩ ⟨Nat.le_of_ble_eq_true rfl, Nat.le_of_ble_eq_true rfl⟩ (fun v37 u35 H locs hw36 hP hD hS => ?_)
    obtain ⟨co38, rfl⟩ : ∃ z, z = u35 := ⟨_, rfl⟩
    obtain ⟨hw36, h39⟩ := hw36
    replace h39 : ChO B co38 dc md nm := h39
    obtain rfl : v37 = some (.int (mthF ((B 36)) ((B 37)) ((B 29)) md (nI nv9) 40 k9)) := hw36
    have hP : va_P G.1 pCl (mW G h0 a (upd (upd (upd (upd (upd (upd (upd (upd (upd (upd (upd (upd F 49 (nI md)) 102 (nI op)) 111 (nI tp)) 115 (nI wn)) 116 (-1)) 117 (nI fu5)) 118 rs0) 119 uc0) 123 ca) 124 mo) 125 nw) 126 isn) (updA B 54 co38)) _ := mW_to (F := F) (l1 := [(49, (nI md)), (102, (nI op)), (111, (nI tp)), (115, (nI wn)), (116, (-1)), (117, (nI fu5)), (118, rs0), (119, uc0), (123, ca), (124, mo), (125, nw), (126, isn), (49, (nI md))]) (l2 := [(49, (nI md)), (102, (nI op)), (111, (nI tp)), (115, (nI wn)), (116, (-1)), (117, (nI fu5)), (118, rs0), (119, uc0), (123, ca), (124, mo), (125, nw), (126, isn)]) (V := [(nI md), (nI op), (nI tp), (nI wn), (-1), (nI fu5), rs0, uc0, ca, mo, nw, isn, (nI md), (nI md), (nI op), (nI tp), (nI wn), (-1), (nI fu5), rs0, uc0, ca, mo, nw, isn]) rfl rfl rfl hP
    have hD : va_D A (mW G h0 a (upd (upd (upd (upd (upd (upd (upd (upd (upd (upd (upd (upd F 49 (nI md)) 102 (nI op)) 111 (nI tp)) 115 (nI wn)) 116 (-1)) 117 (nI fu5)) 118 rs0) 119 uc0) 123 ca) 124 mo) 125 nw) 126 isn) (updA B 54 co38)) := mW_D hD
    refine W.widen (k := 0) (n := 0) (Nat.le_of_ble_eq_true rfl) (Nat.le_of_ble_eq_true rfl) ?_
    refine W.eq (g2 := F0 m 102 ls [.int (mthF ((B 36)) ((B 37)) ((B 29)) md (nI nv9) 40 k9)]) rfl ?_
    have hco8 : ChO Xs co38 dc md nm := by have z := h39; unfold ChO at z ⊢; rw [hw36, hw37, hw29] at z; exact z
    have hY2 := hY.cho hco8
    refine lv_topi (fun x40 e41 => ?_)
    obtain rfl : x40 = nI m2 := e41.trans (by rw [hw36, hw37, hw29]; exact hg10)
    refine lv_istore (lv' := [(4, .int (nI m2)), (3, .int (nI x9)), (2, .int (nI m8)), (0, .ref h0), (1, .int (nI n9))]) hx hb dX12_invokes_102 hl (by decide) rfl (fun ls hl => ?_)
    refine lv_aload_n hx hb dX12_invokes_104 rfl (lv_at hl 3 rfl) ?_
    refine r_get (v := .ref (a 9)) hx hb hown hq hE hP 17 38 tFX12_17 (by decide) pw_1439 rfl dX12_invokes_105 ?_
    refine lv_iload_n hx hb dX12_invokes_108 rfl (lv_at hl 4 rfl) ?_
    refine r_ldi (f := (B 9)) (j := n9) hx hb hE hP 9 (ma_9 G a _) rfl (by omega) (by decide) dX12_invokes_109 ?_
    refine lv_topi (fun x42 e43 => ?_)
    obtain rfl : x42 = 7 := e43.trans ((congrFun hw9 _).trans hkd)
    refine lv_bipush (v := 14) hx hb dX12_invokes_110 (by decide) ?_
    refine lv_icmp_ne (tgt := 119) hx hb dX12_invokes_112 (by decide) (fun c44 => ?_) (fun c44 => absurd c44 (by decide))
    refine lv_iconst (v := 0) hx hb dX12_invokes_119 (by decide) ?_
    refine lv_istore (lv' := [(5, .int 0), (4, .int (nI m2)), (3, .int (nI x9)), (2, .int (nI m8)), (0, .ref h0), (1, .int (nI n9))]) hx hb dX12_invokes_120 hl (by decide) rfl (fun ls hl => ?_)
    refine lv_aload_n hx hb dX12_invokes_122 rfl (lv_at hl 4 rfl) ?_
    refine lv_iload hx hb dX12_invokes_123 (lv_at hl 1 rfl) ?_
    refine lv_iload_n hx hb dX12_invokes_125 rfl (lv_at hl 2 rfl) ?_
    refine lv_iload_n hx hb dX12_invokes_126 rfl (lv_at hl 5 rfl) ?_
    have hg13 := hg11
    obtain ⟨⟨hd1, hd2⟩, hd3, hd4, hd5, p8, hd6, hd7, hd8, hd9⟩ := hg13
    have hpt9 : ∀ i : Nat, i < q9 → ∃ y t : Nat, B 47 (p8 + i) = nI y ∧ y < 5000 ∧ B 21 y = nI t ∧ t ≤ 2050 := by rw [hw47, hw21]; exact hd8
    have hP : va_P G.1 pCl (mW G h0 a (upd (upd (upd (upd (upd (upd (upd (upd (upd (upd (upd (upd (upd (upd (upd (upd (upd (upd (upd F 49 (nI md)) 102 (nI op)) 111 (nI tp)) 115 (nI wn)) 116 (-1)) 117 (nI fu5)) 118 rs0) 119 uc0) 123 ca) 124 mo) 125 nw) 126 isn) 102 (nI op)) 111 (nI tp)) 116 (-1)) 123 ca) 124 mo) 125 nw) 126 isn) (updA (updA (updA (updA (updA (updA (updA B 54 co38) 62 (B 62)) 63 (B 63)) 64 (B 64)) 65 (B 65)) 66 (B 66)) 67 (B 67))) _ := mW_to (F := F) (l1 := [(49, (nI md)), (102, (nI op)), (111, (nI tp)), (115, (nI wn)), (116, (-1)), (117, (nI fu5)), (118, rs0), (119, uc0), (123, ca), (124, mo), (125, nw), (126, isn)]) (l2 := [(49, (nI md)), (102, (nI op)), (111, (nI tp)), (115, (nI wn)), (116, (-1)), (117, (nI fu5)), (118, rs0), (119, uc0), (123, ca), (124, mo), (125, nw), (126, isn), (102, (nI op)), (111, (nI tp)), (116, (-1)), (123, ca), (124, mo), (125, nw), (126, isn)]) (V := [(nI md), (nI op), (nI tp), (nI wn), (-1), (nI fu5), rs0, uc0, ca, mo, nw, isn, (nI md), (nI op), (nI tp), (nI wn), (-1), (nI fu5), rs0, uc0, ca, mo, nw, isn, (nI op), (nI tp), (-1), ca, mo, nw, isn]) rfl rfl (show (updA B 54 co38) = (updA (updA (updA (updA (updA (updA (updA B 54 co38) 62 (B 62)) 63 (B 63)) 64 (B 64)) 65 (B 65)) 66 (B 66)) 67 (B 67)) from updsA_eq2 (F := B) (l1 := [(54, co38)]) (l2 := [(54, co38), (62, (B 62)), (63, (B 63)), (64, (B 64)), (65, (B 65)), (66, (B 66)), (67, (B 67))]) (V := [co38, co38, (B 62), (B 63), (B 64), (B 65), (B 66), (B 67)]) rfl rfl) hP
    have hD : va_D A (mW G h0 a (upd (upd (upd (upd (upd (upd (upd (upd (upd (upd (upd (upd (upd (upd (upd (upd (upd (upd (upd F 49 (nI md)) 102 (nI op)) 111 (nI tp)) 115 (nI wn)) 116 (-1)) 117 (nI fu5)) 118 rs0) 119 uc0) 123 ca) 124 mo) 125 nw) 126 isn) 102 (nI op)) 111 (nI tp)) 116 (-1)) 123 ca) 124 mo) 125 nw) 126 isn) (updA (updA (updA (updA (updA (updA (updA B 54 co38) 62 (B 62)) 63 (B 63)) 64 (B 64)) 65 (B 65)) 66 (B 66)) 67 (B 67))) := mW_D hD
    refine pc_V0 (G := G) (As := [.int (nI m2), .int (nI x9), .int (nI n9)]) (rest := []) hx hb hml hown hq hE hX pX0_al hP hD hS hA hl.1 (R_opens l G h0 a (upd (upd (upd (upd (upd (upd (upd (upd (upd (upd (upd (upd F 49 (nI md)) 102 (nI op)) 111 (nI tp)) 115 (nI wn)) 116 (-1)) 117 (nI fu5)) 118 rs0) 119 uc0) 123 ca) 124 mo) 125 nw) 126 isn) (updA B 54 co38) m2 op tp q9 p8 (nI x9) (nI n9) (-1) nw isn ca mo (B 66) (B 67) (B 62) (B 63) (B 64) (B 65) (by omega) (by omega) ((congrFun hw41 _).trans hd3) (by omega) ((congrFun hw40 _).trans hd6) (by omega) hpt9) (gV pw_2060 pw_2061 pw_2062 pw_1523 pw_2019) hV_X12_opens 0 9 rfl rfl rfl rfl (Nat.le_of_ble_eq_true rfl) dX12_invokes_127 ⟨Nat.le_of_ble_eq_true rfl, Nat.le_of_ble_eq_true rfl⟩ ⟨Nat.le_of_ble_eq_true rfl, Nat.le_of_ble_eq_true rfl⟩ (fun v47 u45 H locs hw46 hP hD hS => ?_)
    obtain ⟨op48, tp49, en50, nw51, is52, ca53, mo54, vr55, vf56, cth57, csc58, cvl59, cnd60⟩ := u45
    obtain ⟨hw46, h61, h62⟩ := hw46
    replace h61 : If (op = 100) (en50 = 4 ∧ op48 = op ∧ tp49 = tp ∧ vr55 = (B 66) ∧ vf56 = (B 67) ∧ cth57 = (B 62) ∧ csc58 = (B 63) ∧ cvl59 = (B 64) ∧ cnd60 = (B 65)) := h61
    replace h62 : If (op < 100) (en50 = (-1) ∧ op48 = op + 1 ∧ tp49 = tp - q9 ∧ nw51 = (B 42) m2 ∧ is52 = 1 ∧ ArgV ((B 68)) (B 66) vr55 (32 * op) (tp - q9) q9 ∧ ArgF (updA B 54 co38) (B 67) vf56 (32 * op) p8 q9 ∧ cth57 = upd (B 62) op (nI x9) ∧ csc58 = upd (B 63) op (nI q9) ∧ cvl59 = upd (B 64) op (nI (tp - q9)) ∧ cnd60 = upd (B 65) op (nI n9)) := h62
    obtain rfl : v47 = none := hw46
    have hP : va_P G.1 pCl (mW G h0 a (upd (upd (upd (upd (upd (upd (upd (upd (upd (upd (upd (upd F 49 (nI md)) 102 (nI op48)) 111 (nI tp49)) 115 (nI wn)) 116 en50) 117 (nI fu5)) 118 rs0) 119 uc0) 123 ca53) 124 mo54) 125 nw51) 126 is52) (updA (updA (updA (updA (updA (updA (updA B 54 co38) 62 cth57) 63 csc58) 64 cvl59) 65 cnd60) 66 vr55) 67 vf56)) _ := mW_to (F := F) (l1 := [(49, (nI md)), (102, (nI op)), (111, (nI tp)), (115, (nI wn)), (116, (-1)), (117, (nI fu5)), (118, rs0), (119, uc0), (123, ca), (124, mo), (125, nw), (126, isn), (102, (nI op48)), (111, (nI tp49)), (116, en50), (123, ca53), (124, mo54), (125, nw51), (126, is52)]) (l2 := [(49, (nI md)), (102, (nI op48)), (111, (nI tp49)), (115, (nI wn)), (116, en50), (117, (nI fu5)), (118, rs0), (119, uc0), (123, ca53), (124, mo54), (125, nw51), (126, is52)]) (V := [(nI md), (nI op48), (nI tp49), (nI wn), en50, (nI fu5), rs0, uc0, ca53, mo54, nw51, is52, (nI op48), (nI tp49), en50, ca53, mo54, nw51, is52, (nI md), (nI op48), (nI tp49), (nI wn), en50, (nI fu5), rs0, uc0, ca53, mo54, nw51, is52]) rfl rfl rfl hP
    have hD : va_D A (mW G h0 a (upd (upd (upd (upd (upd (upd (upd (upd (upd (upd (upd (upd F 49 (nI md)) 102 (nI op48)) 111 (nI tp49)) 115 (nI wn)) 116 en50) 117 (nI fu5)) 118 rs0) 119 uc0) 123 ca53) 124 mo54) 125 nw51) 126 is52) (updA (updA (updA (updA (updA (updA (updA B 54 co38) 62 cth57) 63 csc58) 64 cvl59) 65 cnd60) 66 vr55) 67 vf56)) := mW_D hD
    refine W.widen (k := 0) (n := 0) (Nat.le_of_ble_eq_true rfl) (Nat.le_of_ble_eq_true rfl) ?_
    refine W.eq (g2 := F0 m 130 ls []) rfl ?_
    rcases (show op = 100 ∨ op < 100 by omega) with hop | hop
    · obtain ⟨ho1, ho2, ho3, ho4, ho5, ho6, ho7, ho8, ho9⟩ := h61 hop
      subst ho1
      replace ho2 := ho2.symm; subst ho2
      replace ho3 := ho3.symm; subst ho3
      subst ho4
      subst ho5
      subst ho6
      subst ho7
      subst ho8
      subst ho9
      have hP : va_P G.1 pCl (mW G h0 a (upd (upd (upd (upd (upd (upd (upd (upd (upd (upd (upd (upd F 49 (nI md)) 102 (nI op)) 111 (nI tp)) 115 (nI wn)) 116 4) 117 (nI fu5)) 118 rs0) 119 uc0) 123 ca53) 124 mo54) 125 nw51) 126 is52) (updA (updA (updA (updA (updA (updA (updA B 54 co38) 62 (B 62)) 63 (B 63)) 64 (B 64)) 65 (B 65)) 66 (B 66)) 67 (B 67))) _ := hP
      have hD : va_D A (mW G h0 a (upd (upd (upd (upd (upd (upd (upd (upd (upd (upd (upd (upd F 49 (nI md)) 102 (nI op)) 111 (nI tp)) 115 (nI wn)) 116 4) 117 (nI fu5)) 118 rs0) 119 uc0) 123 ca53) 124 mo54) 125 nw51) 126 is52) (updA (updA (updA (updA (updA (updA (updA B 54 co38) 62 (B 62)) 63 (B 63)) 64 (B 64)) 65 (B 65)) 66 (B 66)) 67 (B 67))) := mW_D hD
      refine lv_aload_n hx hb dX12_invokes_130 rfl (lv_at hl 4 rfl) ?_
      refine r_get (v := .int 4) hx hb hown hq hE hP 116 233 tFX12_116 (by decide) pw_1506 rfl dX12_invokes_131 ?_
      refine lv_iconst (v := (-1)) hx hb dX12_invokes_134 (by decide) ?_
      refine lv_icmp_ne (tgt := 168) hx hb dX12_invokes_135 (by decide) (fun c63 => ?_) (fun c63 => absurd c63 (by decide))
      have hz64 : Nx Xs (updA (updA (updA (updA (updA (updA (updA B 54 co38) 62 (B 62)) 63 (B 63)) 64 (B 64)) 65 (B 65)) 66 (B 66)) 67 (B 67)) gh nd T nm wr lz dc fd md pr bk M rmm fu mu op tp wn fu5 rd on idn fl ct (4 : Int32) nw51 is52 uc0 := (Nx.rows (hY2.stop (by decide) (by decide)) upd6_id)
      have hP : va_P G.1 pCl (mW G h0 a (upd (upd (upd (upd (upd (upd (upd (upd (upd (upd (upd (upd F 49 (nI md)) 102 (nI op)) 111 (nI tp)) 115 (nI wn)) 116 (4 : Int32)) 117 (nI fu5)) 118 rs0) 119 uc0) 123 ca53) 124 mo54) 125 nw51) 126 is52) (updA (updA (updA (updA (updA (updA (updA B 54 co38) 62 (B 62)) 63 (B 63)) 64 (B 64)) 65 (B 65)) 66 (B 66)) 67 (B 67))) _ := mW_to (F := F) (l1 := [(49, (nI md)), (102, (nI op)), (111, (nI tp)), (115, (nI wn)), (116, 4), (117, (nI fu5)), (118, rs0), (119, uc0), (123, ca53), (124, mo54), (125, nw51), (126, is52)]) (l2 := [(49, (nI md)), (102, (nI op)), (111, (nI tp)), (115, (nI wn)), (116, (4 : Int32)), (117, (nI fu5)), (118, rs0), (119, uc0), (123, ca53), (124, mo54), (125, nw51), (126, is52)]) (V := [(nI md), (nI op), (nI tp), (nI wn), (4 : Int32), (nI fu5), rs0, uc0, ca53, mo54, nw51, is52, (nI md), (nI op), (nI tp), (nI wn), (4 : Int32), (nI fu5), rs0, uc0, ca53, mo54, nw51, is52]) rfl rfl rfl hP
      have hD : va_D A (mW G h0 a (upd (upd (upd (upd (upd (upd (upd (upd (upd (upd (upd (upd F 49 (nI md)) 102 (nI op)) 111 (nI tp)) 115 (nI wn)) 116 (4 : Int32)) 117 (nI fu5)) 118 rs0) 119 uc0) 123 ca53) 124 mo54) 125 nw51) 126 is52) (updA (updA (updA (updA (updA (updA (updA B 54 co38) 62 (B 62)) 63 (B 63)) 64 (B 64)) 65 (B 65)) 66 (B 66)) 67 (B 67))) := mW_D hD
      exact W.vret hx hb hr (fun t9 ht9 hW9 => ⟨⟨_, (op, tp, wn, fu5, (4 : Int32), nw51, is52, rs0, uc0, ca53, mo54, (updA (updA (updA (updA (updA (updA (updA B 54 co38) 62 (B 62)) 63 (B 63)) 64 (B 64)) 65 (B 65)) 66 (B 66)) 67 (B 67))), rfl, ⟨rfl, hz64⟩, by rw [ht9]; exact hP, hD⟩, hS.F ht9⟩) hS.2.2 dX12_invokes_168
    · obtain ⟨ho1, ho2, ho3, ho10, ho11, ho4, ho5, ho6, ho7, ho8, ho9⟩ := h62 hop
      subst ho1
      subst ho2
      subst ho3
      subst ho11
      subst ho6
      subst ho7
      subst ho8
      subst ho9
      have hP : va_P G.1 pCl (mW G h0 a (upd (upd (upd (upd (upd (upd (upd (upd (upd (upd (upd (upd F 49 (nI md)) 102 (nI (op + 1))) 111 (nI (tp - q9))) 115 (nI wn)) 116 (-1)) 117 (nI fu5)) 118 rs0) 119 uc0) 123 ca53) 124 mo54) 125 nw51) 126 1) (updA (updA (updA (updA (updA (updA (updA B 54 co38) 62 (upd (B 62) op (nI x9))) 63 (upd (B 63) op (nI q9))) 64 (upd (B 64) op (nI (tp - q9)))) 65 (upd (B 65) op (nI n9))) 66 vr55) 67 vf56)) _ := hP
      have hD : va_D A (mW G h0 a (upd (upd (upd (upd (upd (upd (upd (upd (upd (upd (upd (upd F 49 (nI md)) 102 (nI (op + 1))) 111 (nI (tp - q9))) 115 (nI wn)) 116 (-1)) 117 (nI fu5)) 118 rs0) 119 uc0) 123 ca53) 124 mo54) 125 nw51) 126 1) (updA (updA (updA (updA (updA (updA (updA B 54 co38) 62 (upd (B 62) op (nI x9))) 63 (upd (B 63) op (nI q9))) 64 (upd (B 64) op (nI (tp - q9)))) 65 (upd (B 65) op (nI n9))) 66 vr55) 67 vf56)) := mW_D hD
      refine lv_aload_n hx hb dX12_invokes_130 rfl (lv_at hl 4 rfl) ?_
      refine r_get (v := .int (-1)) hx hb hown hq hE hP 116 233 tFX12_116 (by decide) pw_1506 rfl dX12_invokes_131 ?_
      refine lv_iconst (v := (-1)) hx hb dX12_invokes_134 (by decide) ?_
      refine lv_icmp_ne (tgt := 168) hx hb dX12_invokes_135 (by decide) (fun c65 => absurd c65 (by decide)) (fun c65 => ?_)
      refine lv_iload hx hb dX12_invokes_138 (lv_at hl 0 rfl) ?_
      refine lv_if_eq (tgt := 168) hx hb dX12_invokes_140 (by decide) (fun c66 => ?_) (fun c66 => absurd c66 (by decide))
      have hz67 : Nx Xs (updA (updA (updA (updA (updA (updA (updA B 54 co38) 62 (upd (B 62) op (nI x9))) 63 (upd (B 63) op (nI q9))) 64 (upd (B 64) op (nI (tp - q9)))) 65 (upd (B 65) op (nI n9))) 66 vr55) 67 vf56) gh nd T nm wr lz dc fd md pr bk M rmm fu mu (op + 1) (tp - q9) wn fu5 rd on idn fl ct ((-1) : Int32) nw51 (1 : Int32) uc0 := (by obtain ⟨bz, hz1, hz2⟩ := Rdy.opens (Z := (updA (updA (updA (updA (updA (updA (updA B 54 co38) 62 (upd (B 62) op (nI x9))) 63 (upd (B 63) op (nI q9))) 64 (upd (B 64) op (nI (tp - q9)))) 65 (upd (B 65) op (nI n9))) 66 vr55) 67 vf56)) (uc := uc0) (mu2 := mu) hY2 hg11 hop hd6 (by omega) (Sta.up (Sta.up (Sta.up (Sta.up (Sta.up (Sta.up Sta.rfl (by omega)) (by omega)) (by omega)) (by omega)) (by omega)) (by omega)) hY2.2.1 ⟨rfl, rfl, rfl, rfl, rfl, rfl⟩ rfl rfl ⟨fun i h => if_neg (by omega), upd_eq⟩ rfl ho4 (by have z : ArgF B (B 67) vf56 (32 * op) p8 q9 := ho5; unfold ArgF at z ⊢; rw [hw47, hw21] at z; exact z) ⟨rfl, rfl⟩ ⟨rfl, rfl, rfl⟩ h8; rw [ho10, hw42, hz1]; exact hz2)
      have hP : va_P G.1 pCl (mW G h0 a (upd (upd (upd (upd (upd (upd (upd (upd (upd (upd (upd (upd F 49 (nI md)) 102 (nI (op + 1))) 111 (nI (tp - q9))) 115 (nI wn)) 116 ((-1) : Int32)) 117 (nI fu5)) 118 rs0) 119 uc0) 123 ca53) 124 mo54) 125 nw51) 126 (1 : Int32)) (updA (updA (updA (updA (updA (updA (updA B 54 co38) 62 (upd (B 62) op (nI x9))) 63 (upd (B 63) op (nI q9))) 64 (upd (B 64) op (nI (tp - q9)))) 65 (upd (B 65) op (nI n9))) 66 vr55) 67 vf56)) _ := mW_to (F := F) (l1 := [(49, (nI md)), (102, (nI (op + 1))), (111, (nI (tp - q9))), (115, (nI wn)), (116, (-1)), (117, (nI fu5)), (118, rs0), (119, uc0), (123, ca53), (124, mo54), (125, nw51), (126, 1)]) (l2 := [(49, (nI md)), (102, (nI (op + 1))), (111, (nI (tp - q9))), (115, (nI wn)), (116, ((-1) : Int32)), (117, (nI fu5)), (118, rs0), (119, uc0), (123, ca53), (124, mo54), (125, nw51), (126, (1 : Int32))]) (V := [(nI md), (nI (op + 1)), (nI (tp - q9)), (nI wn), ((-1) : Int32), (nI fu5), rs0, uc0, ca53, mo54, nw51, (1 : Int32), (nI md), (nI (op + 1)), (nI (tp - q9)), (nI wn), ((-1) : Int32), (nI fu5), rs0, uc0, ca53, mo54, nw51, (1 : Int32)]) rfl rfl rfl hP
      have hD : va_D A (mW G h0 a (upd (upd (upd (upd (upd (upd (upd (upd (upd (upd (upd (upd F 49 (nI md)) 102 (nI (op + 1))) 111 (nI (tp - q9))) 115 (nI wn)) 116 ((-1) : Int32)) 117 (nI fu5)) 118 rs0) 119 uc0) 123 ca53) 124 mo54) 125 nw51) 126 (1 : Int32)) (updA (updA (updA (updA (updA (updA (updA B 54 co38) 62 (upd (B 62) op (nI x9))) 63 (upd (B 63) op (nI q9))) 64 (upd (B 64) op (nI (tp - q9)))) 65 (upd (B 65) op (nI n9))) 66 vr55) 67 vf56)) := mW_D hD
      exact W.vret hx hb hr (fun t9 ht9 hW9 => ⟨⟨_, ((op + 1), (tp - q9), wn, fu5, ((-1) : Int32), nw51, (1 : Int32), rs0, uc0, ca53, mo54, (updA (updA (updA (updA (updA (updA (updA B 54 co38) 62 (upd (B 62) op (nI x9))) 63 (upd (B 63) op (nI q9))) 64 (upd (B 64) op (nI (tp - q9)))) 65 (upd (B 65) op (nI n9))) 66 vr55) 67 vf56)), rfl, ⟨rfl, hz67⟩, by rw [ht9]; exact hP, hD⟩, hS.F ht9⟩) hS.2.2 dX12_invokes_168

theorem dX12_invokes_26 : decode cX12_invokes 26 = .ok (.aload_n 0, 1) := by decide +kernel
theorem dX12_invokes_27 : decode cX12_invokes 27 = .ok (.getfield 218, 3) := by decide +kernel
theorem dX12_invokes_30 : decode cX12_invokes 30 = .ok (.aload_n 0, 1) := by decide +kernel
theorem dX12_invokes_31 : decode cX12_invokes 31 = .ok (.getfield 698, 3) := by decide +kernel
theorem dX12_invokes_34 : decode cX12_invokes 34 = .ok (.aload_n 0, 1) := by decide +kernel
theorem dX12_invokes_35 : decode cX12_invokes 35 = .ok (.getfield 135, 3) := by decide +kernel
theorem dX12_invokes_38 : decode cX12_invokes 38 = .ok (.iload_n 2, 1) := by decide +kernel
theorem dX12_invokes_39 : decode cX12_invokes 39 = .ok (.iaload, 1) := by decide +kernel
theorem dX12_invokes_40 : decode cX12_invokes 40 = .ok (.isub, 1) := by decide +kernel
theorem dX12_invokes_41 : decode cX12_invokes 41 = .ok (.iconst 1, 1) := by decide +kernel
theorem dX12_invokes_42 : decode cX12_invokes 42 = .ok (.isub, 1) := by decide +kernel
theorem dX12_invokes_43 : decode cX12_invokes 43 = .ok (.iaload, 1) := by decide +kernel
theorem dX12_invokes_44 : decode cX12_invokes 44 = .ok (.goto 14, 3) := by decide +kernel
theorem dX12_invokes_63 : decode cX12_invokes 63 = .ok (.aload_n 0, 1) := by decide +kernel
theorem dX12_invokes_64 : decode cX12_invokes 64 = .ok (.iload_n 1, 1) := by decide +kernel
theorem dX12_invokes_65 : decode cX12_invokes 65 = .ok (.sipush 4001, 3) := by decide +kernel
theorem dX12_invokes_68 : decode cX12_invokes 68 = .ok (.invokevirtual 840, 3) := by decide +kernel
theorem dX12_invokes_71 : decode cX12_invokes 71 = .ok (.return_, 1) := by decide +kernel
theorem dX12_invokes_115 : decode cX12_invokes 115 = .ok (.iconst 1, 1) := by decide +kernel
theorem dX12_invokes_116 : decode cX12_invokes 116 = .ok (.goto 4, 3) := by decide +kernel
theorem dX12_invokes_143 : decode cX12_invokes 143 = .ok (.aload_n 0, 1) := by decide +kernel
theorem dX12_invokes_144 : decode cX12_invokes 144 = .ok (.getfield 205, 3) := by decide +kernel
theorem dX12_invokes_147 : decode cX12_invokes 147 = .ok (.aload_n 0, 1) := by decide +kernel
theorem dX12_invokes_148 : decode cX12_invokes 148 = .ok (.getfield 707, 3) := by decide +kernel
theorem dX12_invokes_151 : decode cX12_invokes 151 = .ok (.iconst 1, 1) := by decide +kernel
theorem dX12_invokes_152 : decode cX12_invokes 152 = .ok (.isub, 1) := by decide +kernel
theorem dX12_invokes_153 : decode cX12_invokes 153 = .ok (.dup2, 1) := by decide +kernel
theorem dX12_invokes_154 : decode cX12_invokes 154 = .ok (.iaload, 1) := by decide +kernel
theorem dX12_invokes_155 : decode cX12_invokes 155 = .ok (.iconst 1, 1) := by decide +kernel
theorem dX12_invokes_156 : decode cX12_invokes 156 = .ok (.isub, 1) := by decide +kernel
theorem dX12_invokes_157 : decode cX12_invokes 157 = .ok (.iastore, 1) := by decide +kernel
theorem dX12_invokes_158 : decode cX12_invokes 158 = .ok (.aload_n 0, 1) := by decide +kernel
theorem dX12_invokes_159 : decode cX12_invokes 159 = .ok (.dup, 1) := by decide +kernel
theorem dX12_invokes_160 : decode cX12_invokes 160 = .ok (.getfield 698, 3) := by decide +kernel
theorem dX12_invokes_163 : decode cX12_invokes 163 = .ok (.iconst 1, 1) := by decide +kernel
theorem dX12_invokes_164 : decode cX12_invokes 164 = .ok (.isub, 1) := by decide +kernel
theorem dX12_invokes_165 : decode cX12_invokes 165 = .ok (.putfield 698, 3) := by decide +kernel
set_option maxHeartbeats 16000000 in
set_option maxRecDepth 100000 in
/-- invokes(n), kind 14 -/
theorem R_invokes14 (l : Launch) (G : pT) (h0 : Nat) (a : Nat → Nat) (F : Nat → Int32) (B : Nat → Nat → Int32) (Xs : Nat → Nat → Int32) (gh : Nat → Nat → Nat) (nd : Nat) (T : Nat) (nm : Nat) (wr : Nat) (lz : Nat) (dc : Nat) (fd : Nat) (md : Nat) (pr : Nat) (bk : Nat) (M : MTb) (rmm : Nat) (mu : Nat) (op : Nat) (tp : Nat) (wn : Nat) (fu : Nat) (rd : Nat) (on : Nat) (idn : Nat) (fl : Nat) (ct : Nat) (n9 : Nat) (q9 : Nat) (mt : Nat → Nat) (ps : Nat → Nat) (yy : Nat → Ps) (bf : Nat → Nat) (wf : Nat → Nat) (nw : Int32) (isn : Int32) (rs0 : Int32) (uc0 : Int32) (ca : Int32) (mo : Int32) (hY : Rdy Xs B gh nd T nm wr lz dc fd md pr bk M rmm mu op tp wn fu rd on idn fl ct n9 mt ps yy bf wf q9 1) (hfu : fu ≤ 20000) (hkd : Xs 9 n9 = nI 14) : PM l G pX0 yX12_invokes cX12_invokes 6 none ({ frames := 6, cells := 0, slots := 0, locals := 156 }) [.ref h0, .int (nI n9)] (mW G h0 a (upd (upd (upd (upd (upd (upd (upd (upd (upd (upd (upd (upd F 49 (nI md)) 102 (nI op)) 111 (nI tp)) 115 (nI wn)) 116 (-1)) 117 (nI fu)) 118 rs0) 119 uc0) 123 ca) 124 mo) 125 nw) 126 isn) B) (fun (v : Option Value) (u : Nat × Nat × Nat × Nat × Int32 × Int32 × Int32 × Int32 × Int32 × Int32 × Int32 × (Nat → Nat → Int32)) => v = none ∧ (Nx Xs u.2.2.2.2.2.2.2.2.2.2.2 gh nd T nm wr lz dc fd md pr bk M rmm fu mu u.1 u.2.1 u.2.2.1 u.2.2.2.1 rd on idn fl ct u.2.2.2.2.1 u.2.2.2.2.2.1 u.2.2.2.2.2.2.1 u.2.2.2.2.2.2.2.2.1)) (fun u => (mW G h0 a (upd (upd (upd (upd (upd (upd (upd (upd (upd (upd (upd (upd F 49 (nI md)) 102 (nI u.1)) 111 (nI u.2.1)) 115 (nI u.2.2.1)) 116 u.2.2.2.2.1) 117 (nI u.2.2.2.1)) 118 u.2.2.2.2.2.2.2.1) 119 u.2.2.2.2.2.2.2.2.1) 123 u.2.2.2.2.2.2.2.2.2.1) 124 u.2.2.2.2.2.2.2.2.2.2.1) 125 u.2.2.2.2.2.1) 126 u.2.2.2.2.2.2.1) u.2.2.2.2.2.2.2.2.2.2.2)) := by
  intro sz
  refine Met.ofW (cc := cX12_invokes) (maxL := 6) (ret := none) (by decide) rfl ?_
  intro p e s m args below meth c s₁ B9 hml hv
  obtain ⟨rfl, hsz, hP, hD0, hE, hX⟩ := hv
  have hx := B9.exec
  have hb := B9.bytes
  have hr := B9.returns
  have hts := atoms_spec (ws := Cond.code yX12_invokes cX12_invokes 6 none :: pw) B9.pre
  have hq : ∀ w ∈ pw, w.before _ s = true := fun w h => hts w (List.mem_cons_of_mem _ h)
  have hown : s.vm.findClass RX12 = some m.cls := findClass_of_methodNamed B9.named
  have hlocks := B9.notSynchronized
  subst hsz
  have hD := hD0.self (sz := s.heap.size)
  have hA : ∀ q : Nat, s.heap.size ≤ q → va_A (mW G h0 a (upd (upd (upd (upd (upd (upd (upd (upd (upd (upd (upd (upd F 49 (nI md)) 102 (nI op)) 111 (nI tp)) 115 (nI wn)) 116 (-1)) 117 (nI fu)) 118 rs0) 119 uc0) 123 ca) 124 mo) 125 nw) 126 isn) B) s.heap.size q := fun q h => Or.inr h
  have hP : va_P G.1 pCl (mW G h0 a (upd (upd (upd (upd (upd (upd (upd (upd (upd (upd (upd (upd F 49 (nI md)) 102 (nI op)) 111 (nI tp)) 115 (nI wn)) 116 (-1)) 117 (nI fu)) 118 rs0) 119 uc0) 123 ca) 124 mo) 125 nw) 126 isn) B) s.heap := hP
  generalize va_A (mW G h0 a (upd (upd (upd (upd (upd (upd (upd (upd (upd (upd (upd (upd F 49 (nI md)) 102 (nI op)) 111 (nI tp)) 115 (nI wn)) 116 (-1)) 117 (nI fu)) 118 rs0) 119 uc0) 123 ca) 124 mo) 125 nw) 126 isn) B) s.heap.size = A at hD hE hA ⊢
  have hS : va_S A s.heap s.heap [] := va_S.rf
  have hl := lv_entry ([.ref h0, .int (nI n9)]) (n := 6) (Nat.le_of_ble_eq_true rfl)
  rw [lg_entry_eq]
  generalize (lg_sl ([.ref h0, .int (nI n9)]) ++ List.replicate (6 - (lg_sl ([.ref h0, .int (nI n9)])).length) Slot.unset).toArray = ls at hl ⊢
  have hl : lv_has ls 6 [(0, .ref h0), (1, .int (nI n9))] := hl
  have hPg := hY.1
  have hbd := hPg.bd
  obtain ⟨hr1, hr2, hr3, hr4, hr5, hr6, hr7, hr8, m9, hm1, hm2, hm3⟩ := hY.bd
  have hw9 : B 9 = Xs 9 := hPg.row 9 (by omega) (by omega) (by omega) (by omega) (by omega)
  have hw21 : B 21 = Xs 21 := hPg.row 21 (by omega) (by omega) (by omega) (by omega) (by omega)
  have hw29 : B 29 = Xs 29 := hPg.row 29 (by omega) (by omega) (by omega) (by omega) (by omega)
  have hw36 : B 36 = Xs 36 := hPg.row 36 (by omega) (by omega) (by omega) (by omega) (by omega)
  have hw37 : B 37 = Xs 37 := hPg.row 37 (by omega) (by omega) (by omega) (by omega) (by omega)
  have hw40 : B 40 = Xs 40 := hPg.row 40 (by omega) (by omega) (by omega) (by omega) (by omega)
  have hw41 : B 41 = Xs 41 := hPg.row 41 (by omega) (by omega) (by omega) (by omega) (by omega)
  have hw42 : B 42 = Xs 42 := hPg.row 42 (by omega) (by omega) (by omega) (by omega) (by omega)
  have hw47 : B 47 = Xs 47 := hPg.row 47 (by omega) (by omega) (by omega) (by omega) (by omega)
  refine lv_aload_n hx hb dX12_invokes_0 rfl (lv_at hl 0 rfl) ?_
  have hP : va_P G.1 pCl (mW G h0 a (upd (upd (upd (upd (upd (upd (upd (upd (upd (upd (upd (upd (upd (upd F 49 (nI md)) 102 (nI op)) 111 (nI tp)) 115 (nI wn)) 116 (-1)) 117 (nI fu)) 118 rs0) 119 uc0) 123 ca) 124 mo) 125 nw) 126 isn) 116 (-1)) 117 (nI fu)) B) _ := mW_to (F := F) (l1 := [(49, (nI md)), (102, (nI op)), (111, (nI tp)), (115, (nI wn)), (116, (-1)), (117, (nI fu)), (118, rs0), (119, uc0), (123, ca), (124, mo), (125, nw), (126, isn)]) (l2 := [(49, (nI md)), (102, (nI op)), (111, (nI tp)), (115, (nI wn)), (116, (-1)), (117, (nI fu)), (118, rs0), (119, uc0), (123, ca), (124, mo), (125, nw), (126, isn), (116, (-1)), (117, (nI fu))]) (V := [(nI md), (nI op), (nI tp), (nI wn), (-1), (nI fu), rs0, uc0, ca, mo, nw, isn, (nI md), (nI op), (nI tp), (nI wn), (-1), (nI fu), rs0, uc0, ca, mo, nw, isn, (-1), (nI fu)]) rfl rfl rfl hP
  have hD : va_D A (mW G h0 a (upd (upd (upd (upd (upd (upd (upd (upd (upd (upd (upd (upd (upd (upd F 49 (nI md)) 102 (nI op)) 111 (nI tp)) 115 (nI wn)) 116 (-1)) 117 (nI fu)) 118 rs0) 119 uc0) 123 ca) 124 mo) 125 nw) 126 isn) 116 (-1)) 117 (nI fu)) B) := mW_D hD
  refine pc_V0 (G := G) (As := []) (rest := []) hx hb hml hown hq hE hX pX0_al hP hD hS hA hl.1 (R_pays l G h0 a (upd (upd (upd (upd (upd (upd (upd (upd (upd (upd (upd (upd F 49 (nI md)) 102 (nI op)) 111 (nI tp)) 115 (nI wn)) 116 (-1)) 117 (nI fu)) 118 rs0) 119 uc0) 123 ca) 124 mo) 125 nw) 126 isn) B fu (-1) (by omega)) (gV pw_2026 pw_2027 pw_2028 pw_1523 pw_2000) hV_X12_pays 0 9 rfl rfl rfl rfl (Nat.le_of_ble_eq_true rfl) dX12_invokes_1 ⟨Nat.le_of_ble_eq_true rfl, Nat.le_of_ble_eq_true rfl⟩ ⟨Nat.le_of_ble_eq_true rfl, Nat.le_of_ble_eq_true rfl⟩ (fun v3 u1 H locs hw2 hP hD hS => ?_)
  obtain ⟨r4, fu5, en6⟩ := u1
  obtain ⟨hw2, h7, h8, h9, h10⟩ := hw2
  replace h7 : r4 ≤ 1 := h7
  replace h8 : fu5 + r4 = fu := h8
  replace h9 : If (r4 = 1) (en6 = (-1)) := h9
  replace h10 : If (r4 = 0) (en6 = 2) := h10
  obtain rfl : v3 = some (.int (nI r4)) := hw2
  have hP : va_P G.1 pCl (mW G h0 a (upd (upd (upd (upd (upd (upd (upd (upd (upd (upd (upd (upd F 49 (nI md)) 102 (nI op)) 111 (nI tp)) 115 (nI wn)) 116 en6) 117 (nI fu5)) 118 rs0) 119 uc0) 123 ca) 124 mo) 125 nw) 126 isn) B) _ := mW_to (F := F) (l1 := [(49, (nI md)), (102, (nI op)), (111, (nI tp)), (115, (nI wn)), (116, (-1)), (117, (nI fu)), (118, rs0), (119, uc0), (123, ca), (124, mo), (125, nw), (126, isn), (116, en6), (117, (nI fu5))]) (l2 := [(49, (nI md)), (102, (nI op)), (111, (nI tp)), (115, (nI wn)), (116, en6), (117, (nI fu5)), (118, rs0), (119, uc0), (123, ca), (124, mo), (125, nw), (126, isn)]) (V := [(nI md), (nI op), (nI tp), (nI wn), en6, (nI fu5), rs0, uc0, ca, mo, nw, isn, en6, (nI fu5), (nI md), (nI op), (nI tp), (nI wn), en6, (nI fu5), rs0, uc0, ca, mo, nw, isn]) rfl rfl rfl hP
  have hD : va_D A (mW G h0 a (upd (upd (upd (upd (upd (upd (upd (upd (upd (upd (upd (upd F 49 (nI md)) 102 (nI op)) 111 (nI tp)) 115 (nI wn)) 116 en6) 117 (nI fu5)) 118 rs0) 119 uc0) 123 ca) 124 mo) 125 nw) 126 isn) B) := mW_D hD
  refine W.widen (k := 0) (n := 0) (Nat.le_of_ble_eq_true rfl) (Nat.le_of_ble_eq_true rfl) ?_
  refine W.eq (g2 := F0 m 4 ls [.int (nI r4)]) rfl ?_
  rcases (show r4 = 0 ∨ r4 = 1 by omega) with hr0 | hr0
  · have hen := h10 hr0
    subst hr0
    have hP : va_P G.1 pCl (mW G h0 a (upd (upd (upd (upd (upd (upd (upd (upd (upd (upd (upd (upd F 49 (nI md)) 102 (nI op)) 111 (nI tp)) 115 (nI wn)) 116 en6) 117 (nI fu5)) 118 rs0) 119 uc0) 123 ca) 124 mo) 125 nw) 126 isn) B) _ := hP
    have hD : va_D A (mW G h0 a (upd (upd (upd (upd (upd (upd (upd (upd (upd (upd (upd (upd F 49 (nI md)) 102 (nI op)) 111 (nI tp)) 115 (nI wn)) 116 en6) 117 (nI fu5)) 118 rs0) 119 uc0) 123 ca) 124 mo) 125 nw) 126 isn) B) := mW_D hD
    refine W.eq (g2 := F0 m 4 ls [.int 0]) rfl ?_
    refine lv_if_ne (tgt := 8) hx hb dX12_invokes_4 (by decide) (fun c11 => absurd c11 (by decide)) (fun c11 => ?_)
    have hz12 : Nx Xs B gh nd T nm wr lz dc fd md pr bk M rmm fu mu op tp wn fu5 rd on idn fl ct en6 nw isn uc0 := (hY.stop (by rw [hen]; decide) (by rw [hen]; decide))
    have hP : va_P G.1 pCl (mW G h0 a (upd (upd (upd (upd (upd (upd (upd (upd (upd (upd (upd (upd F 49 (nI md)) 102 (nI op)) 111 (nI tp)) 115 (nI wn)) 116 en6) 117 (nI fu5)) 118 rs0) 119 uc0) 123 ca) 124 mo) 125 nw) 126 isn) B) _ := hP
    have hD : va_D A (mW G h0 a (upd (upd (upd (upd (upd (upd (upd (upd (upd (upd (upd (upd F 49 (nI md)) 102 (nI op)) 111 (nI tp)) 115 (nI wn)) 116 en6) 117 (nI fu5)) 118 rs0) 119 uc0) 123 ca) 124 mo) 125 nw) 126 isn) B) := mW_D hD
    exact W.vret hx hb hr (fun t9 ht9 hW9 => ⟨⟨_, (op, tp, wn, fu5, en6, nw, isn, rs0, uc0, ca, mo, B), rfl, ⟨rfl, hz12⟩, by rw [ht9]; exact hP, hD⟩, hS.F ht9⟩) hS.2.2 dX12_invokes_7
  · obtain rfl : en6 = _ := h9 hr0
    subst hr0
    have hP : va_P G.1 pCl (mW G h0 a (upd (upd (upd (upd (upd (upd (upd (upd (upd (upd (upd (upd F 49 (nI md)) 102 (nI op)) 111 (nI tp)) 115 (nI wn)) 116 (-1)) 117 (nI fu5)) 118 rs0) 119 uc0) 123 ca) 124 mo) 125 nw) 126 isn) B) _ := hP
    have hD : va_D A (mW G h0 a (upd (upd (upd (upd (upd (upd (upd (upd (upd (upd (upd (upd F 49 (nI md)) 102 (nI op)) 111 (nI tp)) 115 (nI wn)) 116 (-1)) 117 (nI fu5)) 118 rs0) 119 uc0) 123 ca) 124 mo) 125 nw) 126 isn) B) := mW_D hD
    refine W.eq (g2 := F0 m 4 ls [.int 1]) rfl ?_
    refine lv_if_ne (tgt := 8) hx hb dX12_invokes_4 (by decide) (fun c13 => ?_) (fun c13 => absurd c13 (by decide))
    refine lv_aload_n hx hb dX12_invokes_8 rfl (lv_at hl 0 rfl) ?_
    refine r_get (v := .ref (a 18)) hx hb hown hq hE hP 26 65 tFX12_26 (by decide) pw_1448 rfl dX12_invokes_9 ?_
    refine lv_iload_n hx hb dX12_invokes_12 rfl (lv_at hl 1 rfl) ?_
    refine r_ldi (f := (B 18)) (j := n9) hx hb hE hP 18 (ma_18 G a _) rfl (by omega) (by decide) dX12_invokes_13 ?_
    refine lv_topi (fun x14 e15 => ?_)
    obtain rfl : x14 = nI m9 := e15.trans hm1
    refine lv_istore_n (lv' := [(2, .int (nI m9)), (0, .ref h0), (1, .int (nI n9))]) hx hb dX12_invokes_14 rfl hl (by decide) rfl (fun ls hl => ?_)
    refine lv_aload_n hx hb dX12_invokes_15 rfl (lv_at hl 1 rfl) ?_
    refine r_get (v := .ref (a 9)) hx hb hown hq hE hP 17 38 tFX12_17 (by decide) pw_1439 rfl dX12_invokes_16 ?_
    refine lv_iload_n hx hb dX12_invokes_19 rfl (lv_at hl 2 rfl) ?_
    refine r_ldi (f := (B 9)) (j := n9) hx hb hE hP 9 (ma_9 G a _) rfl (by omega) (by decide) dX12_invokes_20 ?_
    refine lv_topi (fun x16 e17 => ?_)
    obtain rfl : x16 = 14 := e17.trans ((congrFun hw9 _).trans hkd)
    refine lv_bipush (v := 14) hx hb dX12_invokes_21 (by decide) ?_
    refine lv_icmp_ne (tgt := 47) hx hb dX12_invokes_23 (by decide) (fun c18 => absurd c18 (by decide)) (fun c18 => ?_)
    refine lv_aload_n hx hb dX12_invokes_26 rfl (lv_at hl 1 rfl) ?_
    refine r_get (v := .ref (a 68)) hx hb hown hq hE hP 109 218 tFX12_109 (by decide) pw_1501 rfl dX12_invokes_27 ?_
    refine lv_aload_n hx hb dX12_invokes_30 rfl (lv_at hl 1 rfl) ?_
    refine r_get (v := .int (nI tp)) hx hb hown hq hE hP 111 698 tFX12_111 (by decide) pw_1964 rfl dX12_invokes_31 ?_
    refine lv_aload_n hx hb dX12_invokes_34 rfl (lv_at hl 1 rfl) ?_
    refine r_get (v := .ref (a 41)) hx hb hown hq hE hP 55 135 tFX12_55 (by decide) pw_1472 rfl dX12_invokes_35 ?_
    refine lv_iload_n hx hb dX12_invokes_38 rfl (lv_at hl 0 rfl) ?_
    refine r_ldi (f := (B 41)) (j := m9) hx hb hE hP 41 (ma_41 G a _) rfl (by omega) (by decide) dX12_invokes_39 ?_
    refine lv_topi (fun x19 e20 => ?_)
    obtain rfl : x19 = nI q9 := e20.trans ((congrFun hw41 _).trans hm3)
    refine lv_isub hx hb dX12_invokes_40 ?_
    refine lv_topi (fun x21 e22 => ?_)
    obtain rfl : x21 = nI (tp - q9) := e22.trans (nI_subN (a := q9) (b := tp) (by omega))
    refine lv_iconst (v := 1) hx hb dX12_invokes_41 (by decide) ?_
    refine lv_isub hx hb dX12_invokes_42 ?_
    refine lv_topi (fun x23 e24 => ?_)
    obtain rfl : x23 = nI ((tp - q9) - 1) := e24.trans (nI_subN (a := 1) (b := (tp - q9)) (by omega))
    refine r_ldi (f := (B 68)) (j := ((tp - q9) - 1)) hx hb hE hP 68 (ma_68 G a _) rfl (by omega) (by decide) dX12_invokes_43 ?_
    by_cases hnz : B 68 ((tp - q9) - 1) = 0
    · refine lv_topi (fun x25 e26 => ?_)
      obtain rfl : x25 = 0 := e26.trans hnz
      refine lv_goto (tgt := 58) hx hb dX12_invokes_44 (by decide) ?_
      refine lv_istore_n (lv' := [(3, .int 0), (2, .int (nI m9)), (0, .ref h0), (1, .int (nI n9))]) hx hb dX12_invokes_58 rfl hl (by decide) rfl (fun ls hl => ?_)
      refine lv_iload_n hx hb dX12_invokes_59 rfl (lv_at hl 0 rfl) ?_
      refine lv_if_ne (tgt := 72) hx hb dX12_invokes_60 (by decide) (fun c27 => absurd c27 (by decide)) (fun c27 => ?_)
      refine lv_aload_n hx hb dX12_invokes_63 rfl (lv_at hl 2 rfl) ?_
      refine lv_iload_n hx hb dX12_invokes_64 rfl (lv_at hl 3 rfl) ?_
      refine lv_sipush (v := 4001) hx hb dX12_invokes_65 (by decide) ?_
      have hP : va_P G.1 pCl (mW G h0 a (upd (upd (upd (upd (upd (upd (upd (upd (upd (upd (upd (upd (upd (upd (upd (upd (upd (upd (upd (upd (upd F 49 (nI md)) 102 (nI op)) 111 (nI tp)) 115 (nI wn)) 116 (-1)) 117 (nI fu5)) 118 rs0) 119 uc0) 123 ca) 124 mo) 125 nw) 126 isn) 102 (nI op)) 111 (nI tp)) 115 (nI wn)) 116 (-1)) 117 (nI fu5)) 118 rs0) 119 uc0) 125 nw) 126 isn) B) _ := mW_to (F := F) (l1 := [(49, (nI md)), (102, (nI op)), (111, (nI tp)), (115, (nI wn)), (116, (-1)), (117, (nI fu5)), (118, rs0), (119, uc0), (123, ca), (124, mo), (125, nw), (126, isn)]) (l2 := [(49, (nI md)), (102, (nI op)), (111, (nI tp)), (115, (nI wn)), (116, (-1)), (117, (nI fu5)), (118, rs0), (119, uc0), (123, ca), (124, mo), (125, nw), (126, isn), (102, (nI op)), (111, (nI tp)), (115, (nI wn)), (116, (-1)), (117, (nI fu5)), (118, rs0), (119, uc0), (125, nw), (126, isn)]) (V := [(nI md), (nI op), (nI tp), (nI wn), (-1), (nI fu5), rs0, uc0, ca, mo, nw, isn, (nI md), (nI op), (nI tp), (nI wn), (-1), (nI fu5), rs0, uc0, ca, mo, nw, isn, (nI op), (nI tp), (nI wn), (-1), (nI fu5), rs0, uc0, nw, isn]) rfl rfl rfl hP
      have hD : va_D A (mW G h0 a (upd (upd (upd (upd (upd (upd (upd (upd (upd (upd (upd (upd (upd (upd (upd (upd (upd (upd (upd (upd (upd F 49 (nI md)) 102 (nI op)) 111 (nI tp)) 115 (nI wn)) 116 (-1)) 117 (nI fu5)) 118 rs0) 119 uc0) 123 ca) 124 mo) 125 nw) 126 isn) 102 (nI op)) 111 (nI tp)) 115 (nI wn)) 116 (-1)) 117 (nI fu5)) 118 rs0) 119 uc0) 125 nw) 126 isn) B) := mW_D hD
      refine pc_V0 (G := G) (As := [.int (nI n9), .int (nI 4001)]) (rest := []) hx hb hml hown hq hE hX pX0_al hP hD hS hA hl.1 (R_raises l G h0 a (upd (upd (upd (upd (upd (upd (upd (upd (upd (upd (upd (upd F 49 (nI md)) 102 (nI op)) 111 (nI tp)) 115 (nI wn)) 116 (-1)) 117 (nI fu5)) 118 rs0) 119 uc0) 123 ca) 124 mo) 125 nw) 126 isn) B Xs gh nd T nm wr lz dc fd md pr bk M rmm mu op wn fu5 rd on idn fl ct n9 4001 1 mt ps yy bf wf (nI tp) nw isn rs0 uc0 (hY.ln h8) (by omega) (by omega) (Or.inr (by omega)) (clF_1 (by omega)) (by omega)) (gV pw_2054 pw_2055 pw_2056 pw_1523 pw_2053) hV_X12_raises 0 9 rfl rfl rfl rfl (Nat.le_of_ble_eq_true rfl) dX12_invokes_68 ⟨Nat.le_of_ble_eq_true rfl, Nat.le_of_ble_eq_true rfl⟩ ⟨Nat.le_of_ble_eq_true rfl, Nat.le_of_ble_eq_true rfl⟩ (fun v30 u28 H locs hw29 hP hD hS => ?_)
      obtain ⟨op31, tp32, wn33, fu34, en35, nw36, is37, rs38, uc39, X40⟩ := u28
      obtain ⟨hw29, h41⟩ := hw29
      replace h41 : Nx Xs X40 gh nd T nm wr lz dc fd md pr bk M rmm fu5 mu op31 tp32 wn33 fu34 rd on idn fl ct en35 nw36 is37 uc39 := h41
      obtain rfl : v30 = none := hw29
      have hP : va_P G.1 pCl (mW G h0 a (upd (upd (upd (upd (upd (upd (upd (upd (upd (upd (upd (upd F 49 (nI md)) 102 (nI op31)) 111 (nI tp32)) 115 (nI wn33)) 116 en35) 117 (nI fu34)) 118 rs38) 119 uc39) 123 ca) 124 mo) 125 nw36) 126 is37) X40) _ := mW_to (F := F) (l1 := [(49, (nI md)), (102, (nI op)), (111, (nI tp)), (115, (nI wn)), (116, (-1)), (117, (nI fu5)), (118, rs0), (119, uc0), (123, ca), (124, mo), (125, nw), (126, isn), (102, (nI op31)), (111, (nI tp32)), (115, (nI wn33)), (116, en35), (117, (nI fu34)), (118, rs38), (119, uc39), (125, nw36), (126, is37)]) (l2 := [(49, (nI md)), (102, (nI op31)), (111, (nI tp32)), (115, (nI wn33)), (116, en35), (117, (nI fu34)), (118, rs38), (119, uc39), (123, ca), (124, mo), (125, nw36), (126, is37)]) (V := [(nI md), (nI op31), (nI tp32), (nI wn33), en35, (nI fu34), rs38, uc39, ca, mo, nw36, is37, (nI op31), (nI tp32), (nI wn33), en35, (nI fu34), rs38, uc39, nw36, is37, (nI md), (nI op31), (nI tp32), (nI wn33), en35, (nI fu34), rs38, uc39, ca, mo, nw36, is37]) rfl rfl rfl hP
      have hD : va_D A (mW G h0 a (upd (upd (upd (upd (upd (upd (upd (upd (upd (upd (upd (upd F 49 (nI md)) 102 (nI op31)) 111 (nI tp32)) 115 (nI wn33)) 116 en35) 117 (nI fu34)) 118 rs38) 119 uc39) 123 ca) 124 mo) 125 nw36) 126 is37) X40) := mW_D hD
      refine W.widen (k := 0) (n := 0) (Nat.le_of_ble_eq_true rfl) (Nat.le_of_ble_eq_true rfl) ?_
      refine W.eq (g2 := F0 m 71 ls []) rfl ?_
      have hz42 : Nx Xs X40 gh nd T nm wr lz dc fd md pr bk M rmm fu mu op31 tp32 wn33 fu34 rd on idn fl ct en35 nw36 is37 uc39 := (Nx.less h41 (by omega))
      have hP : va_P G.1 pCl (mW G h0 a (upd (upd (upd (upd (upd (upd (upd (upd (upd (upd (upd (upd F 49 (nI md)) 102 (nI op31)) 111 (nI tp32)) 115 (nI wn33)) 116 en35) 117 (nI fu34)) 118 rs38) 119 uc39) 123 ca) 124 mo) 125 nw36) 126 is37) X40) _ := hP
      have hD : va_D A (mW G h0 a (upd (upd (upd (upd (upd (upd (upd (upd (upd (upd (upd (upd F 49 (nI md)) 102 (nI op31)) 111 (nI tp32)) 115 (nI wn33)) 116 en35) 117 (nI fu34)) 118 rs38) 119 uc39) 123 ca) 124 mo) 125 nw36) 126 is37) X40) := mW_D hD
      exact W.vret hx hb hr (fun t9 ht9 hW9 => ⟨⟨_, (op31, tp32, wn33, fu34, en35, nw36, is37, rs38, uc39, ca, mo, X40), rfl, ⟨rfl, hz42⟩, by rw [ht9]; exact hP, hD⟩, hS.F ht9⟩) hS.2.2 dX12_invokes_71
    · obtain ⟨m8, x9, k9, nv9, m2, hg1, hg2, hg3, hg4, hg5, hg6, hg7, hg8, hg9, hg10, hg11, hg12⟩ := hY.tgt hkd (by omega) (Or.inr ⟨rfl, rfl⟩) hnz
      obtain rfl : m8 = m9 := (nI_eq (by omega) (by omega)).mp (hg1.symm.trans hm1)
      have hl : lv_has ls 6 [(2, .int (nI m8)), (0, .ref h0), (1, .int (nI n9))] := hl
      rw [hg3] at hg11
      refine lv_topi (fun x43 e44 => ?_)
      obtain rfl : x43 = nI x9 := e44.trans hg3
      refine lv_goto (tgt := 58) hx hb dX12_invokes_44 (by decide) ?_
      refine lv_istore_n (lv' := [(3, .int (nI x9)), (2, .int (nI m8)), (0, .ref h0), (1, .int (nI n9))]) hx hb dX12_invokes_58 rfl hl (by decide) rfl (fun ls hl => ?_)
      refine lv_iload_n hx hb dX12_invokes_59 rfl (lv_at hl 0 rfl) ?_
      refine lv_if_ne (tgt := 72) hx hb dX12_invokes_60 (by decide) (fun c45 => ?_) (fun c45 => (by have n46 : x9 = 0 := (nI_eq (a := x9) (b := 0) (by omega) (by omega)).mp c45; omega))
      refine lv_aload_n hx hb dX12_invokes_72 rfl (lv_at hl 2 rfl) ?_
      refine r_get (v := .ref (a 9)) hx hb hown hq hE hP 17 38 tFX12_17 (by decide) pw_1439 rfl dX12_invokes_73 ?_
      refine lv_iload_n hx hb dX12_invokes_76 rfl (lv_at hl 3 rfl) ?_
      refine r_ldi (f := (B 9)) (j := n9) hx hb hE hP 9 (ma_9 G a _) rfl (by omega) (by decide) dX12_invokes_77 ?_
      refine lv_topi (fun x47 e48 => ?_)
      obtain rfl : x47 = 14 := e48.trans ((congrFun hw9 _).trans hkd)
      refine lv_bipush (v := 8) hx hb dX12_invokes_78 (by decide) ?_
      refine lv_icmp_ne (tgt := 87) hx hb dX12_invokes_80 (by decide) (fun c49 => ?_) (fun c49 => absurd c49 (by decide))
      refine lv_aload_n hx hb dX12_invokes_87 rfl (lv_at hl 2 rfl) ?_
      refine lv_aload_n hx hb dX12_invokes_88 rfl (lv_at hl 2 rfl) ?_
      refine lv_iload_n hx hb dX12_invokes_89 rfl (lv_at hl 0 rfl) ?_
      have hP : va_P G.1 pCl (mW G h0 a (upd (upd (upd (upd (upd (upd (upd (upd (upd (upd (upd (upd F 49 (nI md)) 102 (nI op)) 111 (nI tp)) 115 (nI wn)) 116 (-1)) 117 (nI fu5)) 118 rs0) 119 uc0) 123 ca) 124 mo) 125 nw) 126 isn) (updA B 55 (B 55))) _ := mW_to (F := F) (l1 := [(49, (nI md)), (102, (nI op)), (111, (nI tp)), (115, (nI wn)), (116, (-1)), (117, (nI fu5)), (118, rs0), (119, uc0), (123, ca), (124, mo), (125, nw), (126, isn)]) (l2 := [(49, (nI md)), (102, (nI op)), (111, (nI tp)), (115, (nI wn)), (116, (-1)), (117, (nI fu5)), (118, rs0), (119, uc0), (123, ca), (124, mo), (125, nw), (126, isn)]) (V := [(nI md), (nI op), (nI tp), (nI wn), (-1), (nI fu5), rs0, uc0, ca, mo, nw, isn, (nI md), (nI op), (nI tp), (nI wn), (-1), (nI fu5), rs0, uc0, ca, mo, nw, isn]) rfl rfl (show B = (updA B 55 (B 55)) from updsA_eq2 (F := B) (l1 := []) (l2 := [(55, (B 55))]) (V := [(B 55)]) rfl rfl) hP
      have hD : va_D A (mW G h0 a (upd (upd (upd (upd (upd (upd (upd (upd (upd (upd (upd (upd F 49 (nI md)) 102 (nI op)) 111 (nI tp)) 115 (nI wn)) 116 (-1)) 117 (nI fu5)) 118 rs0) 119 uc0) 123 ca) 124 mo) 125 nw) 126 isn) (updA B 55 (B 55))) := mW_D hD
      refine pc_V0 (G := G) (As := [.int (nI x9)]) (rest := [.ref h0]) hx hb hml hown hq hE hX pX0_al hP hD hS hA hl.1 (R_classOf l G h0 a (upd (upd (upd (upd (upd (upd (upd (upd (upd (upd (upd (upd F 49 (nI md)) 102 (nI op)) 111 (nI tp)) 115 (nI wn)) 116 (-1)) 117 (nI fu5)) 118 rs0) 119 uc0) 123 ca) 124 mo) 125 nw) 126 isn) B x9 (B 55) ⟨hg4, Or.inl hg5⟩) (gV pw_1995 pw_1996 pw_1997 pw_1523 pw_1994) hV_X12_classOf 0 9 rfl rfl rfl rfl (Nat.le_of_ble_eq_true rfl) dX12_invokes_90 ⟨Nat.le_of_ble_eq_true rfl, Nat.le_of_ble_eq_true rfl⟩ ⟨Nat.le_of_ble_eq_true rfl, Nat.le_of_ble_eq_true rfl⟩ (fun v52 u50 H locs hw51 hP hD hS => ?_)
      obtain rfl : v52 = some (.int (clF (B 55) x9)) := hw51
      have hP : va_P G.1 pCl (mW G h0 a (upd (upd (upd (upd (upd (upd (upd (upd (upd (upd (upd (upd F 49 (nI md)) 102 (nI op)) 111 (nI tp)) 115 (nI wn)) 116 (-1)) 117 (nI fu5)) 118 rs0) 119 uc0) 123 ca) 124 mo) 125 nw) 126 isn) B) _ := mW_to (F := F) (l1 := [(49, (nI md)), (102, (nI op)), (111, (nI tp)), (115, (nI wn)), (116, (-1)), (117, (nI fu5)), (118, rs0), (119, uc0), (123, ca), (124, mo), (125, nw), (126, isn)]) (l2 := [(49, (nI md)), (102, (nI op)), (111, (nI tp)), (115, (nI wn)), (116, (-1)), (117, (nI fu5)), (118, rs0), (119, uc0), (123, ca), (124, mo), (125, nw), (126, isn)]) (V := [(nI md), (nI op), (nI tp), (nI wn), (-1), (nI fu5), rs0, uc0, ca, mo, nw, isn, (nI md), (nI op), (nI tp), (nI wn), (-1), (nI fu5), rs0, uc0, ca, mo, nw, isn]) rfl rfl (show (updA B 55 (B 55)) = B from updsA_eq2 (F := B) (l1 := [(55, (B 55))]) (l2 := []) (V := [(B 55)]) rfl rfl) hP
      have hD : va_D A (mW G h0 a (upd (upd (upd (upd (upd (upd (upd (upd (upd (upd (upd (upd F 49 (nI md)) 102 (nI op)) 111 (nI tp)) 115 (nI wn)) 116 (-1)) 117 (nI fu5)) 118 rs0) 119 uc0) 123 ca) 124 mo) 125 nw) 126 isn) B) := mW_D hD
      refine W.widen (k := 0) (n := 0) (Nat.le_of_ble_eq_true rfl) (Nat.le_of_ble_eq_true rfl) ?_
      refine W.eq (g2 := F0 m 93 ls [.int (clF (B 55) x9), .ref h0]) rfl ?_
      refine lv_topi (fun x53 e54 => ?_)
      obtain rfl : x53 = nI k9 := e54.trans hg6
      refine lv_aload_n hx hb dX12_invokes_93 rfl (lv_at hl 2 rfl) ?_
      refine r_get (v := .ref (a 37)) hx hb hown hq hE hP 51 123 tFX12_51 (by decide) pw_1468 rfl dX12_invokes_94 ?_
      refine lv_iload_n hx hb dX12_invokes_97 rfl (lv_at hl 1 rfl) ?_
      refine r_ldi (f := (B 37)) (j := m8) hx hb hE hP 37 (ma_37 G a _) rfl (by omega) (by decide) dX12_invokes_98 ?_
      refine lv_topi (fun x55 e56 => ?_)
      obtain rfl : x55 = nI nv9 := e56.trans ((congrFun hw37 _).trans hg8)
      have hco9 : ChO B (B 54) dc md nm := by have z := hPg.ch; unfold ChO at z ⊢; rw [hw36, hw37, hw29]; exact z
      have hP : va_P G.1 pCl (mW G h0 a (upd (upd (upd (upd (upd (upd (upd (upd (upd (upd (upd (upd (upd F 49 (nI md)) 102 (nI op)) 111 (nI tp)) 115 (nI wn)) 116 (-1)) 117 (nI fu5)) 118 rs0) 119 uc0) 123 ca) 124 mo) 125 nw) 126 isn) 49 (nI md)) (updA B 54 (B 54))) _ := mW_to (F := F) (l1 := [(49, (nI md)), (102, (nI op)), (111, (nI tp)), (115, (nI wn)), (116, (-1)), (117, (nI fu5)), (118, rs0), (119, uc0), (123, ca), (124, mo), (125, nw), (126, isn)]) (l2 := [(49, (nI md)), (102, (nI op)), (111, (nI tp)), (115, (nI wn)), (116, (-1)), (117, (nI fu5)), (118, rs0), (119, uc0), (123, ca), (124, mo), (125, nw), (126, isn), (49, (nI md))]) (V := [(nI md), (nI op), (nI tp), (nI wn), (-1), (nI fu5), rs0, uc0, ca, mo, nw, isn, (nI md), (nI op), (nI tp), (nI wn), (-1), (nI fu5), rs0, uc0, ca, mo, nw, isn, (nI md)]) rfl rfl (show B = (updA B 54 (B 54)) from updsA_eq2 (F := B) (l1 := []) (l2 := [(54, (B 54))]) (V := [(B 54)]) rfl rfl) hP
      have hD : va_D A (mW G h0 a (upd (upd (upd (upd (upd (upd (upd (upd (upd (upd (upd (upd (upd F 49 (nI md)) 102 (nI op)) 111 (nI tp)) 115 (nI wn)) 116 (-1)) 117 (nI fu5)) 118 rs0) 119 uc0) 123 ca) 124 mo) 125 nw) 126 isn) 49 (nI md)) (updA B 54 (B 54))) := mW_D hD
      refine pc_V0 (G := G) (As := [.int (nI k9), .int (nI nv9)]) (rest := []) hx hb hml hown hq hE hX pX0_al hP hD hS hA hl.1 (R_chosenOf l G h0 a (upd (upd (upd (upd (upd (upd (upd (upd (upd (upd (upd (upd F 49 (nI md)) 102 (nI op)) 111 (nI tp)) 115 (nI wn)) 116 (-1)) 117 (nI fu5)) 118 rs0) 119 uc0) 123 ca) 124 mo) 125 nw) 126 isn) B k9 nv9 dc md nm (B 54) (by omega) (by omega) (by omega) (by omega) (by rw [hw29]; exact hPg.1.1.2.2.2.1) hco9) (gV pw_2057 pw_2058 pw_2059 pw_1523 pw_1999) hV_X12_chosenOf 0 9 rfl rfl rfl rfl (Nat.le_of_ble_eq_true rfl) dX12_invokes_99 ⟨Nat.le_of_ble_eq_true rfl, Nat.le_of_ble_eq_true rfl⟩ ⟨Nat.le_of_ble_eq_true rfl, Nat.le_of_ble_eq_true rfl⟩ (fun v59 u57 H locs hw58 hP hD hS => ?_)
      obtain ⟨co60, rfl⟩ : ∃ z, z = u57 := ⟨_, rfl⟩
      obtain ⟨hw58, h61⟩ := hw58
      replace h61 : ChO B co60 dc md nm := h61
      obtain rfl : v59 = some (.int (mthF ((B 36)) ((B 37)) ((B 29)) md (nI nv9) 40 k9)) := hw58
      have hP : va_P G.1 pCl (mW G h0 a (upd (upd (upd (upd (upd (upd (upd (upd (upd (upd (upd (upd F 49 (nI md)) 102 (nI op)) 111 (nI tp)) 115 (nI wn)) 116 (-1)) 117 (nI fu5)) 118 rs0) 119 uc0) 123 ca) 124 mo) 125 nw) 126 isn) (updA B 54 co60)) _ := mW_to (F := F) (l1 := [(49, (nI md)), (102, (nI op)), (111, (nI tp)), (115, (nI wn)), (116, (-1)), (117, (nI fu5)), (118, rs0), (119, uc0), (123, ca), (124, mo), (125, nw), (126, isn), (49, (nI md))]) (l2 := [(49, (nI md)), (102, (nI op)), (111, (nI tp)), (115, (nI wn)), (116, (-1)), (117, (nI fu5)), (118, rs0), (119, uc0), (123, ca), (124, mo), (125, nw), (126, isn)]) (V := [(nI md), (nI op), (nI tp), (nI wn), (-1), (nI fu5), rs0, uc0, ca, mo, nw, isn, (nI md), (nI md), (nI op), (nI tp), (nI wn), (-1), (nI fu5), rs0, uc0, ca, mo, nw, isn]) rfl rfl rfl hP
      have hD : va_D A (mW G h0 a (upd (upd (upd (upd (upd (upd (upd (upd (upd (upd (upd (upd F 49 (nI md)) 102 (nI op)) 111 (nI tp)) 115 (nI wn)) 116 (-1)) 117 (nI fu5)) 118 rs0) 119 uc0) 123 ca) 124 mo) 125 nw) 126 isn) (updA B 54 co60)) := mW_D hD
      refine W.widen (k := 0) (n := 0) (Nat.le_of_ble_eq_true rfl) (Nat.le_of_ble_eq_true rfl) ?_
      refine W.eq (g2 := F0 m 102 ls [.int (mthF ((B 36)) ((B 37)) ((B 29)) md (nI nv9) 40 k9)]) rfl ?_
      have hco8 : ChO Xs co60 dc md nm := by have z := h61; unfold ChO at z ⊢; rw [hw36, hw37, hw29] at z; exact z
      have hY2 := hY.cho hco8
      refine lv_topi (fun x62 e63 => ?_)
      obtain rfl : x62 = nI m2 := e63.trans (by rw [hw36, hw37, hw29]; exact hg10)
      refine lv_istore (lv' := [(4, .int (nI m2)), (3, .int (nI x9)), (2, .int (nI m8)), (0, .ref h0), (1, .int (nI n9))]) hx hb dX12_invokes_102 hl (by decide) rfl (fun ls hl => ?_)
      refine lv_aload_n hx hb dX12_invokes_104 rfl (lv_at hl 3 rfl) ?_
      refine r_get (v := .ref (a 9)) hx hb hown hq hE hP 17 38 tFX12_17 (by decide) pw_1439 rfl dX12_invokes_105 ?_
      refine lv_iload_n hx hb dX12_invokes_108 rfl (lv_at hl 4 rfl) ?_
      refine r_ldi (f := (B 9)) (j := n9) hx hb hE hP 9 (ma_9 G a _) rfl (by omega) (by decide) dX12_invokes_109 ?_
      refine lv_topi (fun x64 e65 => ?_)
      obtain rfl : x64 = 14 := e65.trans ((congrFun hw9 _).trans hkd)
      refine lv_bipush (v := 14) hx hb dX12_invokes_110 (by decide) ?_
      refine lv_icmp_ne (tgt := 119) hx hb dX12_invokes_112 (by decide) (fun c66 => absurd c66 (by decide)) (fun c66 => ?_)
      refine lv_iconst (v := 1) hx hb dX12_invokes_115 (by decide) ?_
      refine lv_goto (tgt := 120) hx hb dX12_invokes_116 (by decide) ?_
      refine lv_istore (lv' := [(5, .int 1), (4, .int (nI m2)), (3, .int (nI x9)), (2, .int (nI m8)), (0, .ref h0), (1, .int (nI n9))]) hx hb dX12_invokes_120 hl (by decide) rfl (fun ls hl => ?_)
      refine lv_aload_n hx hb dX12_invokes_122 rfl (lv_at hl 4 rfl) ?_
      refine lv_iload hx hb dX12_invokes_123 (lv_at hl 1 rfl) ?_
      refine lv_iload_n hx hb dX12_invokes_125 rfl (lv_at hl 2 rfl) ?_
      refine lv_iload_n hx hb dX12_invokes_126 rfl (lv_at hl 5 rfl) ?_
      have hg13 := hg11
      obtain ⟨⟨hd1, hd2⟩, hd3, hd4, hd5, p8, hd6, hd7, hd8, hd9⟩ := hg13
      have hpt9 : ∀ i : Nat, i < q9 → ∃ y t : Nat, B 47 (p8 + i) = nI y ∧ y < 5000 ∧ B 21 y = nI t ∧ t ≤ 2050 := by rw [hw47, hw21]; exact hd8
      have hP : va_P G.1 pCl (mW G h0 a (upd (upd (upd (upd (upd (upd (upd (upd (upd (upd (upd (upd (upd (upd (upd (upd (upd (upd (upd F 49 (nI md)) 102 (nI op)) 111 (nI tp)) 115 (nI wn)) 116 (-1)) 117 (nI fu5)) 118 rs0) 119 uc0) 123 ca) 124 mo) 125 nw) 126 isn) 102 (nI op)) 111 (nI tp)) 116 (-1)) 123 ca) 124 mo) 125 nw) 126 isn) (updA (updA (updA (updA (updA (updA (updA B 54 co60) 62 (B 62)) 63 (B 63)) 64 (B 64)) 65 (B 65)) 66 (B 66)) 67 (B 67))) _ := mW_to (F := F) (l1 := [(49, (nI md)), (102, (nI op)), (111, (nI tp)), (115, (nI wn)), (116, (-1)), (117, (nI fu5)), (118, rs0), (119, uc0), (123, ca), (124, mo), (125, nw), (126, isn)]) (l2 := [(49, (nI md)), (102, (nI op)), (111, (nI tp)), (115, (nI wn)), (116, (-1)), (117, (nI fu5)), (118, rs0), (119, uc0), (123, ca), (124, mo), (125, nw), (126, isn), (102, (nI op)), (111, (nI tp)), (116, (-1)), (123, ca), (124, mo), (125, nw), (126, isn)]) (V := [(nI md), (nI op), (nI tp), (nI wn), (-1), (nI fu5), rs0, uc0, ca, mo, nw, isn, (nI md), (nI op), (nI tp), (nI wn), (-1), (nI fu5), rs0, uc0, ca, mo, nw, isn, (nI op), (nI tp), (-1), ca, mo, nw, isn]) rfl rfl (show (updA B 54 co60) = (updA (updA (updA (updA (updA (updA (updA B 54 co60) 62 (B 62)) 63 (B 63)) 64 (B 64)) 65 (B 65)) 66 (B 66)) 67 (B 67)) from updsA_eq2 (F := B) (l1 := [(54, co60)]) (l2 := [(54, co60), (62, (B 62)), (63, (B 63)), (64, (B 64)), (65, (B 65)), (66, (B 66)), (67, (B 67))]) (V := [co60, co60, (B 62), (B 63), (B 64), (B 65), (B 66), (B 67)]) rfl rfl) hP
      have hD : va_D A (mW G h0 a (upd (upd (upd (upd (upd (upd (upd (upd (upd (upd (upd (upd (upd (upd (upd (upd (upd (upd (upd F 49 (nI md)) 102 (nI op)) 111 (nI tp)) 115 (nI wn)) 116 (-1)) 117 (nI fu5)) 118 rs0) 119 uc0) 123 ca) 124 mo) 125 nw) 126 isn) 102 (nI op)) 111 (nI tp)) 116 (-1)) 123 ca) 124 mo) 125 nw) 126 isn) (updA (updA (updA (updA (updA (updA (updA B 54 co60) 62 (B 62)) 63 (B 63)) 64 (B 64)) 65 (B 65)) 66 (B 66)) 67 (B 67))) := mW_D hD
      refine pc_V0 (G := G) (As := [.int (nI m2), .int (nI x9), .int (nI n9)]) (rest := []) hx hb hml hown hq hE hX pX0_al hP hD hS hA hl.1 (R_opens l G h0 a (upd (upd (upd (upd (upd (upd (upd (upd (upd (upd (upd (upd F 49 (nI md)) 102 (nI op)) 111 (nI tp)) 115 (nI wn)) 116 (-1)) 117 (nI fu5)) 118 rs0) 119 uc0) 123 ca) 124 mo) 125 nw) 126 isn) (updA B 54 co60) m2 op tp q9 p8 (nI x9) (nI n9) (-1) nw isn ca mo (B 66) (B 67) (B 62) (B 63) (B 64) (B 65) (by omega) (by omega) ((congrFun hw41 _).trans hd3) (by omega) ((congrFun hw40 _).trans hd6) (by omega) hpt9) (gV pw_2060 pw_2061 pw_2062 pw_1523 pw_2019) hV_X12_opens 0 9 rfl rfl rfl rfl (Nat.le_of_ble_eq_true rfl) dX12_invokes_127 ⟨Nat.le_of_ble_eq_true rfl, Nat.le_of_ble_eq_true rfl⟩ ⟨Nat.le_of_ble_eq_true rfl, Nat.le_of_ble_eq_true rfl⟩ (fun v69 u67 H locs hw68 hP hD hS => ?_)
      obtain ⟨op70, tp71, en72, nw73, is74, ca75, mo76, vr77, vf78, cth79, csc80, cvl81, cnd82⟩ := u67
      obtain ⟨hw68, h83, h84⟩ := hw68
      replace h83 : If (op = 100) (en72 = 4 ∧ op70 = op ∧ tp71 = tp ∧ vr77 = (B 66) ∧ vf78 = (B 67) ∧ cth79 = (B 62) ∧ csc80 = (B 63) ∧ cvl81 = (B 64) ∧ cnd82 = (B 65)) := h83
      replace h84 : If (op < 100) (en72 = (-1) ∧ op70 = op + 1 ∧ tp71 = tp - q9 ∧ nw73 = (B 42) m2 ∧ is74 = 1 ∧ ArgV ((B 68)) (B 66) vr77 (32 * op) (tp - q9) q9 ∧ ArgF (updA B 54 co60) (B 67) vf78 (32 * op) p8 q9 ∧ cth79 = upd (B 62) op (nI x9) ∧ csc80 = upd (B 63) op (nI q9) ∧ cvl81 = upd (B 64) op (nI (tp - q9)) ∧ cnd82 = upd (B 65) op (nI n9)) := h84
      obtain rfl : v69 = none := hw68
      have hP : va_P G.1 pCl (mW G h0 a (upd (upd (upd (upd (upd (upd (upd (upd (upd (upd (upd (upd F 49 (nI md)) 102 (nI op70)) 111 (nI tp71)) 115 (nI wn)) 116 en72) 117 (nI fu5)) 118 rs0) 119 uc0) 123 ca75) 124 mo76) 125 nw73) 126 is74) (updA (updA (updA (updA (updA (updA (updA B 54 co60) 62 cth79) 63 csc80) 64 cvl81) 65 cnd82) 66 vr77) 67 vf78)) _ := mW_to (F := F) (l1 := [(49, (nI md)), (102, (nI op)), (111, (nI tp)), (115, (nI wn)), (116, (-1)), (117, (nI fu5)), (118, rs0), (119, uc0), (123, ca), (124, mo), (125, nw), (126, isn), (102, (nI op70)), (111, (nI tp71)), (116, en72), (123, ca75), (124, mo76), (125, nw73), (126, is74)]) (l2 := [(49, (nI md)), (102, (nI op70)), (111, (nI tp71)), (115, (nI wn)), (116, en72), (117, (nI fu5)), (118, rs0), (119, uc0), (123, ca75), (124, mo76), (125, nw73), (126, is74)]) (V := [(nI md), (nI op70), (nI tp71), (nI wn), en72, (nI fu5), rs0, uc0, ca75, mo76, nw73, is74, (nI op70), (nI tp71), en72, ca75, mo76, nw73, is74, (nI md), (nI op70), (nI tp71), (nI wn), en72, (nI fu5), rs0, uc0, ca75, mo76, nw73, is74]) rfl rfl rfl hP
      have hD : va_D A (mW G h0 a (upd (upd (upd (upd (upd (upd (upd (upd (upd (upd (upd (upd F 49 (nI md)) 102 (nI op70)) 111 (nI tp71)) 115 (nI wn)) 116 en72) 117 (nI fu5)) 118 rs0) 119 uc0) 123 ca75) 124 mo76) 125 nw73) 126 is74) (updA (updA (updA (updA (updA (updA (updA B 54 co60) 62 cth79) 63 csc80) 64 cvl81) 65 cnd82) 66 vr77) 67 vf78)) := mW_D hD
      refine W.widen (k := 0) (n := 0) (Nat.le_of_ble_eq_true rfl) (Nat.le_of_ble_eq_true rfl) ?_
      refine W.eq (g2 := F0 m 130 ls []) rfl ?_
      rcases (show op = 100 ∨ op < 100 by omega) with hop | hop
      · obtain ⟨ho1, ho2, ho3, ho4, ho5, ho6, ho7, ho8, ho9⟩ := h83 hop
        subst ho1
        replace ho2 := ho2.symm; subst ho2
        replace ho3 := ho3.symm; subst ho3
        subst ho4
        subst ho5
        subst ho6
        subst ho7
        subst ho8
        subst ho9
        have hP : va_P G.1 pCl (mW G h0 a (upd (upd (upd (upd (upd (upd (upd (upd (upd (upd (upd (upd F 49 (nI md)) 102 (nI op)) 111 (nI tp)) 115 (nI wn)) 116 4) 117 (nI fu5)) 118 rs0) 119 uc0) 123 ca75) 124 mo76) 125 nw73) 126 is74) (updA (updA (updA (updA (updA (updA (updA B 54 co60) 62 (B 62)) 63 (B 63)) 64 (B 64)) 65 (B 65)) 66 (B 66)) 67 (B 67))) _ := hP
        have hD : va_D A (mW G h0 a (upd (upd (upd (upd (upd (upd (upd (upd (upd (upd (upd (upd F 49 (nI md)) 102 (nI op)) 111 (nI tp)) 115 (nI wn)) 116 4) 117 (nI fu5)) 118 rs0) 119 uc0) 123 ca75) 124 mo76) 125 nw73) 126 is74) (updA (updA (updA (updA (updA (updA (updA B 54 co60) 62 (B 62)) 63 (B 63)) 64 (B 64)) 65 (B 65)) 66 (B 66)) 67 (B 67))) := mW_D hD
        refine lv_aload_n hx hb dX12_invokes_130 rfl (lv_at hl 4 rfl) ?_
        refine r_get (v := .int 4) hx hb hown hq hE hP 116 233 tFX12_116 (by decide) pw_1506 rfl dX12_invokes_131 ?_
        refine lv_iconst (v := (-1)) hx hb dX12_invokes_134 (by decide) ?_
        refine lv_icmp_ne (tgt := 168) hx hb dX12_invokes_135 (by decide) (fun c85 => ?_) (fun c85 => absurd c85 (by decide))
        have hz86 : Nx Xs (updA (updA (updA (updA (updA (updA (updA B 54 co60) 62 (B 62)) 63 (B 63)) 64 (B 64)) 65 (B 65)) 66 (B 66)) 67 (B 67)) gh nd T nm wr lz dc fd md pr bk M rmm fu mu op tp wn fu5 rd on idn fl ct (4 : Int32) nw73 is74 uc0 := (Nx.rows (hY2.stop (by decide) (by decide)) upd6_id)
        have hP : va_P G.1 pCl (mW G h0 a (upd (upd (upd (upd (upd (upd (upd (upd (upd (upd (upd (upd F 49 (nI md)) 102 (nI op)) 111 (nI tp)) 115 (nI wn)) 116 (4 : Int32)) 117 (nI fu5)) 118 rs0) 119 uc0) 123 ca75) 124 mo76) 125 nw73) 126 is74) (updA (updA (updA (updA (updA (updA (updA B 54 co60) 62 (B 62)) 63 (B 63)) 64 (B 64)) 65 (B 65)) 66 (B 66)) 67 (B 67))) _ := mW_to (F := F) (l1 := [(49, (nI md)), (102, (nI op)), (111, (nI tp)), (115, (nI wn)), (116, 4), (117, (nI fu5)), (118, rs0), (119, uc0), (123, ca75), (124, mo76), (125, nw73), (126, is74)]) (l2 := [(49, (nI md)), (102, (nI op)), (111, (nI tp)), (115, (nI wn)), (116, (4 : Int32)), (117, (nI fu5)), (118, rs0), (119, uc0), (123, ca75), (124, mo76), (125, nw73), (126, is74)]) (V := [(nI md), (nI op), (nI tp), (nI wn), (4 : Int32), (nI fu5), rs0, uc0, ca75, mo76, nw73, is74, (nI md), (nI op), (nI tp), (nI wn), (4 : Int32), (nI fu5), rs0, uc0, ca75, mo76, nw73, is74]) rfl rfl rfl hP
        have hD : va_D A (mW G h0 a (upd (upd (upd (upd (upd (upd (upd (upd (upd (upd (upd (upd F 49 (nI md)) 102 (nI op)) 111 (nI tp)) 115 (nI wn)) 116 (4 : Int32)) 117 (nI fu5)) 118 rs0) 119 uc0) 123 ca75) 124 mo76) 125 nw73) 126 is74) (updA (updA (updA (updA (updA (updA (updA B 54 co60) 62 (B 62)) 63 (B 63)) 64 (B 64)) 65 (B 65)) 66 (B 66)) 67 (B 67))) := mW_D hD
        exact W.vret hx hb hr (fun t9 ht9 hW9 => ⟨⟨_, (op, tp, wn, fu5, (4 : Int32), nw73, is74, rs0, uc0, ca75, mo76, (updA (updA (updA (updA (updA (updA (updA B 54 co60) 62 (B 62)) 63 (B 63)) 64 (B 64)) 65 (B 65)) 66 (B 66)) 67 (B 67))), rfl, ⟨rfl, hz86⟩, by rw [ht9]; exact hP, hD⟩, hS.F ht9⟩) hS.2.2 dX12_invokes_168
      · obtain ⟨ho1, ho2, ho3, ho10, ho11, ho4, ho5, ho6, ho7, ho8, ho9⟩ := h84 hop
        subst ho1
        subst ho2
        subst ho3
        subst ho11
        subst ho6
        subst ho7
        subst ho8
        subst ho9
        have hP : va_P G.1 pCl (mW G h0 a (upd (upd (upd (upd (upd (upd (upd (upd (upd (upd (upd (upd F 49 (nI md)) 102 (nI (op + 1))) 111 (nI (tp - q9))) 115 (nI wn)) 116 (-1)) 117 (nI fu5)) 118 rs0) 119 uc0) 123 ca75) 124 mo76) 125 nw73) 126 1) (updA (updA (updA (updA (updA (updA (updA B 54 co60) 62 (upd (B 62) op (nI x9))) 63 (upd (B 63) op (nI q9))) 64 (upd (B 64) op (nI (tp - q9)))) 65 (upd (B 65) op (nI n9))) 66 vr77) 67 vf78)) _ := hP
        have hD : va_D A (mW G h0 a (upd (upd (upd (upd (upd (upd (upd (upd (upd (upd (upd (upd F 49 (nI md)) 102 (nI (op + 1))) 111 (nI (tp - q9))) 115 (nI wn)) 116 (-1)) 117 (nI fu5)) 118 rs0) 119 uc0) 123 ca75) 124 mo76) 125 nw73) 126 1) (updA (updA (updA (updA (updA (updA (updA B 54 co60) 62 (upd (B 62) op (nI x9))) 63 (upd (B 63) op (nI q9))) 64 (upd (B 64) op (nI (tp - q9)))) 65 (upd (B 65) op (nI n9))) 66 vr77) 67 vf78)) := mW_D hD
        refine lv_aload_n hx hb dX12_invokes_130 rfl (lv_at hl 4 rfl) ?_
        refine r_get (v := .int (-1)) hx hb hown hq hE hP 116 233 tFX12_116 (by decide) pw_1506 rfl dX12_invokes_131 ?_
        refine lv_iconst (v := (-1)) hx hb dX12_invokes_134 (by decide) ?_
        refine lv_icmp_ne (tgt := 168) hx hb dX12_invokes_135 (by decide) (fun c87 => absurd c87 (by decide)) (fun c87 => ?_)
        refine lv_iload hx hb dX12_invokes_138 (lv_at hl 0 rfl) ?_
        refine lv_if_eq (tgt := 168) hx hb dX12_invokes_140 (by decide) (fun c88 => absurd c88 (by decide)) (fun c88 => ?_)
        refine lv_aload_n hx hb dX12_invokes_143 rfl (lv_at hl 4 rfl) ?_
        refine r_get (v := .ref (a 64)) hx hb hown hq hE hP 105 205 tFX12_105 (by decide) pw_1496 rfl dX12_invokes_144 ?_
        refine lv_aload_n hx hb dX12_invokes_147 rfl (lv_at hl 4 rfl) ?_
        refine r_get (v := .int (nI (op + 1))) hx hb hown hq hE hP 102 707 tFX12_102 (by decide) pw_1969 rfl dX12_invokes_148 ?_
        refine lv_iconst (v := 1) hx hb dX12_invokes_151 (by decide) ?_
        refine lv_isub hx hb dX12_invokes_152 ?_
        refine lv_topi (fun x89 e90 => ?_)
        obtain rfl : x89 = nI ((op + 1) - 1) := e90.trans (nI_subN (a := 1) (b := (op + 1)) (by omega))
        refine lv_dup2_11 hx hb dX12_invokes_153 rfl rfl ?_
        refine r_ldi (f := (upd (B 64) op (nI (tp - q9)))) (j := ((op + 1) - 1)) hx hb hE hP 64 (ma_64 G a _) rfl (by omega) (by decide) dX12_invokes_154 ?_
        refine lv_topi (fun x91 e92 => ?_)
        obtain rfl : x91 = nI (tp - q9) := e92.trans (by rw [show ((op + 1) - 1) = op by omega]; exact upd_eq)
        refine lv_iconst (v := 1) hx hb dX12_invokes_155 (by decide) ?_
        refine lv_isub hx hb dX12_invokes_156 ?_
        refine lv_topi (fun x93 e94 => ?_)
        obtain rfl : x93 = nI ((tp - q9) - 1) := e94.trans (nI_subN (a := 1) (b := (tp - q9)) (by omega))
        refine r_sti (f := (upd (B 64) op (nI (tp - q9)))) (j := ((op + 1) - 1)) hx hb hE hP hD hS 64 (ma_64 G a _) rfl (mas_64 G a _) (by omega) (by decide) dX12_invokes_157 (fun H locs hP hD hS => ?_)
        refine lv_aload_n hx hb dX12_invokes_158 rfl (lv_at hl 4 rfl) ?_
        refine lv_dup hx hb dX12_invokes_159 rfl ?_
        refine r_get (v := .int (nI (tp - q9))) hx hb hown hq hE hP 111 698 tFX12_111 (by decide) pw_1964 rfl dX12_invokes_160 ?_
        refine lv_iconst (v := 1) hx hb dX12_invokes_163 (by decide) ?_
        refine lv_isub hx hb dX12_invokes_164 ?_
        refine lv_topi (fun x95 e96 => ?_)
        obtain rfl : x95 = nI ((tp - q9) - 1) := e96.trans (nI_subN (a := 1) (b := (tp - q9)) (by omega))
        refine r_put (v := (nI ((tp - q9) - 1))) (ty := .int) hx hb hown hq hE hP hD hS 111 698 tFX12_111 (by decide) pw_1964 (by decide) rfl rfl (ms_111 a _ _) dX12_invokes_165 (fun H locs hP hD hS => ?_)
        have hz97 : Nx Xs (updA (updA (updA (updA (updA (updA (updA B 54 co60) 62 (upd (B 62) op (nI x9))) 63 (upd (B 63) op (nI q9))) 64 (upd (upd (B 64) op (nI (tp - q9))) ((op + 1) - 1) (nI ((tp - q9) - 1)))) 65 (upd (B 65) op (nI n9))) 66 vr77) 67 vf78) gh nd T nm wr lz dc fd md pr bk M rmm fu mu (op + 1) ((tp - q9) - 1) wn fu5 rd on idn fl ct ((-1) : Int32) nw73 (1 : Int32) uc0 := (by obtain ⟨bz, hz1, hz2⟩ := Rdy.opens (Z := (updA (updA (updA (updA (updA (updA (updA B 54 co60) 62 (upd (B 62) op (nI x9))) 63 (upd (B 63) op (nI q9))) 64 (upd (upd (B 64) op (nI (tp - q9))) ((op + 1) - 1) (nI ((tp - q9) - 1)))) 65 (upd (B 65) op (nI n9))) 66 vr77) 67 vf78)) (uc := uc0) (mu2 := mu) hY2 hg11 hop hd6 (by omega) (Sta.up (Sta.up (Sta.up (Sta.up (Sta.up (Sta.up Sta.rfl (by omega)) (by omega)) (by omega)) (by omega)) (by omega)) (by omega)) hY2.2.1 ⟨rfl, rfl, rfl, rfl, rfl, rfl⟩ rfl rfl ⟨fun i h => (if_neg (by omega)).trans (if_neg (by omega)), by show upd _ (op + 1 - 1) _ op = _; rw [show op + 1 - 1 = op by omega]; exact upd_eq⟩ rfl ho4 (by have z : ArgF B (B 67) vf78 (32 * op) p8 q9 := ho5; unfold ArgF at z ⊢; rw [hw47, hw21] at z; exact z) ⟨rfl, rfl⟩ ⟨rfl, rfl, rfl⟩ h8; rw [ho10, hw42, hz1]; exact hz2)
        have hP : va_P G.1 pCl (mW G h0 a (upd (upd (upd (upd (upd (upd (upd (upd (upd (upd (upd (upd F 49 (nI md)) 102 (nI (op + 1))) 111 (nI ((tp - q9) - 1))) 115 (nI wn)) 116 ((-1) : Int32)) 117 (nI fu5)) 118 rs0) 119 uc0) 123 ca75) 124 mo76) 125 nw73) 126 (1 : Int32)) (updA (updA (updA (updA (updA (updA (updA B 54 co60) 62 (upd (B 62) op (nI x9))) 63 (upd (B 63) op (nI q9))) 64 (upd (upd (B 64) op (nI (tp - q9))) ((op + 1) - 1) (nI ((tp - q9) - 1)))) 65 (upd (B 65) op (nI n9))) 66 vr77) 67 vf78)) _ := mW_to (F := F) (l1 := [(49, (nI md)), (102, (nI (op + 1))), (111, (nI (tp - q9))), (115, (nI wn)), (116, (-1)), (117, (nI fu5)), (118, rs0), (119, uc0), (123, ca75), (124, mo76), (125, nw73), (126, 1), (111, (nI ((tp - q9) - 1)))]) (l2 := [(49, (nI md)), (102, (nI (op + 1))), (111, (nI ((tp - q9) - 1))), (115, (nI wn)), (116, ((-1) : Int32)), (117, (nI fu5)), (118, rs0), (119, uc0), (123, ca75), (124, mo76), (125, nw73), (126, (1 : Int32))]) (V := [(nI md), (nI (op + 1)), (nI ((tp - q9) - 1)), (nI wn), ((-1) : Int32), (nI fu5), rs0, uc0, ca75, mo76, nw73, (1 : Int32), (nI ((tp - q9) - 1)), (nI md), (nI (op + 1)), (nI ((tp - q9) - 1)), (nI wn), ((-1) : Int32), (nI fu5), rs0, uc0, ca75, mo76, nw73, (1 : Int32)]) rfl rfl (show (updA (updA (updA (updA (updA (updA (updA (updA B 54 co60) 62 (upd (B 62) op (nI x9))) 63 (upd (B 63) op (nI q9))) 64 (upd (B 64) op (nI (tp - q9)))) 65 (upd (B 65) op (nI n9))) 66 vr77) 67 vf78) 64 (upd (upd (B 64) op (nI (tp - q9))) ((op + 1) - 1) (nI ((tp - q9) - 1)))) = (updA (updA (updA (updA (updA (updA (updA B 54 co60) 62 (upd (B 62) op (nI x9))) 63 (upd (B 63) op (nI q9))) 64 (upd (upd (B 64) op (nI (tp - q9))) ((op + 1) - 1) (nI ((tp - q9) - 1)))) 65 (upd (B 65) op (nI n9))) 66 vr77) 67 vf78) from updsA_eq2 (F := B) (l1 := [(54, co60), (62, (upd (B 62) op (nI x9))), (63, (upd (B 63) op (nI q9))), (64, (upd (B 64) op (nI (tp - q9)))), (65, (upd (B 65) op (nI n9))), (66, vr77), (67, vf78), (64, (upd (upd (B 64) op (nI (tp - q9))) ((op + 1) - 1) (nI ((tp - q9) - 1))))]) (l2 := [(54, co60), (62, (upd (B 62) op (nI x9))), (63, (upd (B 63) op (nI q9))), (64, (upd (upd (B 64) op (nI (tp - q9))) ((op + 1) - 1) (nI ((tp - q9) - 1)))), (65, (upd (B 65) op (nI n9))), (66, vr77), (67, vf78)]) (V := [co60, (upd (B 62) op (nI x9)), (upd (B 63) op (nI q9)), (upd (upd (B 64) op (nI (tp - q9))) ((op + 1) - 1) (nI ((tp - q9) - 1))), (upd (B 65) op (nI n9)), vr77, vf78, (upd (upd (B 64) op (nI (tp - q9))) ((op + 1) - 1) (nI ((tp - q9) - 1))), co60, (upd (B 62) op (nI x9)), (upd (B 63) op (nI q9)), (upd (upd (B 64) op (nI (tp - q9))) ((op + 1) - 1) (nI ((tp - q9) - 1))), (upd (B 65) op (nI n9)), vr77, vf78]) rfl rfl) hP
        have hD : va_D A (mW G h0 a (upd (upd (upd (upd (upd (upd (upd (upd (upd (upd (upd (upd F 49 (nI md)) 102 (nI (op + 1))) 111 (nI ((tp - q9) - 1))) 115 (nI wn)) 116 ((-1) : Int32)) 117 (nI fu5)) 118 rs0) 119 uc0) 123 ca75) 124 mo76) 125 nw73) 126 (1 : Int32)) (updA (updA (updA (updA (updA (updA (updA B 54 co60) 62 (upd (B 62) op (nI x9))) 63 (upd (B 63) op (nI q9))) 64 (upd (upd (B 64) op (nI (tp - q9))) ((op + 1) - 1) (nI ((tp - q9) - 1)))) 65 (upd (B 65) op (nI n9))) 66 vr77) 67 vf78)) := mW_D hD
        exact W.vret hx hb hr (fun t9 ht9 hW9 => ⟨⟨_, ((op + 1), ((tp - q9) - 1), wn, fu5, ((-1) : Int32), nw73, (1 : Int32), rs0, uc0, ca75, mo76, (updA (updA (updA (updA (updA (updA (updA B 54 co60) 62 (upd (B 62) op (nI x9))) 63 (upd (B 63) op (nI q9))) 64 (upd (upd (B 64) op (nI (tp - q9))) ((op + 1) - 1) (nI ((tp - q9) - 1)))) 65 (upd (B 65) op (nI n9))) 66 vr77) 67 vf78)), rfl, ⟨rfl, hz97⟩, by rw [ht9]; exact hP, hD⟩, hS.F ht9⟩) hS.2.2 dX12_invokes_168

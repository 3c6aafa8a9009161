theorem dX12_invokes_83 : decode cX12_invokes 83 = .ok (.iload_n 2, 1) := by decide +kernel
theorem dX12_invokes_84 : decode cX12_invokes 84 = .ok (.goto 18, 3) := by decide +kernel
set_option maxHeartbeats 16000000 in
set_option maxRecDepth 100000 in
/-- invokes(n), kind 8 -/
theorem R_invokes8 (l : Launch) (G : pT) (h0 : Nat) (a : Nat → Nat) (F : Nat → Int32) (B : Nat → Nat → Int32) (Xs : Nat → Nat → Int32) (gh : Nat → Nat → Nat) (nd : Nat) (T : Nat) (nm : Nat) (wr : Nat) (lz : Nat) (dc : Nat) (fd : Nat) (md : Nat) (pr : Nat) (bk : Nat) (M : MTb) (rmm : Nat) (mu : Nat) (op : Nat) (tp : Nat) (wn : Nat) (fu : Nat) (rd : Nat) (on : Nat) (idn : Nat) (fl : Nat) (ct : Nat) (n9 : Nat) (q9 : Nat) (mt : Nat → Nat) (ps : Nat → Nat) (yy : Nat → Ps) (bf : Nat → Nat) (wf : Nat → Nat) (nw : Int32) (isn : Int32) (rs0 : Int32) (uc0 : Int32) (ca : Int32) (mo : Int32) (hY : Rdy Xs B gh nd T nm wr lz dc fd md pr bk M rmm mu op tp wn fu rd on idn fl ct n9 mt ps yy bf wf q9 0) (hfu : fu ≤ 20000) (hkd : Xs 9 n9 = nI 8) : PM l G pX0 yX12_invokes cX12_invokes 6 none ({ frames := 4, cells := 0, slots := 0, locals := 105 }) [.ref h0, .int (nI n9)] (mW G h0 a (upd (upd (upd (upd (upd (upd (upd (upd (upd (upd (upd (upd F 49 (nI md)) 102 (nI op)) 111 (nI tp)) 115 (nI wn)) 116 (-1)) 117 (nI fu)) 118 rs0) 119 uc0) 123 ca) 124 mo) 125 nw) 126 isn) B) (fun (v : Option Value) (u : Nat × Nat × Nat × Nat × Int32 × Int32 × Int32 × Int32 × Int32 × Int32 × Int32 × (Nat → Nat → Int32)) => v = none ∧ (Nx Xs u.2.2.2.2.2.2.2.2.2.2.2 gh nd T nm wr lz dc fd md pr bk M rmm fu mu u.1 u.2.1 u.2.2.1 u.2.2.2.1 rd on idn fl ct u.2.2.2.2.1 u.2.2.2.2.2.1 u.2.2.2.2.2.2.1 u.2.2.2.2.2.2.2.2.1)) (fun u => (mW G h0 a (upd (upd (upd (upd (upd (upd (upd (upd (upd (upd (upd (upd F 49 (nI md)) 102 (nI u.1)) 111 (nI u.2.1)) 115 (nI u.2.2.1)) 116 u.2.2.2.2.1) 117 (nI u.2.2.2.1)) 118 u.2.2.2.2.2.2.2.1) 119 u.2.2.2.2.2.2.2.2.1) 123 u.2.2.2.2.2.2.2.2.2.1) 124 u.2.2.2.2.2.2.2.2.2.2.1) 125 u.2.2.2.2.2.1) 126 u.2.2.2.2.2.2.1) u.2.2.2.2.2.2.2.2.2.2.2)) := by
  intro sz
  refine Met.ofW (cc := cX12_invokes) (maxL := 6) (ret := none) (by decide) rfl ?_
  intro p e s m args below meth c s₁ B9 hml hv
  obtain ⟨rfl, hsz, hP, hD0, hE, hX⟩ := hv
  have hx := B9.exec
  have hb := B9.bytes
  have hr := B9.returns
  have hts := atoms_spec (ws := Cond.code yX12_invokes cX12_invokes 6 none :: pw) B9.pre
  have hq : ∀ w ∈ pw, w.before _ s = true := fun w h => hts w (List.mem_cons_of_mem _ h)
  have hown : s.vm.findClass RX12 = some m.cls := findClass_of_methodNamed B9.named
  have hlocks := B9.notSynchronized
  subst hsz
  have hD := hD0.self (sz := s.heap.size)
  have hA : ∀ q : Nat, s.heap.size ≤ q → va_A (mW G h0 a (upd (upd (upd (upd (upd (upd (upd (upd (upd (upd (upd (upd F 49 (nI md)) 102 (nI op)) 111 (nI tp)) 115 (nI wn)) 116 (-1)) 117 (nI fu)) 118 rs0) 119 uc0) 123 ca) 124 mo) 125 nw) 126 isn) B) s.heap.size q := fun q h => Or.inr h
  have hP : va_P G.1 pCl (mW G h0 a (upd (upd (upd (upd (upd (upd (upd (upd (upd (upd (upd (upd F 49 (nI md)) 102 (nI op)) 111 (nI tp)) 115 (nI wn)) 116 (-1)) 117 (nI fu)) 118 rs0) 119 uc0) 123 ca) 124 mo) 125 nw) 126 isn) B) s.heap := hP
  generalize va_A (mW G h0 a (upd (upd (upd (upd (upd (upd (upd (upd (upd (upd (upd (upd F 49 (nI md)) 102 (nI op)) 111 (nI tp)) 115 (nI wn)) 116 (-1)) 117 (nI fu)) 118 rs0) 119 uc0) 123 ca) 124 mo) 125 nw) 126 isn) B) s.heap.size = A at hD hE hA ⊢
  have hS : va_S A s.heap s.heap [] := va_S.rf
  have hl := lv_entry ([.ref h0, .int (nI n9)]) (n := 6) (Nat.le_of_ble_eq_true rfl)
  rw [lg_entry_eq]
  generalize (lg_sl ([.ref h0, .int (nI n9)]) ++ List.replicate (6 - (lg_sl ([.ref h0, .int (nI n9)])).length) Slot.unset).toArray = ls at hl ⊢
  have hl : lv_has ls 6 [(0, .ref h0), (1, .int (nI n9))] := hl
  have hPg := hY.1
  have hbd := hPg.bd
  obtain ⟨hr1, hr2, hr3, hr4, hr5, hr6, hr7, hr8, m9, hm1, hm2, hm3⟩ := hY.bd
  have hw9 : B 9 = Xs 9 := hPg.row 9 (by omega) (by omega) (by omega) (by omega) (by omega)
  have hw21 : B 21 = Xs 21 := hPg.row 21 (by omega) (by omega) (by omega) (by omega) (by omega)
  have hw29 : B 29 = Xs 29 := hPg.row 29 (by omega) (by omega) (by omega) (by omega) (by omega)
  have hw36 : B 36 = Xs 36 := hPg.row 36 (by omega) (by omega) (by omega) (by omega) (by omega)
  have hw37 : B 37 = Xs 37 := hPg.row 37 (by omega) (by omega) (by omega) (by omega) (by omega)
  have hw40 : B 40 = Xs 40 := hPg.row 40 (by omega) (by omega) (by omega) (by omega) (by omega)
  have hw41 : B 41 = Xs 41 := hPg.row 41 (by omega) (by omega) (by omega) (by omega) (by omega)
  have hw42 : B 42 = Xs 42 := hPg.row 42 (by omega) (by omega) (by omega) (by omega) (by omega)
  have hw47 : B 47 = Xs 47 := hPg.row 47 (by omega) (by omega) (by omega) (by omega) (by omega)
  refine lv_aload_n hx hb dX12_invokes_0 rfl (lv_at hl 0 rfl) ?_
  have hP : va_P G.1 pCl (mW G h0 a (upd (upd (upd (upd (upd (upd (upd (upd (upd (upd (upd (upd (upd (upd F 49 (nI md)) 102 (nI op)) 111 (nI tp)) 115 (nI wn)) 116 (-1)) 117 (nI fu)) 118 rs0) 119 uc0) 123 ca) 124 mo) 125 nw) 126 isn) 116 (-1)) 117 (nI fu)) B) _ := mW_to (F := F) (l1 := [(49, (nI md)), (102, (nI op)), (111, (nI tp)), (115, (nI wn)), (116, (-1)), (117, (nI fu)), (118, rs0), (119, uc0), (123, ca), (124, mo), (125, nw), (126, isn)]) (l2 := [(49, (nI md)), (102, (nI op)), (111, (nI tp)), (115, (nI wn)), (116, (-1)), (117, (nI fu)), (118, rs0), (119, uc0), (123, ca), (124, mo), (125, nw), (126, isn), (116, (-1)), (117, (nI fu))]) (V := [(nI md), (nI op), (nI tp), (nI wn), (-1), (nI fu), rs0, uc0, ca, mo, nw, isn, (nI md), (nI op), (nI tp), (nI wn), (-1), (nI fu), rs0, uc0, ca, mo, nw, isn, (-1), (nI fu)]) rfl rfl rfl hP
  have hD : va_D A (mW G h0 a (upd (upd (upd (upd (upd (upd (upd (upd (upd (upd (upd (upd (upd (upd F 49 (nI md)) 102 (nI op)) 111 (nI tp)) 115 (nI wn)) 116 (-1)) 117 (nI fu)) 118 rs0) 119 uc0) 123 ca) 124 mo) 125 nw) 126 isn) 116 (-1)) 117 (nI fu)) B) := mW_D hD
  refine pc_V0 (G := G) (As := []) (rest := []) hx hb hml hown hq hE hX pX0_al hP hD hS hA hl.1 (R_pays l G h0 a (upd (upd (upd (upd (upd (upd (upd (upd (upd (upd (upd (upd F 49 (nI md)) 102 (nI op)) 111 (nI tp)) 115 (nI wn)) 116 (-1)) 117 (nI fu)) 118 rs0) 119 uc0) 123 ca) 124 mo) 125 nw) 126 isn) B fu (-1) (by omega)) (gV pw_2026 pw_2027 pw_2028 pw_1523 pw_2000) hV_X12_pays 0 9 rfl rfl rfl rfl (Nat.le_of_ble_eq_true rfl) dX12_invokes_1 ⟨Nat.le_of_ble_eq_true rfl, Nat.le_of_ble_eq_true rfl⟩ ⟨Nat.le_of_ble_eq_true rfl, Nat.le_of_ble_eq_true rfl⟩ (fun v3 u1 H locs hw2 hP hD hS => ?_)
  obtain ⟨r4, fu5, en6⟩ := u1
  obtain ⟨hw2, h7, h8, h9, h10⟩ := hw2
  replace h7 : r4 ≤ 1 := h7
  replace h8 : fu5 + r4 = fu := h8
  replace h9 : If (r4 = 1) (en6 = (-1)) := h9
  replace h10 : If (r4 = 0) (en6 = 2) := h10
  obtain rfl : v3 = some (.int (nI r4)) := hw2
  have hP : va_P G.1 pCl (mW G h0 a (upd (upd (upd (upd (upd (upd (upd (upd (upd (upd (upd (upd F 49 (nI md)) 102 (nI op)) 111 (nI tp)) 115 (nI wn)) 116 en6) 117 (nI fu5)) 118 rs0) 119 uc0) 123 ca) 124 mo) 125 nw) 126 isn) B) _ := mW_to (F := F) (l1 := [(49, (nI md)), (102, (nI op)), (111, (nI tp)), (115, (nI wn)), (116, (-1)), (117, (nI fu)), (118, rs0), (119, uc0), (123, ca), (124, mo), (125, nw), (126, isn), (116, en6), (117, (nI fu5))]) (l2 := [(49, (nI md)), (102, (nI op)), (111, (nI tp)), (115, (nI wn)), (116, en6), (117, (nI fu5)), (118, rs0), (119, uc0), (123, ca), (124, mo), (125, nw), (126, isn)]) (V := [(nI md), (nI op), (nI tp), (nI wn), en6, (nI fu5), rs0, uc0, ca, mo, nw, isn, en6, (nI fu5), (nI md), (nI op), (nI tp), (nI wn), en6, (nI fu5), rs0, uc0, ca, mo, nw, isn]) rfl rfl rfl hP
  have hD : va_D A (mW G h0 a (upd (upd (upd (upd (upd (upd (upd (upd (upd (upd (upd (upd F 49 (nI md)) 102 (nI op)) 111 (nI tp)) 115 (nI wn)) 116 en6) 117 (nI fu5)) 118 rs0) 119 uc0) 123 ca) 124 mo) 125 nw) 126 isn) B) := mW_D hD
  refine W.widen (k := 0) (n := 0) (Nat.le_of_ble_eq_true rfl) (Nat.le_of_ble_eq_true rfl) ?_
  refine W.eq (g2 := F0 m 4 ls [.int (nI r4)]) rfl ?_
  rcases (show r4 = 0 ∨ r4 = 1 by omega) with hr0 | hr0
  · have hen := h10 hr0
    subst hr0
    have hP : va_P G.1 pCl (mW G h0 a (upd (upd (upd (upd (upd (upd (upd (upd (upd (upd (upd (upd F 49 (nI md)) 102 (nI op)) 111 (nI tp)) 115 (nI wn)) 116 en6) 117 (nI fu5)) 118 rs0) 119 uc0) 123 ca) 124 mo) 125 nw) 126 isn) B) _ := hP
    have hD : va_D A (mW G h0 a (upd (upd (upd (upd (upd (upd (upd (upd (upd (upd (upd (upd F 49 (nI md)) 102 (nI op)) 111 (nI tp)) 115 (nI wn)) 116 en6) 117 (nI fu5)) 118 rs0) 119 uc0) 123 ca) 124 mo) 125 nw) 126 isn) B) := mW_D hD
    refine W.eq (g2 := F0 m 4 ls [.int 0]) rfl ?_
    refine lv_if_ne (tgt := 8) hx hb dX12_invokes_4 (by decide) (fun c11 => absurd c11 (by decide)) (fun c11 => ?_)
    have hz12 : Nx Xs B gh nd T nm wr lz dc fd md pr bk M rmm fu mu op tp wn fu5 rd on idn fl ct en6 nw isn uc0 := (hY.stop (by rw [hen]; decide) (by rw [hen]; decide))
    have hP : va_P G.1 pCl (mW G h0 a (upd (upd (upd (upd (upd (upd (upd (upd (upd (upd (upd (upd F 49 (nI md)) 102 (nI op)) 111 (nI tp)) 115 (nI wn)) 116 en6) 117 (nI fu5)) 118 rs0) 119 uc0) 123 ca) 124 mo) 125 nw) 126 isn) B) _ := hP
    have hD : va_D A (mW G h0 a (upd (upd (upd (upd (upd (upd (upd (upd (upd (upd (upd (upd F 49 (nI md)) 102 (nI op)) 111 (nI tp)) 115 (nI wn)) 116 en6) 117 (nI fu5)) 118 rs0) 119 uc0) 123 ca) 124 mo) 125 nw) 126 isn) B) := mW_D hD
    exact W.vret hx hb hr (fun t9 ht9 hW9 => ⟨⟨_, (op, tp, wn, fu5, en6, nw, isn, rs0, uc0, ca, mo, B), rfl, ⟨rfl, hz12⟩, by rw [ht9]; exact hP, hD⟩, hS.F ht9⟩) hS.2.2 dX12_invokes_7
  · obtain rfl : en6 = _ := h9 hr0
    subst hr0
    have hP : va_P G.1 pCl (mW G h0 a (upd (upd (upd (upd (upd (upd (upd (upd (upd (upd (upd (upd F 49 (nI md)) 102 (nI op)) 111 (nI tp)) 115 (nI wn)) 116 (-1)) 117 (nI fu5)) 118 rs0) 119 uc0) 123 ca) 124 mo) 125 nw) 126 isn) B) _ := hP
    have hD : va_D A (mW G h0 a (upd (upd (upd (upd (upd (upd (upd (upd (upd (upd (upd (upd F 49 (nI md)) 102 (nI op)) 111 (nI tp)) 115 (nI wn)) 116 (-1)) 117 (nI fu5)) 118 rs0) 119 uc0) 123 ca) 124 mo) 125 nw) 126 isn) B) := mW_D hD
    refine W.eq (g2 := F0 m 4 ls [.int 1]) rfl ?_
    refine lv_if_ne (tgt := 8) hx hb dX12_invokes_4 (by decide) (fun c13 => ?_) (fun c13 => absurd c13 (by decide))
    refine lv_aload_n hx hb dX12_invokes_8 rfl (lv_at hl 0 rfl) ?_
    refine r_get (v := .ref (a 18)) hx hb hown hq hE hP 26 65 tFX12_26 (by decide) pw_1448 rfl dX12_invokes_9 ?_
    refine lv_iload_n hx hb dX12_invokes_12 rfl (lv_at hl 1 rfl) ?_
    refine r_ldi (f := (B 18)) (j := n9) hx hb hE hP 18 (ma_18 G a _) rfl (by omega) (by decide) dX12_invokes_13 ?_
    refine lv_topi (fun x14 e15 => ?_)
    obtain rfl : x14 = nI m9 := e15.trans hm1
    refine lv_istore_n (lv' := [(2, .int (nI m9)), (0, .ref h0), (1, .int (nI n9))]) hx hb dX12_invokes_14 rfl hl (by decide) rfl (fun ls hl => ?_)
    refine lv_aload_n hx hb dX12_invokes_15 rfl (lv_at hl 1 rfl) ?_
    refine r_get (v := .ref (a 9)) hx hb hown hq hE hP 17 38 tFX12_17 (by decide) pw_1439 rfl dX12_invokes_16 ?_
    refine lv_iload_n hx hb dX12_invokes_19 rfl (lv_at hl 2 rfl) ?_
    refine r_ldi (f := (B 9)) (j := n9) hx hb hE hP 9 (ma_9 G a _) rfl (by omega) (by decide) dX12_invokes_20 ?_
    refine lv_topi (fun x16 e17 => ?_)
    obtain rfl : x16 = 8 := e17.trans ((congrFun hw9 _).trans hkd)
    refine lv_bipush (v := 14) hx hb dX12_invokes_21 (by decide) ?_
    refine lv_icmp_ne (tgt := 47) hx hb dX12_invokes_23 (by decide) (fun c18 => ?_) (fun c18 => absurd c18 (by decide))
    refine lv_aload_n hx hb dX12_invokes_47 rfl (lv_at hl 1 rfl) ?_
    refine r_get (v := .ref (a 62)) hx hb hown hq hE hP 103 199 tFX12_103 (by decide) pw_1494 rfl dX12_invokes_48 ?_
    refine lv_aload_n hx hb dX12_invokes_51 rfl (lv_at hl 1 rfl) ?_
    refine r_get (v := .int (nI op)) hx hb hown hq hE hP 102 707 tFX12_102 (by decide) pw_1969 rfl dX12_invokes_52 ?_
    refine lv_iconst (v := 1) hx hb dX12_invokes_55 (by decide) ?_
    refine lv_isub hx hb dX12_invokes_56 ?_
    refine lv_topi (fun x19 e20 => ?_)
    obtain rfl : x19 = nI (op - 1) := e20.trans (nI_subN (a := 1) (b := op) (by omega))
    refine r_ldi (f := (B 62)) (j := (op - 1)) hx hb hE hP 62 (ma_62 G a _) rfl (by omega) (by decide) dX12_invokes_57 ?_
    obtain ⟨m8, hg1, hg2, hg3, hg11, hg12⟩ := hY.sup hkd
    obtain rfl : m8 = m9 := (nI_eq (by omega) (by omega)).mp (hg1.symm.trans hm1)
    have hl : lv_has ls 6 [(2, .int (nI m8)), (0, .ref h0), (1, .int (nI n9))] := hl
    refine lv_istore_n (lv' := [(3, .int ((B 62) (op - 1))), (2, .int (nI m8)), (0, .ref h0), (1, .int (nI n9))]) hx hb dX12_invokes_58 rfl hl (by decide) rfl (fun ls hl => ?_)
    refine lv_iload_n hx hb dX12_invokes_59 rfl (lv_at hl 0 rfl) ?_
    refine lv_if_ne (tgt := 72) hx hb dX12_invokes_60 (by decide) (fun c21 => ?_) (fun c21 => absurd c21 hr8)
    refine lv_aload_n hx hb dX12_invokes_72 rfl (lv_at hl 2 rfl) ?_
    refine r_get (v := .ref (a 9)) hx hb hown hq hE hP 17 38 tFX12_17 (by decide) pw_1439 rfl dX12_invokes_73 ?_
    refine lv_iload_n hx hb dX12_invokes_76 rfl (lv_at hl 3 rfl) ?_
    refine r_ldi (f := (B 9)) (j := n9) hx hb hE hP 9 (ma_9 G a _) rfl (by omega) (by decide) dX12_invokes_77 ?_
    refine lv_topi (fun x22 e23 => ?_)
    obtain rfl : x22 = 8 := e23.trans ((congrFun hw9 _).trans hkd)
    refine lv_bipush (v := 8) hx hb dX12_invokes_78 (by decide) ?_
    refine lv_icmp_ne (tgt := 87) hx hb dX12_invokes_80 (by decide) (fun c24 => absurd c24 (by decide)) (fun c24 => ?_)
    refine lv_iload_n hx hb dX12_invokes_83 rfl (lv_at hl 1 rfl) ?_
    refine lv_goto (tgt := 102) hx hb dX12_invokes_84 (by decide) ?_
    refine lv_istore (lv' := [(4, .int (nI m8)), (3, .int ((B 62) (op - 1))), (2, .int (nI m8)), (0, .ref h0), (1, .int (nI n9))]) hx hb dX12_invokes_102 hl (by decide) rfl (fun ls hl => ?_)
    refine lv_aload_n hx hb dX12_invokes_104 rfl (lv_at hl 3 rfl) ?_
    refine r_get (v := .ref (a 9)) hx hb hown hq hE hP 17 38 tFX12_17 (by decide) pw_1439 rfl dX12_invokes_105 ?_
    refine lv_iload_n hx hb dX12_invokes_108 rfl (lv_at hl 4 rfl) ?_
    refine r_ldi (f := (B 9)) (j := n9) hx hb hE hP 9 (ma_9 G a _) rfl (by omega) (by decide) dX12_invokes_109 ?_
    refine lv_topi (fun x25 e26 => ?_)
    obtain rfl : x25 = 8 := e26.trans ((congrFun hw9 _).trans hkd)
    refine lv_bipush (v := 14) hx hb dX12_invokes_110 (by decide) ?_
    refine lv_icmp_ne (tgt := 119) hx hb dX12_invokes_112 (by decide) (fun c27 => ?_) (fun c27 => absurd c27 (by decide))
    refine lv_iconst (v := 0) hx hb dX12_invokes_119 (by decide) ?_
    refine lv_istore (lv' := [(5, .int 0), (4, .int (nI m8)), (3, .int ((B 62) (op - 1))), (2, .int (nI m8)), (0, .ref h0), (1, .int (nI n9))]) hx hb dX12_invokes_120 hl (by decide) rfl (fun ls hl => ?_)
    refine lv_aload_n hx hb dX12_invokes_122 rfl (lv_at hl 4 rfl) ?_
    refine lv_iload hx hb dX12_invokes_123 (lv_at hl 1 rfl) ?_
    refine lv_iload_n hx hb dX12_invokes_125 rfl (lv_at hl 2 rfl) ?_
    refine lv_iload_n hx hb dX12_invokes_126 rfl (lv_at hl 5 rfl) ?_
    have hg13 := hg11
    obtain ⟨⟨hd1, hd2⟩, hd3, hd4, hd5, p8, hd6, hd7, hd8, hd9⟩ := hg13
    have hpt9 : ∀ i : Nat, i < q9 → ∃ y t : Nat, B 47 (p8 + i) = nI y ∧ y < 5000 ∧ B 21 y = nI t ∧ t ≤ 2050 := by rw [hw47, hw21]; exact hd8
    have hP : va_P G.1 pCl (mW G h0 a (upd (upd (upd (upd (upd (upd (upd (upd (upd (upd (upd (upd (upd (upd (upd (upd (upd (upd (upd F 49 (nI md)) 102 (nI op)) 111 (nI tp)) 115 (nI wn)) 116 (-1)) 117 (nI fu5)) 118 rs0) 119 uc0) 123 ca) 124 mo) 125 nw) 126 isn) 102 (nI op)) 111 (nI tp)) 116 (-1)) 123 ca) 124 mo) 125 nw) 126 isn) (updA (updA (updA (updA (updA (updA B 62 (B 62)) 63 (B 63)) 64 (B 64)) 65 (B 65)) 66 (B 66)) 67 (B 67))) _ := mW_to (F := F) (l1 := [(49, (nI md)), (102, (nI op)), (111, (nI tp)), (115, (nI wn)), (116, (-1)), (117, (nI fu5)), (118, rs0), (119, uc0), (123, ca), (124, mo), (125, nw), (126, isn)]) (l2 := [(49, (nI md)), (102, (nI op)), (111, (nI tp)), (115, (nI wn)), (116, (-1)), (117, (nI fu5)), (118, rs0), (119, uc0), (123, ca), (124, mo), (125, nw), (126, isn), (102, (nI op)), (111, (nI tp)), (116, (-1)), (123, ca), (124, mo), (125, nw), (126, isn)]) (V := [(nI md), (nI op), (nI tp), (nI wn), (-1), (nI fu5), rs0, uc0, ca, mo, nw, isn, (nI md), (nI op), (nI tp), (nI wn), (-1), (nI fu5), rs0, uc0, ca, mo, nw, isn, (nI op), (nI tp), (-1), ca, mo, nw, isn]) rfl rfl (show B = (updA (updA (updA (updA (updA (updA B 62 (B 62)) 63 (B 63)) 64 (B 64)) 65 (B 65)) 66 (B 66)) 67 (B 67)) from updsA_eq2 (F := B) (l1 := []) (l2 := [(62, (B 62)), (63, (B 63)), (64, (B 64)), (65, (B 65)), (66, (B 66)), (67, (B 67))]) (V := [(B 62), (B 63), (B 64), (B 65), (B 66), (B 67)]) rfl rfl) hP
    have hD : va_D A (mW G h0 a (upd (upd (upd (upd (upd (upd (upd (upd (upd (upd (upd (upd (upd (upd (upd (upd (upd (upd (upd F 49 (nI md)) 102 (nI op)) 111 (nI tp)) 115 (nI wn)) 116 (-1)) 117 (nI fu5)) 118 rs0) 119 uc0) 123 ca) 124 mo) 125 nw) 126 isn) 102 (nI op)) 111 (nI tp)) 116 (-1)) 123 ca) 124 mo) 125 nw) 126 isn) (updA (updA (updA (updA (updA (updA B 62 (B 62)) 63 (B 63)) 64 (B 64)) 65 (B 65)) 66 (B 66)) 67 (B 67))) := mW_D hD
    refine pc_V0 (G := G) (As := [.int (nI m8), .int ((B 62) (op - 1)), .int (nI n9)]) (rest := []) hx hb hml hown hq hE hX pX0_al hP hD hS hA hl.1 (R_opens l G h0 a (upd (upd (upd (upd (upd (upd (upd (upd (upd (upd (upd (upd F 49 (nI md)) 102 (nI op)) 111 (nI tp)) 115 (nI wn)) 116 (-1)) 117 (nI fu5)) 118 rs0) 119 uc0) 123 ca) 124 mo) 125 nw) 126 isn) B m8 op tp q9 p8 ((B 62) (op - 1)) (nI n9) (-1) nw isn ca mo (B 66) (B 67) (B 62) (B 63) (B 64) (B 65) (by omega) (by omega) ((congrFun hw41 _).trans hd3) (by omega) ((congrFun hw40 _).trans hd6) (by omega) hpt9) (gV pw_2060 pw_2061 pw_2062 pw_1523 pw_2019) hV_X12_opens 0 9 rfl rfl rfl rfl (Nat.le_of_ble_eq_true rfl) dX12_invokes_127 ⟨Nat.le_of_ble_eq_true rfl, Nat.le_of_ble_eq_true rfl⟩ ⟨Nat.le_of_ble_eq_true rfl, Nat.le_of_ble_eq_true rfl⟩ (fun v30 u28 H locs hw29 hP hD hS => ?_)
    obtain ⟨op31, tp32, en33, nw34, is35, ca36, mo37, vr38, vf39, cth40, csc41, cvl42, cnd43⟩ := u28
    obtain ⟨hw29, h44, h45⟩ := hw29
    replace h44 : If (op = 100) (en33 = 4 ∧ op31 = op ∧ tp32 = tp ∧ vr38 = (B 66) ∧ vf39 = (B 67) ∧ cth40 = (B 62) ∧ csc41 = (B 63) ∧ cvl42 = (B 64) ∧ cnd43 = (B 65)) := h44
    replace h45 : If (op < 100) (en33 = (-1) ∧ op31 = op + 1 ∧ tp32 = tp - q9 ∧ nw34 = (B 42) m8 ∧ is35 = 1 ∧ ArgV ((B 68)) (B 66) vr38 (32 * op) (tp - q9) q9 ∧ ArgF B (B 67) vf39 (32 * op) p8 q9 ∧ cth40 = upd (B 62) op ((B 62) (op - 1)) ∧ csc41 = upd (B 63) op (nI q9) ∧ cvl42 = upd (B 64) op (nI (tp - q9)) ∧ cnd43 = upd (B 65) op (nI n9)) := h45
    obtain rfl : v30 = none := hw29
    have hP : va_P G.1 pCl (mW G h0 a (upd (upd (upd (upd (upd (upd (upd (upd (upd (upd (upd (upd F 49 (nI md)) 102 (nI op31)) 111 (nI tp32)) 115 (nI wn)) 116 en33) 117 (nI fu5)) 118 rs0) 119 uc0) 123 ca36) 124 mo37) 125 nw34) 126 is35) (updA (updA (updA (updA (updA (updA B 62 cth40) 63 csc41) 64 cvl42) 65 cnd43) 66 vr38) 67 vf39)) _ := mW_to (F := F) (l1 := [(49, (nI md)), (102, (nI op)), (111, (nI tp)), (115, (nI wn)), (116, (-1)), (117, (nI fu5)), (118, rs0), (119, uc0), (123, ca), (124, mo), (125, nw), (126, isn), (102, (nI op31)), (111, (nI tp32)), (116, en33), (123, ca36), (124, mo37), (125, nw34), (126, is35)]) (l2 := [(49, (nI md)), (102, (nI op31)), (111, (nI tp32)), (115, (nI wn)), (116, en33), (117, (nI fu5)), (118, rs0), (119, uc0), (123, ca36), (124, mo37), (125, nw34), (126, is35)]) (V := [(nI md), (nI op31), (nI tp32), (nI wn), en33, (nI fu5), rs0, uc0, ca36, mo37, nw34, is35, (nI op31), (nI tp32), en33, ca36, mo37, nw34, is35, (nI md), (nI op31), (nI tp32), (nI wn), en33, (nI fu5), rs0, uc0, ca36, mo37, nw34, is35]) rfl rfl rfl hP
    have hD : va_D A (mW G h0 a (upd (upd (upd (upd (upd (upd (upd (upd (upd (upd (upd (upd F 49 (nI md)) 102 (nI op31)) 111 (nI tp32)) 115 (nI wn)) 116 en33) 117 (nI fu5)) 118 rs0) 119 uc0) 123 ca36) 124 mo37) 125 nw34) 126 is35) (updA (updA (updA (updA (updA (updA B 62 cth40) 63 csc41) 64 cvl42) 65 cnd43) 66 vr38) 67 vf39)) := mW_D hD
    refine W.widen (k := 0) (n := 0) (Nat.le_of_ble_eq_true rfl) (Nat.le_of_ble_eq_true rfl) ?_
    refine W.eq (g2 := F0 m 130 ls []) rfl ?_
    rcases (show op = 100 ∨ op < 100 by omega) with hop | hop
    · obtain ⟨ho1, ho2, ho3, ho4, ho5, ho6, ho7, ho8, ho9⟩ := h44 hop
      subst ho1
      replace ho2 := ho2.symm; subst ho2
      replace ho3 := ho3.symm; subst ho3
      subst ho4
      subst ho5
      subst ho6
      subst ho7
      subst ho8
      subst ho9
      have hP : va_P G.1 pCl (mW G h0 a (upd (upd (upd (upd (upd (upd (upd (upd (upd (upd (upd (upd F 49 (nI md)) 102 (nI op)) 111 (nI tp)) 115 (nI wn)) 116 4) 117 (nI fu5)) 118 rs0) 119 uc0) 123 ca36) 124 mo37) 125 nw34) 126 is35) (updA (updA (updA (updA (updA (updA B 62 (B 62)) 63 (B 63)) 64 (B 64)) 65 (B 65)) 66 (B 66)) 67 (B 67))) _ := hP
      have hD : va_D A (mW G h0 a (upd (upd (upd (upd (upd (upd (upd (upd (upd (upd (upd (upd F 49 (nI md)) 102 (nI op)) 111 (nI tp)) 115 (nI wn)) 116 4) 117 (nI fu5)) 118 rs0) 119 uc0) 123 ca36) 124 mo37) 125 nw34) 126 is35) (updA (updA (updA (updA (updA (updA B 62 (B 62)) 63 (B 63)) 64 (B 64)) 65 (B 65)) 66 (B 66)) 67 (B 67))) := mW_D hD
      refine lv_aload_n hx hb dX12_invokes_130 rfl (lv_at hl 4 rfl) ?_
      refine r_get (v := .int 4) hx hb hown hq hE hP 116 233 tFX12_116 (by decide) pw_1506 rfl dX12_invokes_131 ?_
      refine lv_iconst (v := (-1)) hx hb dX12_invokes_134 (by decide) ?_
      refine lv_icmp_ne (tgt := 168) hx hb dX12_invokes_135 (by decide) (fun c46 => ?_) (fun c46 => absurd c46 (by decide))
      have hz47 : Nx Xs (updA (updA (updA (updA (updA (updA B 62 (B 62)) 63 (B 63)) 64 (B 64)) 65 (B 65)) 66 (B 66)) 67 (B 67)) gh nd T nm wr lz dc fd md pr bk M rmm fu mu op tp wn fu5 rd on idn fl ct (4 : Int32) nw34 is35 uc0 := (Nx.rows (hY.stop (by decide) (by decide)) upd6_id)
      have hP : va_P G.1 pCl (mW G h0 a (upd (upd (upd (upd (upd (upd (upd (upd (upd (upd (upd (upd F 49 (nI md)) 102 (nI op)) 111 (nI tp)) 115 (nI wn)) 116 (4 : Int32)) 117 (nI fu5)) 118 rs0) 119 uc0) 123 ca36) 124 mo37) 125 nw34) 126 is35) (updA (updA (updA (updA (updA (updA B 62 (B 62)) 63 (B 63)) 64 (B 64)) 65 (B 65)) 66 (B 66)) 67 (B 67))) _ := mW_to (F := F) (l1 := [(49, (nI md)), (102, (nI op)), (111, (nI tp)), (115, (nI wn)), (116, 4), (117, (nI fu5)), (118, rs0), (119, uc0), (123, ca36), (124, mo37), (125, nw34), (126, is35)]) (l2 := [(49, (nI md)), (102, (nI op)), (111, (nI tp)), (115, (nI wn)), (116, (4 : Int32)), (117, (nI fu5)), (118, rs0), (119, uc0), (123, ca36), (124, mo37), (125, nw34), (126, is35)]) (V := [(nI md), (nI op), (nI tp), (nI wn), (4 : Int32), (nI fu5), rs0, uc0, ca36, mo37, nw34, is35, (nI md), (nI op), (nI tp), (nI wn), (4 : Int32), (nI fu5), rs0, uc0, ca36, mo37, nw34, is35]) rfl rfl rfl hP
      have hD : va_D A (mW G h0 a (upd (upd (upd (upd (upd (upd (upd (upd (upd (upd (upd (upd F 49 (nI md)) 102 (nI op)) 111 (nI tp)) 115 (nI wn)) 116 (4 : Int32)) 117 (nI fu5)) 118 rs0) 119 uc0) 123 ca36) 124 mo37) 125 nw34) 126 is35) (updA (updA (updA (updA (updA (updA B 62 (B 62)) 63 (B 63)) 64 (B 64)) 65 (B 65)) 66 (B 66)) 67 (B 67))) := mW_D hD
      exact W.vret hx hb hr (fun t9 ht9 hW9 => ⟨⟨_, (op, tp, wn, fu5, (4 : Int32), nw34, is35, rs0, uc0, ca36, mo37, (updA (updA (updA (updA (updA (updA B 62 (B 62)) 63 (B 63)) 64 (B 64)) 65 (B 65)) 66 (B 66)) 67 (B 67))), rfl, ⟨rfl, hz47⟩, by rw [ht9]; exact hP, hD⟩, hS.F ht9⟩) hS.2.2 dX12_invokes_168
    · obtain ⟨ho1, ho2, ho3, ho10, ho11, ho4, ho5, ho6, ho7, ho8, ho9⟩ := h45 hop
      subst ho1
      subst ho2
      subst ho3
      subst ho11
      subst ho6
      subst ho7
      subst ho8
      subst ho9
      have hP : va_P G.1 pCl (mW G h0 a (upd (upd (upd (upd (upd (upd (upd (upd (upd (upd (upd (upd F 49 (nI md)) 102 (nI (op + 1))) 111 (nI (tp - q9))) 115 (nI wn)) 116 (-1)) 117 (nI fu5)) 118 rs0) 119 uc0) 123 ca36) 124 mo37) 125 nw34) 126 1) (updA (updA (updA (updA (updA (updA B 62 (upd (B 62) op ((B 62) (op - 1)))) 63 (upd (B 63) op (nI q9))) 64 (upd (B 64) op (nI (tp - q9)))) 65 (upd (B 65) op (nI n9))) 66 vr38) 67 vf39)) _ := hP
      have hD : va_D A (mW G h0 a (upd (upd (upd (upd (upd (upd (upd (upd (upd (upd (upd (upd F 49 (nI md)) 102 (nI (op + 1))) 111 (nI (tp - q9))) 115 (nI wn)) 116 (-1)) 117 (nI fu5)) 118 rs0) 119 uc0) 123 ca36) 124 mo37) 125 nw34) 126 1) (updA (updA (updA (updA (updA (updA B 62 (upd (B 62) op ((B 62) (op - 1)))) 63 (upd (B 63) op (nI q9))) 64 (upd (B 64) op (nI (tp - q9)))) 65 (upd (B 65) op (nI n9))) 66 vr38) 67 vf39)) := mW_D hD
      refine lv_aload_n hx hb dX12_invokes_130 rfl (lv_at hl 4 rfl) ?_
      refine r_get (v := .int (-1)) hx hb hown hq hE hP 116 233 tFX12_116 (by decide) pw_1506 rfl dX12_invokes_131 ?_
      refine lv_iconst (v := (-1)) hx hb dX12_invokes_134 (by decide) ?_
      refine lv_icmp_ne (tgt := 168) hx hb dX12_invokes_135 (by decide) (fun c48 => absurd c48 (by decide)) (fun c48 => ?_)
      refine lv_iload hx hb dX12_invokes_138 (lv_at hl 0 rfl) ?_
      refine lv_if_eq (tgt := 168) hx hb dX12_invokes_140 (by decide) (fun c49 => ?_) (fun c49 => absurd c49 (by decide))
      have hz50 : Nx Xs (updA (updA (updA (updA (updA (updA B 62 (upd (B 62) op ((B 62) (op - 1)))) 63 (upd (B 63) op (nI q9))) 64 (upd (B 64) op (nI (tp - q9)))) 65 (upd (B 65) op (nI n9))) 66 vr38) 67 vf39) gh nd T nm wr lz dc fd md pr bk M rmm fu mu (op + 1) (tp - q9) wn fu5 rd on idn fl ct ((-1) : Int32) nw34 (1 : Int32) uc0 := (by obtain ⟨bz, hz1, hz2⟩ := Rdy.opens (Z := (updA (updA (updA (updA (updA (updA B 62 (upd (B 62) op ((B 62) (op - 1)))) 63 (upd (B 63) op (nI q9))) 64 (upd (B 64) op (nI (tp - q9)))) 65 (upd (B 65) op (nI n9))) 66 vr38) 67 vf39)) (uc := uc0) (mu2 := mu) hY hg11 hop hd6 (by omega) (Sta.up (Sta.up (Sta.up (Sta.up (Sta.up (Sta.up Sta.rfl (by omega)) (by omega)) (by omega)) (by omega)) (by omega)) (by omega)) hY.2.1 ⟨rfl, rfl, rfl, rfl, rfl, rfl⟩ rfl rfl ⟨fun i h => if_neg (by omega), upd_eq⟩ rfl ho4 (by have z : ArgF B (B 67) vf39 (32 * op) p8 q9 := ho5; unfold ArgF at z ⊢; rw [hw47, hw21] at z; exact z) ⟨rfl, rfl⟩ ⟨rfl, rfl, rfl⟩ h8; rw [ho10, hw42, hz1]; exact hz2)
      have hP : va_P G.1 pCl (mW G h0 a (upd (upd (upd (upd (upd (upd (upd (upd (upd (upd (upd (upd F 49 (nI md)) 102 (nI (op + 1))) 111 (nI (tp - q9))) 115 (nI wn)) 116 ((-1) : Int32)) 117 (nI fu5)) 118 rs0) 119 uc0) 123 ca36) 124 mo37) 125 nw34) 126 (1 : Int32)) (updA (updA (updA (updA (updA (updA B 62 (upd (B 62) op ((B 62) (op - 1)))) 63 (upd (B 63) op (nI q9))) 64 (upd (B 64) op (nI (tp - q9)))) 65 (upd (B 65) op (nI n9))) 66 vr38) 67 vf39)) _ := mW_to (F := F) (l1 := [(49, (nI md)), (102, (nI (op + 1))), (111, (nI (tp - q9))), (115, (nI wn)), (116, (-1)), (117, (nI fu5)), (118, rs0), (119, uc0), (123, ca36), (124, mo37), (125, nw34), (126, 1)]) (l2 := [(49, (nI md)), (102, (nI (op + 1))), (111, (nI (tp - q9))), (115, (nI wn)), (116, ((-1) : Int32)), (117, (nI fu5)), (118, rs0), (119, uc0), (123, ca36), (124, mo37), (125, nw34), (126, (1 : Int32))]) (V := [(nI md), (nI (op + 1)), (nI (tp - q9)), (nI wn), ((-1) : Int32), (nI fu5), rs0, uc0, ca36, mo37, nw34, (1 : Int32), (nI md), (nI (op + 1)), (nI (tp - q9)), (nI wn), ((-1) : Int32), (nI fu5), rs0, uc0, ca36, mo37, nw34, (1 : Int32)]) rfl rfl rfl hP
      have hD : va_D A (mW G h0 a (upd (upd (upd (upd (upd (upd (upd (upd (upd (upd (upd (upd F 49 (nI md)) 102 (nI (op + 1))) 111 (nI (tp - q9))) 115 (nI wn)) 116 ((-1) : Int32)) 117 (nI fu5)) 118 rs0) 119 uc0) 123 ca36) 124 mo37) 125 nw34) 126 (1 : Int32)) (updA (updA (updA (updA (updA (updA B 62 (upd (B 62) op ((B 62) (op - 1)))) 63 (upd (B 63) op (nI q9))) 64 (upd (B 64) op (nI (tp - q9)))) 65 (upd (B 65) op (nI n9))) 66 vr38) 67 vf39)) := mW_D hD
      exact W.vret hx hb hr (fun t9 ht9 hW9 => ⟨⟨_, ((op + 1), (tp - q9), wn, fu5, ((-1) : Int32), nw34, (1 : Int32), rs0, uc0, ca36, mo37, (updA (updA (updA (updA (updA (updA B 62 (upd (B 62) op ((B 62) (op - 1)))) 63 (upd (B 63) op (nI q9))) 64 (upd (B 64) op (nI (tp - q9)))) 65 (upd (B 65) op (nI n9))) 66 vr38) 67 vf39)), rfl, ⟨rfl, hz50⟩, by rw [ht9]; exact hP, hD⟩, hS.F ht9⟩) hS.2.2 dX12_invokes_168

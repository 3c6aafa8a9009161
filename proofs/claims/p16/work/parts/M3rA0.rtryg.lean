theorem dX12_forGoesOn_0 : decode cX12_forGoesOn 0 = .ok (.iload_n 2, 1) := by decide +kernel
theorem dX12_forGoesOn_1 : decode cX12_forGoesOn 1 = .ok (.aload_n 0, 1) := by decide +kernel
theorem dX12_forGoesOn_2 : decode cX12_forGoesOn 2 = .ok (.getfield 56, 3) := by decide +kernel
theorem dX12_forGoesOn_5 : decode cX12_forGoesOn 5 = .ok (.iload_n 1, 1) := by decide +kernel
theorem dX12_forGoesOn_6 : decode cX12_forGoesOn 6 = .ok (.iaload, 1) := by decide +kernel
theorem dX12_forGoesOn_7 : decode cX12_forGoesOn 7 = .ok (.if_icmp .ne 26, 3) := by decide +kernel
theorem dX12_forGoesOn_33 : decode cX12_forGoesOn 33 = .ok (.iload_n 2, 1) := by decide +kernel
theorem dX12_forGoesOn_34 : decode cX12_forGoesOn 34 = .ok (.aload_n 0, 1) := by decide +kernel
theorem dX12_forGoesOn_35 : decode cX12_forGoesOn 35 = .ok (.getfield 50, 3) := by decide +kernel
theorem dX12_forGoesOn_38 : decode cX12_forGoesOn 38 = .ok (.iload_n 1, 1) := by decide +kernel
theorem dX12_forGoesOn_39 : decode cX12_forGoesOn 39 = .ok (.iaload, 1) := by decide +kernel
theorem dX12_forGoesOn_40 : decode cX12_forGoesOn 40 = .ok (.if_icmp .eq 11, 3) := by decide +kernel
theorem dX12_forGoesOn_51 : decode cX12_forGoesOn 51 = .ok (.aload_n 0, 1) := by decide +kernel
theorem dX12_forGoesOn_52 : decode cX12_forGoesOn 52 = .ok (.invokevirtual 837, 3) := by decide +kernel
theorem dX12_forGoesOn_55 : decode cX12_forGoesOn 55 = .ok (.iconst 1, 1) := by decide +kernel
theorem dX12_forGoesOn_56 : decode cX12_forGoesOn 56 = .ok (.if_icmp .ne 16, 3) := by decide +kernel
theorem dX12_forGoesOn_72 : decode cX12_forGoesOn 72 = .ok (.aload_n 0, 1) := by decide +kernel
theorem dX12_forGoesOn_73 : decode cX12_forGoesOn 73 = .ok (.getfield 202, 3) := by decide +kernel
theorem dX12_forGoesOn_76 : decode cX12_forGoesOn 76 = .ok (.aload_n 0, 1) := by decide +kernel
theorem dX12_forGoesOn_77 : decode cX12_forGoesOn 77 = .ok (.getfield 707, 3) := by decide +kernel
theorem dX12_forGoesOn_80 : decode cX12_forGoesOn 80 = .ok (.iconst 1, 1) := by decide +kernel
theorem dX12_forGoesOn_81 : decode cX12_forGoesOn 81 = .ok (.isub, 1) := by decide +kernel
theorem dX12_forGoesOn_82 : decode cX12_forGoesOn 82 = .ok (.aload_n 0, 1) := by decide +kernel
theorem dX12_forGoesOn_83 : decode cX12_forGoesOn 83 = .ok (.getfield 65, 3) := by decide +kernel
theorem dX12_forGoesOn_86 : decode cX12_forGoesOn 86 = .ok (.iload_n 1, 1) := by decide +kernel
theorem dX12_forGoesOn_87 : decode cX12_forGoesOn 87 = .ok (.iaload, 1) := by decide +kernel
theorem dX12_forGoesOn_88 : decode cX12_forGoesOn 88 = .ok (.iastore, 1) := by decide +kernel
theorem dX12_forGoesOn_89 : decode cX12_forGoesOn 89 = .ok (.aload_n 0, 1) := by decide +kernel
theorem dX12_forGoesOn_90 : decode cX12_forGoesOn 90 = .ok (.iload_n 1, 1) := by decide +kernel
theorem dX12_forGoesOn_91 : decode cX12_forGoesOn 91 = .ok (.invokevirtual 760, 3) := by decide +kernel
theorem dX12_forGoesOn_94 : decode cX12_forGoesOn 94 = .ok (.return_, 1) := by decide +kernel
theorem dX12_forGoesOn_59 : decode cX12_forGoesOn 59 = .ok (.aload_n 0, 1) := by decide +kernel
theorem dX12_forGoesOn_60 : decode cX12_forGoesOn 60 = .ok (.aload_n 0, 1) := by decide +kernel
theorem dX12_forGoesOn_61 : decode cX12_forGoesOn 61 = .ok (.getfield 56, 3) := by decide +kernel
theorem dX12_forGoesOn_64 : decode cX12_forGoesOn 64 = .ok (.iload_n 1, 1) := by decide +kernel
theorem dX12_forGoesOn_65 : decode cX12_forGoesOn 65 = .ok (.iaload, 1) := by decide +kernel
theorem dX12_forGoesOn_66 : decode cX12_forGoesOn 66 = .ok (.invokevirtual 794, 3) := by decide +kernel
theorem dX12_forGoesOn_69 : decode cX12_forGoesOn 69 = .ok (.goto 25, 3) := by decide +kernel
theorem dX12_forGoesOn_43 : decode cX12_forGoesOn 43 = .ok (.aload_n 0, 1) := by decide +kernel
theorem dX12_forGoesOn_44 : decode cX12_forGoesOn 44 = .ok (.iload_n 1, 1) := by decide +kernel
theorem dX12_forGoesOn_45 : decode cX12_forGoesOn 45 = .ok (.invokevirtual 812, 3) := by decide +kernel
theorem dX12_forGoesOn_48 : decode cX12_forGoesOn 48 = .ok (.goto 46, 3) := by decide +kernel
theorem dX12_forGoesOn_10 : decode cX12_forGoesOn 10 = .ok (.aload_n 0, 1) := by decide +kernel
theorem dX12_forGoesOn_11 : decode cX12_forGoesOn 11 = .ok (.getfield 53, 3) := by decide +kernel
theorem dX12_forGoesOn_14 : decode cX12_forGoesOn 14 = .ok (.iload_n 1, 1) := by decide +kernel
theorem dX12_forGoesOn_15 : decode cX12_forGoesOn 15 = .ok (.iaload, 1) := by decide +kernel
theorem dX12_forGoesOn_16 : decode cX12_forGoesOn 16 = .ok (.iconst (-1), 1) := by decide +kernel
theorem dX12_forGoesOn_17 : decode cX12_forGoesOn 17 = .ok (.if_icmp .eq 16, 3) := by decide +kernel
theorem dX12_forGoesOn_20 : decode cX12_forGoesOn 20 = .ok (.aload_n 0, 1) := by decide +kernel
theorem dX12_forGoesOn_21 : decode cX12_forGoesOn 21 = .ok (.aload_n 0, 1) := by decide +kernel
theorem dX12_forGoesOn_22 : decode cX12_forGoesOn 22 = .ok (.getfield 53, 3) := by decide +kernel
theorem dX12_forGoesOn_25 : decode cX12_forGoesOn 25 = .ok (.iload_n 1, 1) := by decide +kernel
theorem dX12_forGoesOn_26 : decode cX12_forGoesOn 26 = .ok (.iaload, 1) := by decide +kernel
theorem dX12_forGoesOn_27 : decode cX12_forGoesOn 27 = .ok (.invokevirtual 794, 3) := by decide +kernel
theorem dX12_forGoesOn_30 : decode cX12_forGoesOn 30 = .ok (.goto 64, 3) := by decide +kernel
set_option maxHeartbeats 16000000 in
set_option maxRecDepth 100000 in
/-- forGoesOn(p, n) -/
theorem R_forGoesOn (l : Launch) (G : pT) (h0 : Nat) (a : Nat → Nat) (F : Nat → Int32) (B : Nat → Nat → Int32) (Xs : Nat → Nat → Int32) (gh : Nat → Nat → Nat) (nd : Nat) (T : Nat) (nm : Nat) (wr : Nat) (lz : Nat) (dc : Nat) (fd : Nat) (md : Nat) (pr : Nat) (bk : Nat) (M : MTb) (rmm : Nat) (op : Nat) (tp : Nat) (wn : Nat) (fu : Nat) (rd : Nat) (on : Nat) (idn : Nat) (fl : Nat) (ct : Nat) (n9 : Nat) (p9 : Nat) (u : Ps) (mt : Nat → Nat) (ps : Nat → Nat) (yy : Nat → Ps) (bf : Nat → Nat) (wf : Nat → Nat) (nw : Int32) (isn : Int32) (rs0 : Int32) (uc0 : Int32) (hR : Rn Xs B gh nd T nm wr lz dc fd md pr bk M rmm op tp wn fu rd on idn fl ct n9 true mt ps yy bf wf) (hp : Pv Xs (M.1 (mt (op - 1))) (rtP M (mt (op - 1))) p9 u) (hst : stq Xs p9 u n9 (yy (op - 1))) (hfu : fu ≤ 20000) (hkd : Xs 9 p9 = nI 36) : PM l G pX0 yX12_forGoesOn cX12_forGoesOn 3 none ({ frames := 4, cells := 0, slots := 0, locals := 102 }) [.ref h0, .int (nI p9), .int (nI n9)] (mW G h0 a (upd (upd (upd (upd (upd (upd (upd (upd (upd F 102 (nI op)) 111 (nI tp)) 115 (nI wn)) 116 (-1)) 117 (nI fu)) 118 rs0) 119 uc0) 125 nw) 126 isn) B) (fun (v : Option Value) (u : Nat × Nat × Nat × Nat × Int32 × Int32 × Int32 × Int32 × Int32 × (Nat → Nat → Int32)) => v = none ∧ (Nx Xs u.2.2.2.2.2.2.2.2.2 gh nd T nm wr lz dc fd md pr bk M rmm fu (Phi gh ps op (rkN gh n9 true)) u.1 u.2.1 u.2.2.1 u.2.2.2.1 rd on idn fl ct u.2.2.2.2.1 u.2.2.2.2.2.1 u.2.2.2.2.2.2.1 u.2.2.2.2.2.2.2.2.1)) (fun u => (mW G h0 a (upd (upd (upd (upd (upd (upd (upd (upd (upd F 102 (nI u.1)) 111 (nI u.2.1)) 115 (nI u.2.2.1)) 116 u.2.2.2.2.1) 117 (nI u.2.2.2.1)) 118 u.2.2.2.2.2.2.2.1) 119 u.2.2.2.2.2.2.2.2.1) 125 u.2.2.2.2.2.1) 126 u.2.2.2.2.2.2.1) u.2.2.2.2.2.2.2.2.2)) := by
  intro sz
  refine Met.ofW (cc := cX12_forGoesOn) (maxL := 3) (ret := none) (by decide) rfl ?_
  intro p e s m args below meth c s₁ B9 hml hv
  obtain ⟨rfl, hsz, hP, hD0, hE, hX⟩ := hv
  have hx := B9.exec
  have hb := B9.bytes
  have hr := B9.returns
  have hts := atoms_spec (ws := Cond.code yX12_forGoesOn cX12_forGoesOn 3 none :: pw) B9.pre
  have hq : ∀ w ∈ pw, w.before _ s = true := fun w h => hts w (List.mem_cons_of_mem _ h)
  have hown : s.vm.findClass RX12 = some m.cls := findClass_of_methodNamed B9.named
  have hlocks := B9.notSynchronized
  subst hsz
  have hD := hD0.self (sz := s.heap.size)
  have hA : ∀ q : Nat, s.heap.size ≤ q → va_A (mW G h0 a (upd (upd (upd (upd (upd (upd (upd (upd (upd F 102 (nI op)) 111 (nI tp)) 115 (nI wn)) 116 (-1)) 117 (nI fu)) 118 rs0) 119 uc0) 125 nw) 126 isn) B) s.heap.size q := fun q h => Or.inr h
  have hP : va_P G.1 pCl (mW G h0 a (upd (upd (upd (upd (upd (upd (upd (upd (upd F 102 (nI op)) 111 (nI tp)) 115 (nI wn)) 116 (-1)) 117 (nI fu)) 118 rs0) 119 uc0) 125 nw) 126 isn) B) s.heap := hP
  generalize va_A (mW G h0 a (upd (upd (upd (upd (upd (upd (upd (upd (upd F 102 (nI op)) 111 (nI tp)) 115 (nI wn)) 116 (-1)) 117 (nI fu)) 118 rs0) 119 uc0) 125 nw) 126 isn) B) s.heap.size = A at hD hE hA ⊢
  have hS : va_S A s.heap s.heap [] := va_S.rf
  have hl := lv_entry ([.ref h0, .int (nI p9), .int (nI n9)]) (n := 3) (Nat.le_of_ble_eq_true rfl)
  rw [lg_entry_eq]
  generalize (lg_sl ([.ref h0, .int (nI p9), .int (nI n9)]) ++ List.replicate (3 - (lg_sl ([.ref h0, .int (nI p9), .int (nI n9)])).length) Slot.unset).toArray = ls at hl ⊢
  have hl : lv_has ls 3 [(0, .ref h0), (1, .int (nI p9)), (2, .int (nI n9))] := hl
  have hPg := hR.pg
  have hbd := hPg.bd
  have hrm := hR.room
  have hpn := hR.pn hp
  have hw12 : B 12 = Xs 12 := hPg.row 12 (by omega) (by omega) (by omega) (by omega) (by omega)
  have hw13 : B 13 = Xs 13 := hPg.row 13 (by omega) (by omega) (by omega) (by omega) (by omega)
  have hw15 : B 15 = Xs 15 := hPg.row 15 (by omega) (by omega) (by omega) (by omega) (by omega)
  refine lv_iload_n hx hb dX12_forGoesOn_0 rfl (lv_at hl 2 rfl) ?_
  refine lv_aload_n hx hb dX12_forGoesOn_1 rfl (lv_at hl 0 rfl) ?_
  refine r_get (v := .ref (a 15)) hx hb hown hq hE hP 23 56 tFX12_23 (by decide) pw_1445 rfl dX12_forGoesOn_2 ?_
  refine lv_iload_n hx hb dX12_forGoesOn_5 rfl (lv_at hl 1 rfl) ?_
  refine r_ldi (f := (B 15)) (j := p9) hx hb hE hP 15 (ma_15 G a _) rfl (by omega) (by decide) dX12_forGoesOn_6 ?_
  refine lv_icmp_ne (tgt := 33) hx hb dX12_forGoesOn_7 (by decide) (fun c1 => ?_) (fun c1 => ?_)
  · refine lv_iload_n hx hb dX12_forGoesOn_33 rfl (lv_at hl 2 rfl) ?_
    refine lv_aload_n hx hb dX12_forGoesOn_34 rfl (lv_at hl 0 rfl) ?_
    refine r_get (v := .ref (a 13)) hx hb hown hq hE hP 21 50 tFX12_21 (by decide) pw_1443 rfl dX12_forGoesOn_35 ?_
    refine lv_iload_n hx hb dX12_forGoesOn_38 rfl (lv_at hl 1 rfl) ?_
    refine r_ldi (f := (B 13)) (j := p9) hx hb hE hP 13 (ma_13 G a _) rfl (by omega) (by decide) dX12_forGoesOn_39 ?_
    refine lv_icmp_eq (tgt := 51) hx hb dX12_forGoesOn_40 (by decide) (fun c2 => ?_) (fun c2 => ?_)
    · obtain ⟨ht1, ⟨j1, ha1, ha2, ha3⟩, v9, hb1, hb2, hb3⟩ := (hR.g36 (uc := uc0) (mu := 0) hp hst hkd).2.2 ((congrFun hw13 _).symm.trans c2.symm)
      refine lv_aload_n hx hb dX12_forGoesOn_51 rfl (lv_at hl 0 rfl) ?_
      have hP : va_P G.1 pCl (mW G h0 a (upd (upd (upd (upd (upd (upd (upd (upd (upd (upd F 102 (nI op)) 111 (nI tp)) 115 (nI wn)) 116 (-1)) 117 (nI fu)) 118 rs0) 119 uc0) 125 nw) 126 isn) 111 (nI tp)) (updA B 68 (B 68))) _ := mW_to (F := F) (l1 := [(102, (nI op)), (111, (nI tp)), (115, (nI wn)), (116, (-1)), (117, (nI fu)), (118, rs0), (119, uc0), (125, nw), (126, isn)]) (l2 := [(102, (nI op)), (111, (nI tp)), (115, (nI wn)), (116, (-1)), (117, (nI fu)), (118, rs0), (119, uc0), (125, nw), (126, isn), (111, (nI tp))]) (V := [(nI op), (nI tp), (nI wn), (-1), (nI fu), rs0, uc0, nw, isn, (nI op), (nI tp), (nI wn), (-1), (nI fu), rs0, uc0, nw, isn, (nI tp)]) rfl rfl (show B = (updA B 68 (B 68)) from updsA_eq2 (F := B) (l1 := []) (l2 := [(68, (B 68))]) (V := [(B 68)]) rfl rfl) hP
      have hD : va_D A (mW G h0 a (upd (upd (upd (upd (upd (upd (upd (upd (upd (upd F 102 (nI op)) 111 (nI tp)) 115 (nI wn)) 116 (-1)) 117 (nI fu)) 118 rs0) 119 uc0) 125 nw) 126 isn) 111 (nI tp)) (updA B 68 (B 68))) := mW_D hD
      refine pc_V0 (G := G) (As := []) (rest := []) hx hb hml hown hq hE hX pX0_al hP hD hS hA hl.1 (R_pop l G h0 a (upd (upd (upd (upd (upd (upd (upd (upd (upd F 102 (nI op)) 111 (nI tp)) 115 (nI wn)) 116 (-1)) 117 (nI fu)) 118 rs0) 119 uc0) 125 nw) 126 isn) B tp (B 68) (by omega)) (gV pw_2082 pw_2083 pw_2084 pw_1523 pw_1965) hV_X12_pop 0 9 rfl rfl rfl rfl (Nat.le_of_ble_eq_true rfl) dX12_forGoesOn_52 ⟨Nat.le_of_ble_eq_true rfl, Nat.le_of_ble_eq_true rfl⟩ ⟨Nat.le_of_ble_eq_true rfl, Nat.le_of_ble_eq_true rfl⟩ (fun v5 u3 H locs hw4 hP hD hS => ?_)
      obtain rfl : v5 = some (.int ((B 68) (tp - 1))) := hw4
      have hP : va_P G.1 pCl (mW G h0 a (upd (upd (upd (upd (upd (upd (upd (upd (upd F 102 (nI op)) 111 (nI (tp - 1))) 115 (nI wn)) 116 (-1)) 117 (nI fu)) 118 rs0) 119 uc0) 125 nw) 126 isn) B) _ := mW_to (F := F) (l1 := [(102, (nI op)), (111, (nI tp)), (115, (nI wn)), (116, (-1)), (117, (nI fu)), (118, rs0), (119, uc0), (125, nw), (126, isn), (111, (nI (tp - 1)))]) (l2 := [(102, (nI op)), (111, (nI (tp - 1))), (115, (nI wn)), (116, (-1)), (117, (nI fu)), (118, rs0), (119, uc0), (125, nw), (126, isn)]) (V := [(nI op), (nI (tp - 1)), (nI wn), (-1), (nI fu), rs0, uc0, nw, isn, (nI (tp - 1)), (nI op), (nI (tp - 1)), (nI wn), (-1), (nI fu), rs0, uc0, nw, isn]) rfl rfl (show (updA B 68 (B 68)) = B from updsA_eq2 (F := B) (l1 := [(68, (B 68))]) (l2 := []) (V := [(B 68)]) rfl rfl) hP
      have hD : va_D A (mW G h0 a (upd (upd (upd (upd (upd (upd (upd (upd (upd F 102 (nI op)) 111 (nI (tp - 1))) 115 (nI wn)) 116 (-1)) 117 (nI fu)) 118 rs0) 119 uc0) 125 nw) 126 isn) B) := mW_D hD
      refine W.widen (k := 0) (n := 0) (Nat.le_of_ble_eq_true rfl) (Nat.le_of_ble_eq_true rfl) ?_
      refine W.eq (g2 := F0 m 55 ls [.int ((B 68) (tp - 1))]) rfl ?_
      refine lv_iconst (v := 1) hx hb dX12_forGoesOn_55 (by decide) ?_
      refine lv_icmp_ne (tgt := 72) hx hb dX12_forGoesOn_56 (by decide) (fun c6 => ?_) (fun c6 => ?_)
      · refine lv_aload_n hx hb dX12_forGoesOn_72 rfl (lv_at hl 0 rfl) ?_
        refine r_get (v := .ref (a 63)) hx hb hown hq hE hP 104 202 tFX12_104 (by decide) pw_1495 rfl dX12_forGoesOn_73 ?_
        refine lv_aload_n hx hb dX12_forGoesOn_76 rfl (lv_at hl 0 rfl) ?_
        refine r_get (v := .int (nI op)) hx hb hown hq hE hP 102 707 tFX12_102 (by decide) pw_1969 rfl dX12_forGoesOn_77 ?_
        refine lv_iconst (v := 1) hx hb dX12_forGoesOn_80 (by decide) ?_
        refine lv_isub hx hb dX12_forGoesOn_81 ?_
        refine lv_topi (fun x7 e8 => ?_)
        obtain rfl : x7 = nI (op - 1) := e8.trans (nI_subN (a := 1) (b := op) (by omega))
        refine lv_aload_n hx hb dX12_forGoesOn_82 rfl (lv_at hl 0 rfl) ?_
        refine r_get (v := .ref (a 18)) hx hb hown hq hE hP 26 65 tFX12_26 (by decide) pw_1448 rfl dX12_forGoesOn_83 ?_
        refine lv_iload_n hx hb dX12_forGoesOn_86 rfl (lv_at hl 1 rfl) ?_
        refine r_ldi (f := (B 18)) (j := p9) hx hb hE hP 18 (ma_18 G a _) rfl (by omega) (by decide) dX12_forGoesOn_87 ?_
        refine lv_topi (fun x9 e10 => ?_)
        obtain rfl : x9 = nI v9 := e10.trans hb1
        refine r_sti (f := (B 63)) (j := (op - 1)) hx hb hE hP hD hS 63 (ma_63 G a _) rfl (mas_63 G a _) (by omega) (by decide) dX12_forGoesOn_88 (fun H locs hP hD hS => ?_)
        refine lv_aload_n hx hb dX12_forGoesOn_89 rfl (lv_at hl 0 rfl) ?_
        refine lv_iload_n hx hb dX12_forGoesOn_90 rfl (lv_at hl 1 rfl) ?_
        have hP : va_P G.1 pCl (mW G h0 a (upd (upd (upd (upd (upd (upd (upd (upd (upd F 102 (nI op)) 111 (nI (tp - 1))) 115 (nI wn)) 116 (-1)) 117 (nI fu)) 118 rs0) 119 uc0) 125 nw) 126 isn) (updA B 63 (upd (B 63) (op - 1) (nI v9)))) _ := hP
        have hD : va_D A (mW G h0 a (upd (upd (upd (upd (upd (upd (upd (upd (upd F 102 (nI op)) 111 (nI (tp - 1))) 115 (nI wn)) 116 (-1)) 117 (nI fu)) 118 rs0) 119 uc0) 125 nw) 126 isn) (updA B 63 (upd (B 63) (op - 1) (nI v9)))) := mW_D hD
        refine pc_V0 (G := G) (As := [.int (nI p9)]) (rest := []) hx hb hml hown hq hE hX pX0_al hP hD hS hA hl.1 (R_comesToEnd l G h0 a (upd (upd (upd (upd (upd (upd (upd (upd (upd F 102 (nI op)) 111 (nI (tp - 1))) 115 (nI wn)) 116 (-1)) 117 (nI fu)) 118 rs0) 119 uc0) 125 nw) 126 isn) (updA B 63 (upd (B 63) (op - 1) (nI v9))) (nI p9)) (gV pw_2010 pw_2011 pw_2012 pw_1523 pw_2005) hV_X12_comesToEnd 0 9 rfl rfl rfl rfl (Nat.le_of_ble_eq_true rfl) dX12_forGoesOn_91 ⟨Nat.le_of_ble_eq_true rfl, Nat.le_of_ble_eq_true rfl⟩ ⟨Nat.le_of_ble_eq_true rfl, Nat.le_of_ble_eq_true rfl⟩ (fun v13 u11 H locs hw12 hP hD hS => ?_)
        obtain rfl : v13 = none := hw12
        have hP : va_P G.1 pCl (mW G h0 a (upd (upd (upd (upd (upd (upd (upd (upd (upd F 102 (nI op)) 111 (nI (tp - 1))) 115 (nI wn)) 116 (-1)) 117 (nI fu)) 118 rs0) 119 uc0) 125 (nI p9)) 126 0) (updA B 63 (upd (B 63) (op - 1) (nI v9)))) _ := mW_to (F := F) (l1 := [(102, (nI op)), (111, (nI (tp - 1))), (115, (nI wn)), (116, (-1)), (117, (nI fu)), (118, rs0), (119, uc0), (125, nw), (126, isn), (125, (nI p9)), (126, 0)]) (l2 := [(102, (nI op)), (111, (nI (tp - 1))), (115, (nI wn)), (116, (-1)), (117, (nI fu)), (118, rs0), (119, uc0), (125, (nI p9)), (126, 0)]) (V := [(nI op), (nI (tp - 1)), (nI wn), (-1), (nI fu), rs0, uc0, (nI p9), 0, (nI p9), 0, (nI op), (nI (tp - 1)), (nI wn), (-1), (nI fu), rs0, uc0, (nI p9), 0]) rfl rfl rfl hP
        have hD : va_D A (mW G h0 a (upd (upd (upd (upd (upd (upd (upd (upd (upd F 102 (nI op)) 111 (nI (tp - 1))) 115 (nI wn)) 116 (-1)) 117 (nI fu)) 118 rs0) 119 uc0) 125 (nI p9)) 126 0) (updA B 63 (upd (B 63) (op - 1) (nI v9)))) := mW_D hD
        refine W.widen (k := 0) (n := 0) (Nat.le_of_ble_eq_true rfl) (Nat.le_of_ble_eq_true rfl) ?_
        refine W.eq (g2 := F0 m 94 ls []) rfl ?_
        have hz14 : Nx Xs (updA B 63 (upd (B 63) (op - 1) (nI v9))) gh nd T nm wr lz dc fd md pr bk M rmm fu (Phi gh ps op (rkN gh n9 true)) op (tp - 1) wn fu rd on idn fl ct ((-1) : Int32) (nI p9) (0 : Int32) uc0 := hb3
        have hP : va_P G.1 pCl (mW G h0 a (upd (upd (upd (upd (upd (upd (upd (upd (upd F 102 (nI op)) 111 (nI (tp - 1))) 115 (nI wn)) 116 ((-1) : Int32)) 117 (nI fu)) 118 rs0) 119 uc0) 125 (nI p9)) 126 (0 : Int32)) (updA B 63 (upd (B 63) (op - 1) (nI v9)))) _ := mW_to (F := F) (l1 := [(102, (nI op)), (111, (nI (tp - 1))), (115, (nI wn)), (116, (-1)), (117, (nI fu)), (118, rs0), (119, uc0), (125, (nI p9)), (126, 0)]) (l2 := [(102, (nI op)), (111, (nI (tp - 1))), (115, (nI wn)), (116, ((-1) : Int32)), (117, (nI fu)), (118, rs0), (119, uc0), (125, (nI p9)), (126, (0 : Int32))]) (V := [(nI op), (nI (tp - 1)), (nI wn), ((-1) : Int32), (nI fu), rs0, uc0, (nI p9), (0 : Int32), (nI op), (nI (tp - 1)), (nI wn), ((-1) : Int32), (nI fu), rs0, uc0, (nI p9), (0 : Int32)]) rfl rfl rfl hP
        have hD : va_D A (mW G h0 a (upd (upd (upd (upd (upd (upd (upd (upd (upd F 102 (nI op)) 111 (nI (tp - 1))) 115 (nI wn)) 116 ((-1) : Int32)) 117 (nI fu)) 118 rs0) 119 uc0) 125 (nI p9)) 126 (0 : Int32)) (updA B 63 (upd (B 63) (op - 1) (nI v9)))) := mW_D hD
        exact W.vret hx hb hr (fun t9 ht9 hW9 => ⟨⟨_, (op, (tp - 1), wn, fu, ((-1) : Int32), (nI p9), (0 : Int32), rs0, uc0, (updA B 63 (upd (B 63) (op - 1) (nI v9)))), rfl, ⟨rfl, hz14⟩, by rw [ht9]; exact hP, hD⟩, hS.F ht9⟩) hS.2.2 dX12_forGoesOn_94
      · refine lv_aload_n hx hb dX12_forGoesOn_59 rfl (lv_at hl 0 rfl) ?_
        refine lv_aload_n hx hb dX12_forGoesOn_60 rfl (lv_at hl 0 rfl) ?_
        refine r_get (v := .ref (a 15)) hx hb hown hq hE hP 23 56 tFX12_23 (by decide) pw_1445 rfl dX12_forGoesOn_61 ?_
        refine lv_iload_n hx hb dX12_forGoesOn_64 rfl (lv_at hl 1 rfl) ?_
        refine r_ldi (f := (B 15)) (j := p9) hx hb hE hP 15 (ma_15 G a _) rfl (by omega) (by decide) dX12_forGoesOn_65 ?_
        refine lv_topi (fun x15 e16 => ?_)
        obtain rfl : x15 = nI j1 := e16.trans ((congrFun hw15 _).trans ha1)
        have hP : va_P G.1 pCl (mW G h0 a (upd (upd (upd (upd (upd (upd (upd (upd (upd F 102 (nI op)) 111 (nI (tp - 1))) 115 (nI wn)) 116 (-1)) 117 (nI fu)) 118 rs0) 119 uc0) 125 nw) 126 isn) B) _ := hP
        have hD : va_D A (mW G h0 a (upd (upd (upd (upd (upd (upd (upd (upd (upd F 102 (nI op)) 111 (nI (tp - 1))) 115 (nI wn)) 116 (-1)) 117 (nI fu)) 118 rs0) 119 uc0) 125 nw) 126 isn) B) := mW_D hD
        refine pc_V0 (G := G) (As := [.int (nI j1)]) (rest := []) hx hb hml hown hq hE hX pX0_al hP hD hS hA hl.1 (R_begin l G h0 a (upd (upd (upd (upd (upd (upd (upd (upd (upd F 102 (nI op)) 111 (nI (tp - 1))) 115 (nI wn)) 116 (-1)) 117 (nI fu)) 118 rs0) 119 uc0) 125 nw) 126 isn) B (nI j1)) (gV pw_2016 pw_2017 pw_2018 pw_1523 pw_2002) hV_X12_begin 0 9 rfl rfl rfl rfl (Nat.le_of_ble_eq_true rfl) dX12_forGoesOn_66 ⟨Nat.le_of_ble_eq_true rfl, Nat.le_of_ble_eq_true rfl⟩ ⟨Nat.le_of_ble_eq_true rfl, Nat.le_of_ble_eq_true rfl⟩ (fun v19 u17 H locs hw18 hP hD hS => ?_)
        obtain rfl : v19 = none := hw18
        have hP : va_P G.1 pCl (mW G h0 a (upd (upd (upd (upd (upd (upd (upd (upd (upd F 102 (nI op)) 111 (nI (tp - 1))) 115 (nI wn)) 116 (-1)) 117 (nI fu)) 118 rs0) 119 uc0) 125 (nI j1)) 126 1) B) _ := mW_to (F := F) (l1 := [(102, (nI op)), (111, (nI (tp - 1))), (115, (nI wn)), (116, (-1)), (117, (nI fu)), (118, rs0), (119, uc0), (125, nw), (126, isn), (125, (nI j1)), (126, 1)]) (l2 := [(102, (nI op)), (111, (nI (tp - 1))), (115, (nI wn)), (116, (-1)), (117, (nI fu)), (118, rs0), (119, uc0), (125, (nI j1)), (126, 1)]) (V := [(nI op), (nI (tp - 1)), (nI wn), (-1), (nI fu), rs0, uc0, (nI j1), 1, (nI j1), 1, (nI op), (nI (tp - 1)), (nI wn), (-1), (nI fu), rs0, uc0, (nI j1), 1]) rfl rfl rfl hP
        have hD : va_D A (mW G h0 a (upd (upd (upd (upd (upd (upd (upd (upd (upd F 102 (nI op)) 111 (nI (tp - 1))) 115 (nI wn)) 116 (-1)) 117 (nI fu)) 118 rs0) 119 uc0) 125 (nI j1)) 126 1) B) := mW_D hD
        refine W.widen (k := 0) (n := 0) (Nat.le_of_ble_eq_true rfl) (Nat.le_of_ble_eq_true rfl) ?_
        refine W.eq (g2 := F0 m 69 ls []) rfl ?_
        refine lv_goto (tgt := 94) hx hb dX12_forGoesOn_69 (by decide) ?_
        have hz20 : Nx Xs B gh nd T nm wr lz dc fd md pr bk M rmm fu (Phi gh ps op (rkN gh n9 true)) op (tp - 1) wn fu rd on idn fl ct ((-1) : Int32) (nI j1) (1 : Int32) uc0 := ha3
        have hP : va_P G.1 pCl (mW G h0 a (upd (upd (upd (upd (upd (upd (upd (upd (upd F 102 (nI op)) 111 (nI (tp - 1))) 115 (nI wn)) 116 ((-1) : Int32)) 117 (nI fu)) 118 rs0) 119 uc0) 125 (nI j1)) 126 (1 : Int32)) B) _ := mW_to (F := F) (l1 := [(102, (nI op)), (111, (nI (tp - 1))), (115, (nI wn)), (116, (-1)), (117, (nI fu)), (118, rs0), (119, uc0), (125, (nI j1)), (126, 1)]) (l2 := [(102, (nI op)), (111, (nI (tp - 1))), (115, (nI wn)), (116, ((-1) : Int32)), (117, (nI fu)), (118, rs0), (119, uc0), (125, (nI j1)), (126, (1 : Int32))]) (V := [(nI op), (nI (tp - 1)), (nI wn), ((-1) : Int32), (nI fu), rs0, uc0, (nI j1), (1 : Int32), (nI op), (nI (tp - 1)), (nI wn), ((-1) : Int32), (nI fu), rs0, uc0, (nI j1), (1 : Int32)]) rfl rfl rfl hP
        have hD : va_D A (mW G h0 a (upd (upd (upd (upd (upd (upd (upd (upd (upd F 102 (nI op)) 111 (nI (tp - 1))) 115 (nI wn)) 116 ((-1) : Int32)) 117 (nI fu)) 118 rs0) 119 uc0) 125 (nI j1)) 126 (1 : Int32)) B) := mW_D hD
        exact W.vret hx hb hr (fun t9 ht9 hW9 => ⟨⟨_, (op, (tp - 1), wn, fu, ((-1) : Int32), (nI j1), (1 : Int32), rs0, uc0, B), rfl, ⟨rfl, hz20⟩, by rw [ht9]; exact hP, hD⟩, hS.F ht9⟩) hS.2.2 dX12_forGoesOn_94
    · obtain ⟨j1, ha1, ha2, ha3⟩ := (hR.g36 (uc := uc0) (mu := (Phi gh ps op (rkN gh n9 true))) hp hst hkd).1 (fun h => c2 ((congrFun hw13 _).trans h).symm)
      refine lv_aload_n hx hb dX12_forGoesOn_43 rfl (lv_at hl 0 rfl) ?_
      refine lv_iload_n hx hb dX12_forGoesOn_44 rfl (lv_at hl 1 rfl) ?_
      have hP : va_P G.1 pCl (mW G h0 a (upd (upd (upd (upd (upd (upd (upd (upd (upd (upd (upd (upd (upd F 102 (nI op)) 111 (nI tp)) 115 (nI wn)) 116 (-1)) 117 (nI fu)) 118 rs0) 119 uc0) 125 nw) 126 isn) 116 (-1)) 117 (nI fu)) 125 nw) 126 isn) B) _ := mW_to (F := F) (l1 := [(102, (nI op)), (111, (nI tp)), (115, (nI wn)), (116, (-1)), (117, (nI fu)), (118, rs0), (119, uc0), (125, nw), (126, isn)]) (l2 := [(102, (nI op)), (111, (nI tp)), (115, (nI wn)), (116, (-1)), (117, (nI fu)), (118, rs0), (119, uc0), (125, nw), (126, isn), (116, (-1)), (117, (nI fu)), (125, nw), (126, isn)]) (V := [(nI op), (nI tp), (nI wn), (-1), (nI fu), rs0, uc0, nw, isn, (nI op), (nI tp), (nI wn), (-1), (nI fu), rs0, uc0, nw, isn, (-1), (nI fu), nw, isn]) rfl rfl rfl hP
      have hD : va_D A (mW G h0 a (upd (upd (upd (upd (upd (upd (upd (upd (upd (upd (upd (upd (upd F 102 (nI op)) 111 (nI tp)) 115 (nI wn)) 116 (-1)) 117 (nI fu)) 118 rs0) 119 uc0) 125 nw) 126 isn) 116 (-1)) 117 (nI fu)) 125 nw) 126 isn) B) := mW_D hD
      refine pc_V0 (G := G) (As := [.int (nI p9)]) (rest := []) hx hb hml hown hq hE hX pX0_al hP hD hS hA hl.1 (R_looksAt l G h0 a (upd (upd (upd (upd (upd (upd (upd (upd (upd F 102 (nI op)) 111 (nI tp)) 115 (nI wn)) 116 (-1)) 117 (nI fu)) 118 rs0) 119 uc0) 125 nw) 126 isn) B p9 fu (-1) nw isn (by omega) (by omega)) (gV pw_2029 pw_2030 pw_2031 pw_1523 pw_2025) hV_X12_looksAt 0 9 rfl rfl rfl rfl (Nat.le_of_ble_eq_true rfl) dX12_forGoesOn_45 ⟨Nat.le_of_ble_eq_true rfl, Nat.le_of_ble_eq_true rfl⟩ ⟨Nat.le_of_ble_eq_true rfl, Nat.le_of_ble_eq_true rfl⟩ (fun v23 u21 H locs hw22 hP hD hS => ?_)
      obtain ⟨r24, fu25, en26, nw27, is28⟩ := u21
      obtain ⟨hw22, h29, h30, h31, h32⟩ := hw22
      replace h29 : r24 ≤ 1 := h29
      replace h30 : fu25 + r24 = fu := h30
      replace h31 : If (r24 = 0) (en26 = 2) := h31
      replace h32 : If (r24 = 1) (en26 = (-1) ∧ is28 = 1 ∧ nw27 = lkF B p9) := h32
      obtain rfl : v23 = none := hw22
      have hP : va_P G.1 pCl (mW G h0 a (upd (upd (upd (upd (upd (upd (upd (upd (upd F 102 (nI op)) 111 (nI tp)) 115 (nI wn)) 116 en26) 117 (nI fu25)) 118 rs0) 119 uc0) 125 nw27) 126 is28) B) _ := mW_to (F := F) (l1 := [(102, (nI op)), (111, (nI tp)), (115, (nI wn)), (116, (-1)), (117, (nI fu)), (118, rs0), (119, uc0), (125, nw), (126, isn), (116, en26), (117, (nI fu25)), (125, nw27), (126, is28)]) (l2 := [(102, (nI op)), (111, (nI tp)), (115, (nI wn)), (116, en26), (117, (nI fu25)), (118, rs0), (119, uc0), (125, nw27), (126, is28)]) (V := [(nI op), (nI tp), (nI wn), en26, (nI fu25), rs0, uc0, nw27, is28, en26, (nI fu25), nw27, is28, (nI op), (nI tp), (nI wn), en26, (nI fu25), rs0, uc0, nw27, is28]) rfl rfl rfl hP
      have hD : va_D A (mW G h0 a (upd (upd (upd (upd (upd (upd (upd (upd (upd F 102 (nI op)) 111 (nI tp)) 115 (nI wn)) 116 en26) 117 (nI fu25)) 118 rs0) 119 uc0) 125 nw27) 126 is28) B) := mW_D hD
      refine W.widen (k := 0) (n := 0) (Nat.le_of_ble_eq_true rfl) (Nat.le_of_ble_eq_true rfl) ?_
      refine W.eq (g2 := F0 m 48 ls []) rfl ?_
      refine lv_goto (tgt := 94) hx hb dX12_forGoesOn_48 (by decide) ?_
      have hz33 : Nx Xs B gh nd T nm wr lz dc fd md pr bk M rmm fu (Phi gh ps op (rkN gh n9 true)) op tp wn fu25 rd on idn fl ct en26 nw27 is28 uc0 := (by rcases Nat.eq_zero_or_pos r24 with z | z; exact hR.stop Sta.rfl hR.hp (by rw [h31 z]; decide) (by rw [h31 z]; decide); obtain ⟨z1, z2, z3⟩ := h32 (by omega); rw [z1, z2, z3, ha1]; exact ha3 _ (by omega))
      have hP : va_P G.1 pCl (mW G h0 a (upd (upd (upd (upd (upd (upd (upd (upd (upd F 102 (nI op)) 111 (nI tp)) 115 (nI wn)) 116 en26) 117 (nI fu25)) 118 rs0) 119 uc0) 125 nw27) 126 is28) B) _ := hP
      have hD : va_D A (mW G h0 a (upd (upd (upd (upd (upd (upd (upd (upd (upd F 102 (nI op)) 111 (nI tp)) 115 (nI wn)) 116 en26) 117 (nI fu25)) 118 rs0) 119 uc0) 125 nw27) 126 is28) B) := mW_D hD
      exact W.vret hx hb hr (fun t9 ht9 hW9 => ⟨⟨_, (op, tp, wn, fu25, en26, nw27, is28, rs0, uc0, B), rfl, ⟨rfl, hz33⟩, by rw [ht9]; exact hP, hD⟩, hS.F ht9⟩) hS.2.2 dX12_forGoesOn_94
  · refine lv_aload_n hx hb dX12_forGoesOn_10 rfl (lv_at hl 0 rfl) ?_
    refine r_get (v := .ref (a 14)) hx hb hown hq hE hP 22 53 tFX12_22 (by decide) pw_1444 rfl dX12_forGoesOn_11 ?_
    refine lv_iload_n hx hb dX12_forGoesOn_14 rfl (lv_at hl 1 rfl) ?_
    refine r_ldi (f := (B 14)) (j := p9) hx hb hE hP 14 (ma_14 G a _) rfl (by omega) (by decide) dX12_forGoesOn_15 ?_
    refine lv_iconst (v := (-1)) hx hb dX12_forGoesOn_16 (by decide) ?_
    refine lv_icmp_eq (tgt := 33) hx hb dX12_forGoesOn_17 (by decide) (fun c34 => ?_) (fun c34 => ?_)
    · refine lv_iload_n hx hb dX12_forGoesOn_33 rfl (lv_at hl 2 rfl) ?_
      refine lv_aload_n hx hb dX12_forGoesOn_34 rfl (lv_at hl 0 rfl) ?_
      refine r_get (v := .ref (a 13)) hx hb hown hq hE hP 21 50 tFX12_21 (by decide) pw_1443 rfl dX12_forGoesOn_35 ?_
      refine lv_iload_n hx hb dX12_forGoesOn_38 rfl (lv_at hl 1 rfl) ?_
      refine r_ldi (f := (B 13)) (j := p9) hx hb hE hP 13 (ma_13 G a _) rfl (by omega) (by decide) dX12_forGoesOn_39 ?_
      refine lv_icmp_eq (tgt := 51) hx hb dX12_forGoesOn_40 (by decide) (fun c35 => ?_) (fun c35 => ?_)
      · obtain ⟨ht1, ⟨j1, ha1, ha2, ha3⟩, v9, hb1, hb2, hb3⟩ := (hR.g36 (uc := uc0) (mu := 0) hp hst hkd).2.2 ((congrFun hw13 _).symm.trans c35.symm)
        refine lv_aload_n hx hb dX12_forGoesOn_51 rfl (lv_at hl 0 rfl) ?_
        have hP : va_P G.1 pCl (mW G h0 a (upd (upd (upd (upd (upd (upd (upd (upd (upd (upd F 102 (nI op)) 111 (nI tp)) 115 (nI wn)) 116 (-1)) 117 (nI fu)) 118 rs0) 119 uc0) 125 nw) 126 isn) 111 (nI tp)) (updA B 68 (B 68))) _ := mW_to (F := F) (l1 := [(102, (nI op)), (111, (nI tp)), (115, (nI wn)), (116, (-1)), (117, (nI fu)), (118, rs0), (119, uc0), (125, nw), (126, isn)]) (l2 := [(102, (nI op)), (111, (nI tp)), (115, (nI wn)), (116, (-1)), (117, (nI fu)), (118, rs0), (119, uc0), (125, nw), (126, isn), (111, (nI tp))]) (V := [(nI op), (nI tp), (nI wn), (-1), (nI fu), rs0, uc0, nw, isn, (nI op), (nI tp), (nI wn), (-1), (nI fu), rs0, uc0, nw, isn, (nI tp)]) rfl rfl (show B = (updA B 68 (B 68)) from updsA_eq2 (F := B) (l1 := []) (l2 := [(68, (B 68))]) (V := [(B 68)]) rfl rfl) hP
        have hD : va_D A (mW G h0 a (upd (upd (upd (upd (upd (upd (upd (upd (upd (upd F 102 (nI op)) 111 (nI tp)) 115 (nI wn)) 116 (-1)) 117 (nI fu)) 118 rs0) 119 uc0) 125 nw) 126 isn) 111 (nI tp)) (updA B 68 (B 68))) := mW_D hD
        refine pc_V0 (G := G) (As := []) (rest := []) hx hb hml hown hq hE hX pX0_al hP hD hS hA hl.1 (R_pop l G h0 a (upd (upd (upd (upd (upd (upd (upd (upd (upd F 102 (nI op)) 111 (nI tp)) 115 (nI wn)) 116 (-1)) 117 (nI fu)) 118 rs0) 119 uc0) 125 nw) 126 isn) B tp (B 68) (by omega)) (gV pw_2082 pw_2083 pw_2084 pw_1523 pw_1965) hV_X12_pop 0 9 rfl rfl rfl rfl (Nat.le_of_ble_eq_true rfl) dX12_forGoesOn_52 ⟨Nat.le_of_ble_eq_true rfl, Nat.le_of_ble_eq_true rfl⟩ ⟨Nat.le_of_ble_eq_true rfl, Nat.le_of_ble_eq_true rfl⟩ (fun v38 u36 H locs hw37 hP hD hS => ?_)
        obtain rfl : v38 = some (.int ((B 68) (tp - 1))) := hw37
        have hP : va_P G.1 pCl (mW G h0 a (upd (upd (upd (upd (upd (upd (upd (upd (upd F 102 (nI op)) 111 (nI (tp - 1))) 115 (nI wn)) 116 (-1)) 117 (nI fu)) 118 rs0) 119 uc0) 125 nw) 126 isn) B) _ := mW_to (F := F) (l1 := [(102, (nI op)), (111, (nI tp)), (115, (nI wn)), (116, (-1)), (117, (nI fu)), (118, rs0), (119, uc0), (125, nw), (126, isn), (111, (nI (tp - 1)))]) (l2 := [(102, (nI op)), (111, (nI (tp - 1))), (115, (nI wn)), (116, (-1)), (117, (nI fu)), (118, rs0), (119, uc0), (125, nw), (126, isn)]) (V := [(nI op), (nI (tp - 1)), (nI wn), (-1), (nI fu), rs0, uc0, nw, isn, (nI (tp - 1)), (nI op), (nI (tp - 1)), (nI wn), (-1), (nI fu), rs0, uc0, nw, isn]) rfl rfl (show (updA B 68 (B 68)) = B from updsA_eq2 (F := B) (l1 := [(68, (B 68))]) (l2 := []) (V := [(B 68)]) rfl rfl) hP
        have hD : va_D A (mW G h0 a (upd (upd (upd (upd (upd (upd (upd (upd (upd F 102 (nI op)) 111 (nI (tp - 1))) 115 (nI wn)) 116 (-1)) 117 (nI fu)) 118 rs0) 119 uc0) 125 nw) 126 isn) B) := mW_D hD
        refine W.widen (k := 0) (n := 0) (Nat.le_of_ble_eq_true rfl) (Nat.le_of_ble_eq_true rfl) ?_
        refine W.eq (g2 := F0 m 55 ls [.int ((B 68) (tp - 1))]) rfl ?_
        refine lv_iconst (v := 1) hx hb dX12_forGoesOn_55 (by decide) ?_
        refine lv_icmp_ne (tgt := 72) hx hb dX12_forGoesOn_56 (by decide) (fun c39 => ?_) (fun c39 => ?_)
        · refine lv_aload_n hx hb dX12_forGoesOn_72 rfl (lv_at hl 0 rfl) ?_
          refine r_get (v := .ref (a 63)) hx hb hown hq hE hP 104 202 tFX12_104 (by decide) pw_1495 rfl dX12_forGoesOn_73 ?_
          refine lv_aload_n hx hb dX12_forGoesOn_76 rfl (lv_at hl 0 rfl) ?_
          refine r_get (v := .int (nI op)) hx hb hown hq hE hP 102 707 tFX12_102 (by decide) pw_1969 rfl dX12_forGoesOn_77 ?_
          refine lv_iconst (v := 1) hx hb dX12_forGoesOn_80 (by decide) ?_
          refine lv_isub hx hb dX12_forGoesOn_81 ?_
          refine lv_topi (fun x40 e41 => ?_)
          obtain rfl : x40 = nI (op - 1) := e41.trans (nI_subN (a := 1) (b := op) (by omega))
          refine lv_aload_n hx hb dX12_forGoesOn_82 rfl (lv_at hl 0 rfl) ?_
          refine r_get (v := .ref (a 18)) hx hb hown hq hE hP 26 65 tFX12_26 (by decide) pw_1448 rfl dX12_forGoesOn_83 ?_
          refine lv_iload_n hx hb dX12_forGoesOn_86 rfl (lv_at hl 1 rfl) ?_
          refine r_ldi (f := (B 18)) (j := p9) hx hb hE hP 18 (ma_18 G a _) rfl (by omega) (by decide) dX12_forGoesOn_87 ?_
          refine lv_topi (fun x42 e43 => ?_)
          obtain rfl : x42 = nI v9 := e43.trans hb1
          refine r_sti (f := (B 63)) (j := (op - 1)) hx hb hE hP hD hS 63 (ma_63 G a _) rfl (mas_63 G a _) (by omega) (by decide) dX12_forGoesOn_88 (fun H locs hP hD hS => ?_)
          refine lv_aload_n hx hb dX12_forGoesOn_89 rfl (lv_at hl 0 rfl) ?_
          refine lv_iload_n hx hb dX12_forGoesOn_90 rfl (lv_at hl 1 rfl) ?_
          have hP : va_P G.1 pCl (mW G h0 a (upd (upd (upd (upd (upd (upd (upd (upd (upd F 102 (nI op)) 111 (nI (tp - 1))) 115 (nI wn)) 116 (-1)) 117 (nI fu)) 118 rs0) 119 uc0) 125 nw) 126 isn) (updA B 63 (upd (B 63) (op - 1) (nI v9)))) _ := hP
          have hD : va_D A (mW G h0 a (upd (upd (upd (upd (upd (upd (upd (upd (upd F 102 (nI op)) 111 (nI (tp - 1))) 115 (nI wn)) 116 (-1)) 117 (nI fu)) 118 rs0) 119 uc0) 125 nw) 126 isn) (updA B 63 (upd (B 63) (op - 1) (nI v9)))) := mW_D hD
          refine pc_V0 (G := G) (As := [.int (nI p9)]) (rest := []) hx hb hml hown hq hE hX pX0_al hP hD hS hA hl.1 (R_comesToEnd l G h0 a (upd (upd (upd (upd (upd (upd (upd (upd (upd F 102 (nI op)) 111 (nI (tp - 1))) 115 (nI wn)) 116 (-1)) 117 (nI fu)) 118 rs0) 119 uc0) 125 nw) 126 isn) (updA B 63 (upd (B 63) (op - 1) (nI v9))) (nI p9)) (gV pw_2010 pw_2011 pw_2012 pw_1523 pw_2005) hV_X12_comesToEnd 0 9 rfl rfl rfl rfl (Nat.le_of_ble_eq_true rfl) dX12_forGoesOn_91 ⟨Nat.le_of_ble_eq_true rfl, Nat.le_of_ble_eq_true rfl⟩ ⟨Nat.le_of_ble_eq_true rfl, Nat.le_of_ble_eq_true rfl⟩ (fun v46 u44 H locs hw45 hP hD hS => ?_)
          obtain rfl : v46 = none := hw45
          have hP : va_P G.1 pCl (mW G h0 a (upd (upd (upd (upd (upd (upd (upd (upd (upd F 102 (nI op)) 111 (nI (tp - 1))) 115 (nI wn)) 116 (-1)) 117 (nI fu)) 118 rs0) 119 uc0) 125 (nI p9)) 126 0) (updA B 63 (upd (B 63) (op - 1) (nI v9)))) _ := mW_to (F := F) (l1 := [(102, (nI op)), (111, (nI (tp - 1))), (115, (nI wn)), (116, (-1)), (117, (nI fu)), (118, rs0), (119, uc0), (125, nw), (126, isn), (125, (nI p9)), (126, 0)]) (l2 := [(102, (nI op)), (111, (nI (tp - 1))), (115, (nI wn)), (116, (-1)), (117, (nI fu)), (118, rs0), (119, uc0), (125, (nI p9)), (126, 0)]) (V := [(nI op), (nI (tp - 1)), (nI wn), (-1), (nI fu), rs0, uc0, (nI p9), 0, (nI p9), 0, (nI op), (nI (tp - 1)), (nI wn), (-1), (nI fu), rs0, uc0, (nI p9), 0]) rfl rfl rfl hP
          have hD : va_D A (mW G h0 a (upd (upd (upd (upd (upd (upd (upd (upd (upd F 102 (nI op)) 111 (nI (tp - 1))) 115 (nI wn)) 116 (-1)) 117 (nI fu)) 118 rs0) 119 uc0) 125 (nI p9)) 126 0) (updA B 63 (upd (B 63) (op - 1) (nI v9)))) := mW_D hD
          refine W.widen (k := 0) (n := 0) (Nat.le_of_ble_eq_true rfl) (Nat.le_of_ble_eq_true rfl) ?_
          refine W.eq (g2 := F0 m 94 ls []) rfl ?_
          have hz47 : Nx Xs (updA B 63 (upd (B 63) (op - 1) (nI v9))) gh nd T nm wr lz dc fd md pr bk M rmm fu (Phi gh ps op (rkN gh n9 true)) op (tp - 1) wn fu rd on idn fl ct ((-1) : Int32) (nI p9) (0 : Int32) uc0 := hb3
          have hP : va_P G.1 pCl (mW G h0 a (upd (upd (upd (upd (upd (upd (upd (upd (upd F 102 (nI op)) 111 (nI (tp - 1))) 115 (nI wn)) 116 ((-1) : Int32)) 117 (nI fu)) 118 rs0) 119 uc0) 125 (nI p9)) 126 (0 : Int32)) (updA B 63 (upd (B 63) (op - 1) (nI v9)))) _ := mW_to (F := F) (l1 := [(102, (nI op)), (111, (nI (tp - 1))), (115, (nI wn)), (116, (-1)), (117, (nI fu)), (118, rs0), (119, uc0), (125, (nI p9)), (126, 0)]) (l2 := [(102, (nI op)), (111, (nI (tp - 1))), (115, (nI wn)), (116, ((-1) : Int32)), (117, (nI fu)), (118, rs0), (119, uc0), (125, (nI p9)), (126, (0 : Int32))]) (V := [(nI op), (nI (tp - 1)), (nI wn), ((-1) : Int32), (nI fu), rs0, uc0, (nI p9), (0 : Int32), (nI op), (nI (tp - 1)), (nI wn), ((-1) : Int32), (nI fu), rs0, uc0, (nI p9), (0 : Int32)]) rfl rfl rfl hP
          have hD : va_D A (mW G h0 a (upd (upd (upd (upd (upd (upd (upd (upd (upd F 102 (nI op)) 111 (nI (tp - 1))) 115 (nI wn)) 116 ((-1) : Int32)) 117 (nI fu)) 118 rs0) 119 uc0) 125 (nI p9)) 126 (0 : Int32)) (updA B 63 (upd (B 63) (op - 1) (nI v9)))) := mW_D hD
          exact W.vret hx hb hr (fun t9 ht9 hW9 => ⟨⟨_, (op, (tp - 1), wn, fu, ((-1) : Int32), (nI p9), (0 : Int32), rs0, uc0, (updA B 63 (upd (B 63) (op - 1) (nI v9)))), rfl, ⟨rfl, hz47⟩, by rw [ht9]; exact hP, hD⟩, hS.F ht9⟩) hS.2.2 dX12_forGoesOn_94
        · refine lv_aload_n hx hb dX12_forGoesOn_59 rfl (lv_at hl 0 rfl) ?_
          refine lv_aload_n hx hb dX12_forGoesOn_60 rfl (lv_at hl 0 rfl) ?_
          refine r_get (v := .ref (a 15)) hx hb hown hq hE hP 23 56 tFX12_23 (by decide) pw_1445 rfl dX12_forGoesOn_61 ?_
          refine lv_iload_n hx hb dX12_forGoesOn_64 rfl (lv_at hl 1 rfl) ?_
          refine r_ldi (f := (B 15)) (j := p9) hx hb hE hP 15 (ma_15 G a _) rfl (by omega) (by decide) dX12_forGoesOn_65 ?_
          refine lv_topi (fun x48 e49 => ?_)
          obtain rfl : x48 = nI j1 := e49.trans ((congrFun hw15 _).trans ha1)
          have hP : va_P G.1 pCl (mW G h0 a (upd (upd (upd (upd (upd (upd (upd (upd (upd F 102 (nI op)) 111 (nI (tp - 1))) 115 (nI wn)) 116 (-1)) 117 (nI fu)) 118 rs0) 119 uc0) 125 nw) 126 isn) B) _ := hP
          have hD : va_D A (mW G h0 a (upd (upd (upd (upd (upd (upd (upd (upd (upd F 102 (nI op)) 111 (nI (tp - 1))) 115 (nI wn)) 116 (-1)) 117 (nI fu)) 118 rs0) 119 uc0) 125 nw) 126 isn) B) := mW_D hD
          refine pc_V0 (G := G) (As := [.int (nI j1)]) (rest := []) hx hb hml hown hq hE hX pX0_al hP hD hS hA hl.1 (R_begin l G h0 a (upd (upd (upd (upd (upd (upd (upd (upd (upd F 102 (nI op)) 111 (nI (tp - 1))) 115 (nI wn)) 116 (-1)) 117 (nI fu)) 118 rs0) 119 uc0) 125 nw) 126 isn) B (nI j1)) (gV pw_2016 pw_2017 pw_2018 pw_1523 pw_2002) hV_X12_begin 0 9 rfl rfl rfl rfl (Nat.le_of_ble_eq_true rfl) dX12_forGoesOn_66 ⟨Nat.le_of_ble_eq_true rfl, Nat.le_of_ble_eq_true rfl⟩ ⟨Nat.le_of_ble_eq_true rfl, Nat.le_of_ble_eq_true rfl⟩ (fun v52 u50 H locs hw51 hP hD hS => ?_)
          obtain rfl : v52 = none := hw51
          have hP : va_P G.1 pCl (mW G h0 a (upd (upd (upd (upd (upd (upd (upd (upd (upd F 102 (nI op)) 111 (nI (tp - 1))) 115 (nI wn)) 116 (-1)) 117 (nI fu)) 118 rs0) 119 uc0) 125 (nI j1)) 126 1) B) _ := mW_to (F := F) (l1 := [(102, (nI op)), (111, (nI (tp - 1))), (115, (nI wn)), (116, (-1)), (117, (nI fu)), (118, rs0), (119, uc0), (125, nw), (126, isn), (125, (nI j1)), (126, 1)]) (l2 := [(102, (nI op)), (111, (nI (tp - 1))), (115, (nI wn)), (116, (-1)), (117, (nI fu)), (118, rs0), (119, uc0), (125, (nI j1)), (126, 1)]) (V := [(nI op), (nI (tp - 1)), (nI wn), (-1), (nI fu), rs0, uc0, (nI j1), 1, (nI j1), 1, (nI op), (nI (tp - 1)), (nI wn), (-1), (nI fu), rs0, uc0, (nI j1), 1]) rfl rfl rfl hP
          have hD : va_D A (mW G h0 a (upd (upd (upd (upd (upd (upd (upd (upd (upd F 102 (nI op)) 111 (nI (tp - 1))) 115 (nI wn)) 116 (-1)) 117 (nI fu)) 118 rs0) 119 uc0) 125 (nI j1)) 126 1) B) := mW_D hD
          refine W.widen (k := 0) (n := 0) (Nat.le_of_ble_eq_true rfl) (Nat.le_of_ble_eq_true rfl) ?_
          refine W.eq (g2 := F0 m 69 ls []) rfl ?_
          refine lv_goto (tgt := 94) hx hb dX12_forGoesOn_69 (by decide) ?_
          have hz53 : Nx Xs B gh nd T nm wr lz dc fd md pr bk M rmm fu (Phi gh ps op (rkN gh n9 true)) op (tp - 1) wn fu rd on idn fl ct ((-1) : Int32) (nI j1) (1 : Int32) uc0 := ha3
          have hP : va_P G.1 pCl (mW G h0 a (upd (upd (upd (upd (upd (upd (upd (upd (upd F 102 (nI op)) 111 (nI (tp - 1))) 115 (nI wn)) 116 ((-1) : Int32)) 117 (nI fu)) 118 rs0) 119 uc0) 125 (nI j1)) 126 (1 : Int32)) B) _ := mW_to (F := F) (l1 := [(102, (nI op)), (111, (nI (tp - 1))), (115, (nI wn)), (116, (-1)), (117, (nI fu)), (118, rs0), (119, uc0), (125, (nI j1)), (126, 1)]) (l2 := [(102, (nI op)), (111, (nI (tp - 1))), (115, (nI wn)), (116, ((-1) : Int32)), (117, (nI fu)), (118, rs0), (119, uc0), (125, (nI j1)), (126, (1 : Int32))]) (V := [(nI op), (nI (tp - 1)), (nI wn), ((-1) : Int32), (nI fu), rs0, uc0, (nI j1), (1 : Int32), (nI op), (nI (tp - 1)), (nI wn), ((-1) : Int32), (nI fu), rs0, uc0, (nI j1), (1 : Int32)]) rfl rfl rfl hP
          have hD : va_D A (mW G h0 a (upd (upd (upd (upd (upd (upd (upd (upd (upd F 102 (nI op)) 111 (nI (tp - 1))) 115 (nI wn)) 116 ((-1) : Int32)) 117 (nI fu)) 118 rs0) 119 uc0) 125 (nI j1)) 126 (1 : Int32)) B) := mW_D hD
          exact W.vret hx hb hr (fun t9 ht9 hW9 => ⟨⟨_, (op, (tp - 1), wn, fu, ((-1) : Int32), (nI j1), (1 : Int32), rs0, uc0, B), rfl, ⟨rfl, hz53⟩, by rw [ht9]; exact hP, hD⟩, hS.F ht9⟩) hS.2.2 dX12_forGoesOn_94
      · obtain ⟨j1, ha1, ha2, ha3⟩ := (hR.g36 (uc := uc0) (mu := (Phi gh ps op (rkN gh n9 true))) hp hst hkd).1 (fun h => c35 ((congrFun hw13 _).trans h).symm)
        refine lv_aload_n hx hb dX12_forGoesOn_43 rfl (lv_at hl 0 rfl) ?_
        refine lv_iload_n hx hb dX12_forGoesOn_44 rfl (lv_at hl 1 rfl) ?_
        have hP : va_P G.1 pCl (mW G h0 a (upd (upd (upd (upd (upd (upd (upd (upd (upd (upd (upd (upd (upd F 102 (nI op)) 111 (nI tp)) 115 (nI wn)) 116 (-1)) 117 (nI fu)) 118 rs0) 119 uc0) 125 nw) 126 isn) 116 (-1)) 117 (nI fu)) 125 nw) 126 isn) B) _ := mW_to (F := F) (l1 := [(102, (nI op)), (111, (nI tp)), (115, (nI wn)), (116, (-1)), (117, (nI fu)), (118, rs0), (119, uc0), (125, nw), (126, isn)]) (l2 := [(102, (nI op)), (111, (nI tp)), (115, (nI wn)), (116, (-1)), (117, (nI fu)), (118, rs0), (119, uc0), (125, nw), (126, isn), (116, (-1)), (117, (nI fu)), (125, nw), (126, isn)]) (V := [(nI op), (nI tp), (nI wn), (-1), (nI fu), rs0, uc0, nw, isn, (nI op), (nI tp), (nI wn), (-1), (nI fu), rs0, uc0, nw, isn, (-1), (nI fu), nw, isn]) rfl rfl rfl hP
        have hD : va_D A (mW G h0 a (upd (upd (upd (upd (upd (upd (upd (upd (upd (upd (upd (upd (upd F 102 (nI op)) 111 (nI tp)) 115 (nI wn)) 116 (-1)) 117 (nI fu)) 118 rs0) 119 uc0) 125 nw) 126 isn) 116 (-1)) 117 (nI fu)) 125 nw) 126 isn) B) := mW_D hD
        refine pc_V0 (G := G) (As := [.int (nI p9)]) (rest := []) hx hb hml hown hq hE hX pX0_al hP hD hS hA hl.1 (R_looksAt l G h0 a (upd (upd (upd (upd (upd (upd (upd (upd (upd F 102 (nI op)) 111 (nI tp)) 115 (nI wn)) 116 (-1)) 117 (nI fu)) 118 rs0) 119 uc0) 125 nw) 126 isn) B p9 fu (-1) nw isn (by omega) (by omega)) (gV pw_2029 pw_2030 pw_2031 pw_1523 pw_2025) hV_X12_looksAt 0 9 rfl rfl rfl rfl (Nat.le_of_ble_eq_true rfl) dX12_forGoesOn_45 ⟨Nat.le_of_ble_eq_true rfl, Nat.le_of_ble_eq_true rfl⟩ ⟨Nat.le_of_ble_eq_true rfl, Nat.le_of_ble_eq_true rfl⟩ (fun v56 u54 H locs hw55 hP hD hS => ?_)
        obtain ⟨r57, fu58, en59, nw60, is61⟩ := u54
        obtain ⟨hw55, h62, h63, h64, h65⟩ := hw55
        replace h62 : r57 ≤ 1 := h62
        replace h63 : fu58 + r57 = fu := h63
        replace h64 : If (r57 = 0) (en59 = 2) := h64
        replace h65 : If (r57 = 1) (en59 = (-1) ∧ is61 = 1 ∧ nw60 = lkF B p9) := h65
        obtain rfl : v56 = none := hw55
        have hP : va_P G.1 pCl (mW G h0 a (upd (upd (upd (upd (upd (upd (upd (upd (upd F 102 (nI op)) 111 (nI tp)) 115 (nI wn)) 116 en59) 117 (nI fu58)) 118 rs0) 119 uc0) 125 nw60) 126 is61) B) _ := mW_to (F := F) (l1 := [(102, (nI op)), (111, (nI tp)), (115, (nI wn)), (116, (-1)), (117, (nI fu)), (118, rs0), (119, uc0), (125, nw), (126, isn), (116, en59), (117, (nI fu58)), (125, nw60), (126, is61)]) (l2 := [(102, (nI op)), (111, (nI tp)), (115, (nI wn)), (116, en59), (117, (nI fu58)), (118, rs0), (119, uc0), (125, nw60), (126, is61)]) (V := [(nI op), (nI tp), (nI wn), en59, (nI fu58), rs0, uc0, nw60, is61, en59, (nI fu58), nw60, is61, (nI op), (nI tp), (nI wn), en59, (nI fu58), rs0, uc0, nw60, is61]) rfl rfl rfl hP
        have hD : va_D A (mW G h0 a (upd (upd (upd (upd (upd (upd (upd (upd (upd F 102 (nI op)) 111 (nI tp)) 115 (nI wn)) 116 en59) 117 (nI fu58)) 118 rs0) 119 uc0) 125 nw60) 126 is61) B) := mW_D hD
        refine W.widen (k := 0) (n := 0) (Nat.le_of_ble_eq_true rfl) (Nat.le_of_ble_eq_true rfl) ?_
        refine W.eq (g2 := F0 m 48 ls []) rfl ?_
        refine lv_goto (tgt := 94) hx hb dX12_forGoesOn_48 (by decide) ?_
        have hz66 : Nx Xs B gh nd T nm wr lz dc fd md pr bk M rmm fu (Phi gh ps op (rkN gh n9 true)) op tp wn fu58 rd on idn fl ct en59 nw60 is61 uc0 := (by rcases Nat.eq_zero_or_pos r57 with z | z; exact hR.stop Sta.rfl hR.hp (by rw [h64 z]; decide) (by rw [h64 z]; decide); obtain ⟨z1, z2, z3⟩ := h65 (by omega); rw [z1, z2, z3, ha1]; exact ha3 _ (by omega))
        have hP : va_P G.1 pCl (mW G h0 a (upd (upd (upd (upd (upd (upd (upd (upd (upd F 102 (nI op)) 111 (nI tp)) 115 (nI wn)) 116 en59) 117 (nI fu58)) 118 rs0) 119 uc0) 125 nw60) 126 is61) B) _ := hP
        have hD : va_D A (mW G h0 a (upd (upd (upd (upd (upd (upd (upd (upd (upd F 102 (nI op)) 111 (nI tp)) 115 (nI wn)) 116 en59) 117 (nI fu58)) 118 rs0) 119 uc0) 125 nw60) 126 is61) B) := mW_D hD
        exact W.vret hx hb hr (fun t9 ht9 hW9 => ⟨⟨_, (op, tp, wn, fu58, en59, nw60, is61, rs0, uc0, B), rfl, ⟨rfl, hz66⟩, by rw [ht9]; exact hP, hD⟩, hS.F ht9⟩) hS.2.2 dX12_forGoesOn_94
    · obtain ⟨j1, ha1, ha2, ha3⟩ := (hR.g36 (uc := uc0) (mu := 0) hp hst hkd).2.1 ((congrFun hw15 _).symm.trans c1.symm) c34
      refine lv_aload_n hx hb dX12_forGoesOn_20 rfl (lv_at hl 0 rfl) ?_
      refine lv_aload_n hx hb dX12_forGoesOn_21 rfl (lv_at hl 0 rfl) ?_
      refine r_get (v := .ref (a 14)) hx hb hown hq hE hP 22 53 tFX12_22 (by decide) pw_1444 rfl dX12_forGoesOn_22 ?_
      refine lv_iload_n hx hb dX12_forGoesOn_25 rfl (lv_at hl 1 rfl) ?_
      refine r_ldi (f := (B 14)) (j := p9) hx hb hE hP 14 (ma_14 G a _) rfl (by omega) (by decide) dX12_forGoesOn_26 ?_
      refine lv_topi (fun x67 e68 => ?_)
      obtain rfl : x67 = nI j1 := e68.trans ha1
      have hP : va_P G.1 pCl (mW G h0 a (upd (upd (upd (upd (upd (upd (upd (upd (upd F 102 (nI op)) 111 (nI tp)) 115 (nI wn)) 116 (-1)) 117 (nI fu)) 118 rs0) 119 uc0) 125 nw) 126 isn) B) _ := hP
      have hD : va_D A (mW G h0 a (upd (upd (upd (upd (upd (upd (upd (upd (upd F 102 (nI op)) 111 (nI tp)) 115 (nI wn)) 116 (-1)) 117 (nI fu)) 118 rs0) 119 uc0) 125 nw) 126 isn) B) := mW_D hD
      refine pc_V0 (G := G) (As := [.int (nI j1)]) (rest := []) hx hb hml hown hq hE hX pX0_al hP hD hS hA hl.1 (R_begin l G h0 a (upd (upd (upd (upd (upd (upd (upd (upd (upd F 102 (nI op)) 111 (nI tp)) 115 (nI wn)) 116 (-1)) 117 (nI fu)) 118 rs0) 119 uc0) 125 nw) 126 isn) B (nI j1)) (gV pw_2016 pw_2017 pw_2018 pw_1523 pw_2002) hV_X12_begin 0 9 rfl rfl rfl rfl (Nat.le_of_ble_eq_true rfl) dX12_forGoesOn_27 ⟨Nat.le_of_ble_eq_true rfl, Nat.le_of_ble_eq_true rfl⟩ ⟨Nat.le_of_ble_eq_true rfl, Nat.le_of_ble_eq_true rfl⟩ (fun v71 u69 H locs hw70 hP hD hS => ?_)
      obtain rfl : v71 = none := hw70
      have hP : va_P G.1 pCl (mW G h0 a (upd (upd (upd (upd (upd (upd (upd (upd (upd F 102 (nI op)) 111 (nI tp)) 115 (nI wn)) 116 (-1)) 117 (nI fu)) 118 rs0) 119 uc0) 125 (nI j1)) 126 1) B) _ := mW_to (F := F) (l1 := [(102, (nI op)), (111, (nI tp)), (115, (nI wn)), (116, (-1)), (117, (nI fu)), (118, rs0), (119, uc0), (125, nw), (126, isn), (125, (nI j1)), (126, 1)]) (l2 := [(102, (nI op)), (111, (nI tp)), (115, (nI wn)), (116, (-1)), (117, (nI fu)), (118, rs0), (119, uc0), (125, (nI j1)), (126, 1)]) (V := [(nI op), (nI tp), (nI wn), (-1), (nI fu), rs0, uc0, (nI j1), 1, (nI j1), 1, (nI op), (nI tp), (nI wn), (-1), (nI fu), rs0, uc0, (nI j1), 1]) rfl rfl rfl hP
      have hD : va_D A (mW G h0 a (upd (upd (upd (upd (upd (upd (upd (upd (upd F 102 (nI op)) 111 (nI tp)) 115 (nI wn)) 116 (-1)) 117 (nI fu)) 118 rs0) 119 uc0) 125 (nI j1)) 126 1) B) := mW_D hD
      refine W.widen (k := 0) (n := 0) (Nat.le_of_ble_eq_true rfl) (Nat.le_of_ble_eq_true rfl) ?_
      refine W.eq (g2 := F0 m 30 ls []) rfl ?_
      refine lv_goto (tgt := 94) hx hb dX12_forGoesOn_30 (by decide) ?_
      have hz72 : Nx Xs B gh nd T nm wr lz dc fd md pr bk M rmm fu (Phi gh ps op (rkN gh n9 true)) op tp wn fu rd on idn fl ct ((-1) : Int32) (nI j1) (1 : Int32) uc0 := ha3
      have hP : va_P G.1 pCl (mW G h0 a (upd (upd (upd (upd (upd (upd (upd (upd (upd F 102 (nI op)) 111 (nI tp)) 115 (nI wn)) 116 ((-1) : Int32)) 117 (nI fu)) 118 rs0) 119 uc0) 125 (nI j1)) 126 (1 : Int32)) B) _ := mW_to (F := F) (l1 := [(102, (nI op)), (111, (nI tp)), (115, (nI wn)), (116, (-1)), (117, (nI fu)), (118, rs0), (119, uc0), (125, (nI j1)), (126, 1)]) (l2 := [(102, (nI op)), (111, (nI tp)), (115, (nI wn)), (116, ((-1) : Int32)), (117, (nI fu)), (118, rs0), (119, uc0), (125, (nI j1)), (126, (1 : Int32))]) (V := [(nI op), (nI tp), (nI wn), ((-1) : Int32), (nI fu), rs0, uc0, (nI j1), (1 : Int32), (nI op), (nI tp), (nI wn), ((-1) : Int32), (nI fu), rs0, uc0, (nI j1), (1 : Int32)]) rfl rfl rfl hP
      have hD : va_D A (mW G h0 a (upd (upd (upd (upd (upd (upd (upd (upd (upd F 102 (nI op)) 111 (nI tp)) 115 (nI wn)) 116 ((-1) : Int32)) 117 (nI fu)) 118 rs0) 119 uc0) 125 (nI j1)) 126 (1 : Int32)) B) := mW_D hD
      exact W.vret hx hb hr (fun t9 ht9 hW9 => ⟨⟨_, (op, tp, wn, fu, ((-1) : Int32), (nI j1), (1 : Int32), rs0, uc0, B), rfl, ⟨rfl, hz72⟩, by rw [ht9]; exact hP, hD⟩, hS.F ht9⟩) hS.2.2 dX12_forGoesOn_94
theorem dX12_tryGoesOn_0 : decode cX12_tryGoesOn 0 = .ok (.iload_n 2, 1) := by decide +kernel
theorem dX12_tryGoesOn_1 : decode cX12_tryGoesOn 1 = .ok (.aload_n 0, 1) := by decide +kernel
theorem dX12_tryGoesOn_2 : decode cX12_tryGoesOn 2 = .ok (.getfield 53, 3) := by decide +kernel
theorem dX12_tryGoesOn_5 : decode cX12_tryGoesOn 5 = .ok (.iload_n 1, 1) := by decide +kernel
theorem dX12_tryGoesOn_6 : decode cX12_tryGoesOn 6 = .ok (.iaload, 1) := by decide +kernel
theorem dX12_tryGoesOn_7 : decode cX12_tryGoesOn 7 = .ok (.if_icmp .ne 68, 3) := by decide +kernel
theorem dX12_tryGoesOn_75 : decode cX12_tryGoesOn 75 = .ok (.aload_n 0, 1) := by decide +kernel
theorem dX12_tryGoesOn_76 : decode cX12_tryGoesOn 76 = .ok (.getfield 53, 3) := by decide +kernel
theorem dX12_tryGoesOn_79 : decode cX12_tryGoesOn 79 = .ok (.iload_n 1, 1) := by decide +kernel
theorem dX12_tryGoesOn_80 : decode cX12_tryGoesOn 80 = .ok (.iaload, 1) := by decide +kernel
theorem dX12_tryGoesOn_81 : decode cX12_tryGoesOn 81 = .ok (.iconst (-1), 1) := by decide +kernel
theorem dX12_tryGoesOn_82 : decode cX12_tryGoesOn 82 = .ok (.if_icmp .ne 11, 3) := by decide +kernel
theorem dX12_tryGoesOn_93 : decode cX12_tryGoesOn 93 = .ok (.aload_n 0, 1) := by decide +kernel
theorem dX12_tryGoesOn_94 : decode cX12_tryGoesOn 94 = .ok (.iload_n 1, 1) := by decide +kernel
theorem dX12_tryGoesOn_95 : decode cX12_tryGoesOn 95 = .ok (.iconst 0, 1) := by decide +kernel
theorem dX12_tryGoesOn_96 : decode cX12_tryGoesOn 96 = .ok (.iconst 0, 1) := by decide +kernel
theorem dX12_tryGoesOn_97 : decode cX12_tryGoesOn 97 = .ok (.iconst 0, 1) := by decide +kernel
theorem dX12_tryGoesOn_98 : decode cX12_tryGoesOn 98 = .ok (.invokevirtual 867, 3) := by decide +kernel
theorem dX12_tryGoesOn_101 : decode cX12_tryGoesOn 101 = .ok (.return_, 1) := by decide +kernel
theorem dX12_tryGoesOn_85 : decode cX12_tryGoesOn 85 = .ok (.aload_n 0, 1) := by decide +kernel
theorem dX12_tryGoesOn_86 : decode cX12_tryGoesOn 86 = .ok (.iload_n 1, 1) := by decide +kernel
theorem dX12_tryGoesOn_87 : decode cX12_tryGoesOn 87 = .ok (.invokevirtual 760, 3) := by decide +kernel
theorem dX12_tryGoesOn_90 : decode cX12_tryGoesOn 90 = .ok (.goto 11, 3) := by decide +kernel
theorem dX12_tryGoesOn_10 : decode cX12_tryGoesOn 10 = .ok (.aload_n 0, 1) := by decide +kernel
theorem dX12_tryGoesOn_11 : decode cX12_tryGoesOn 11 = .ok (.dup, 1) := by decide +kernel
theorem dX12_tryGoesOn_12 : decode cX12_tryGoesOn 12 = .ok (.getfield 713, 3) := by decide +kernel
theorem dX12_tryGoesOn_15 : decode cX12_tryGoesOn 15 = .ok (.iconst 1, 1) := by decide +kernel
theorem dX12_tryGoesOn_16 : decode cX12_tryGoesOn 16 = .ok (.isub, 1) := by decide +kernel
theorem dX12_tryGoesOn_17 : decode cX12_tryGoesOn 17 = .ok (.putfield 713, 3) := by decide +kernel
theorem dX12_tryGoesOn_20 : decode cX12_tryGoesOn 20 = .ok (.aload_n 0, 1) := by decide +kernel
theorem dX12_tryGoesOn_21 : decode cX12_tryGoesOn 21 = .ok (.getfield 224, 3) := by decide +kernel
theorem dX12_tryGoesOn_24 : decode cX12_tryGoesOn 24 = .ok (.aload_n 0, 1) := by decide +kernel
theorem dX12_tryGoesOn_25 : decode cX12_tryGoesOn 25 = .ok (.getfield 713, 3) := by decide +kernel
theorem dX12_tryGoesOn_28 : decode cX12_tryGoesOn 28 = .ok (.iaload, 1) := by decide +kernel
theorem dX12_tryGoesOn_29 : decode cX12_tryGoesOn 29 = .ok (.ifCond .ne 11, 3) := by decide +kernel
theorem dX12_tryGoesOn_40 : decode cX12_tryGoesOn 40 = .ok (.aload_n 0, 1) := by decide +kernel
theorem dX12_tryGoesOn_41 : decode cX12_tryGoesOn 41 = .ok (.iload_n 1, 1) := by decide +kernel
theorem dX12_tryGoesOn_42 : decode cX12_tryGoesOn 42 = .ok (.aload_n 0, 1) := by decide +kernel
theorem dX12_tryGoesOn_43 : decode cX12_tryGoesOn 43 = .ok (.getfield 224, 3) := by decide +kernel
theorem dX12_tryGoesOn_46 : decode cX12_tryGoesOn 46 = .ok (.aload_n 0, 1) := by decide +kernel
theorem dX12_tryGoesOn_47 : decode cX12_tryGoesOn 47 = .ok (.getfield 713, 3) := by decide +kernel
theorem dX12_tryGoesOn_50 : decode cX12_tryGoesOn 50 = .ok (.iaload, 1) := by decide +kernel
theorem dX12_tryGoesOn_51 : decode cX12_tryGoesOn 51 = .ok (.aload_n 0, 1) := by decide +kernel
theorem dX12_tryGoesOn_52 : decode cX12_tryGoesOn 52 = .ok (.getfield 227, 3) := by decide +kernel
theorem dX12_tryGoesOn_55 : decode cX12_tryGoesOn 55 = .ok (.aload_n 0, 1) := by decide +kernel
theorem dX12_tryGoesOn_56 : decode cX12_tryGoesOn 56 = .ok (.getfield 713, 3) := by decide +kernel
theorem dX12_tryGoesOn_59 : decode cX12_tryGoesOn 59 = .ok (.iaload, 1) := by decide +kernel
theorem dX12_tryGoesOn_60 : decode cX12_tryGoesOn 60 = .ok (.aload_n 0, 1) := by decide +kernel
theorem dX12_tryGoesOn_61 : decode cX12_tryGoesOn 61 = .ok (.getfield 230, 3) := by decide +kernel
theorem dX12_tryGoesOn_64 : decode cX12_tryGoesOn 64 = .ok (.aload_n 0, 1) := by decide +kernel
theorem dX12_tryGoesOn_65 : decode cX12_tryGoesOn 65 = .ok (.getfield 713, 3) := by decide +kernel
theorem dX12_tryGoesOn_68 : decode cX12_tryGoesOn 68 = .ok (.baload, 1) := by decide +kernel
theorem dX12_tryGoesOn_69 : decode cX12_tryGoesOn 69 = .ok (.invokevirtual 815, 3) := by decide +kernel
theorem dX12_tryGoesOn_72 : decode cX12_tryGoesOn 72 = .ok (.goto 29, 3) := by decide +kernel
theorem dX12_tryGoesOn_32 : decode cX12_tryGoesOn 32 = .ok (.aload_n 0, 1) := by decide +kernel
theorem dX12_tryGoesOn_33 : decode cX12_tryGoesOn 33 = .ok (.iload_n 1, 1) := by decide +kernel
theorem dX12_tryGoesOn_34 : decode cX12_tryGoesOn 34 = .ok (.invokevirtual 760, 3) := by decide +kernel
theorem dX12_tryGoesOn_37 : decode cX12_tryGoesOn 37 = .ok (.goto 64, 3) := by decide +kernel
set_option maxHeartbeats 16000000 in
set_option maxRecDepth 100000 in
/-- tryGoesOn(p, n) -/
theorem R_tryGoesOn (l : Launch) (G : pT) (h0 : Nat) (a : Nat → Nat) (F : Nat → Int32) (B : Nat → Nat → Int32) (Xs : Nat → Nat → Int32) (gh : Nat → Nat → Nat) (nd : Nat) (T : Nat) (nm : Nat) (wr : Nat) (lz : Nat) (dc : Nat) (fd : Nat) (md : Nat) (pr : Nat) (bk : Nat) (M : MTb) (rmm : Nat) (op : Nat) (tp : Nat) (wn : Nat) (fu : Nat) (rd : Nat) (on : Nat) (idn : Nat) (fl : Nat) (ct : Nat) (n9 : Nat) (p9 : Nat) (u : Ps) (mt : Nat → Nat) (ps : Nat → Nat) (yy : Nat → Ps) (bf : Nat → Nat) (wf : Nat → Nat) (nw : Int32) (isn : Int32) (rs0 : Int32) (uc0 : Int32) (hR : Rn Xs B gh nd T nm wr lz dc fd md pr bk M rmm op tp wn fu rd on idn fl ct n9 true mt ps yy bf wf) (hp : Pv Xs (M.1 (mt (op - 1))) (rtP M (mt (op - 1))) p9 u) (hst : stq Xs p9 u n9 (yy (op - 1))) (hfu : fu ≤ 20000) (hkd : Xs 9 p9 = nI 41) : PM l G pX0 yX12_tryGoesOn cX12_tryGoesOn 3 none ({ frames := 6, cells := 0, slots := 0, locals := 152 }) [.ref h0, .int (nI p9), .int (nI n9)] (mW G h0 a (upd (upd (upd (upd (upd (upd (upd (upd (upd F 102 (nI op)) 111 (nI tp)) 115 (nI wn)) 116 (-1)) 117 (nI fu)) 118 rs0) 119 uc0) 125 nw) 126 isn) B) (fun (v : Option Value) (u : Nat × Nat × Nat × Nat × Int32 × Int32 × Int32 × Int32 × Int32 × (Nat → Nat → Int32)) => v = none ∧ (Nx Xs u.2.2.2.2.2.2.2.2.2 gh nd T nm wr lz dc fd md pr bk M rmm fu (Phi gh ps op (rkN gh n9 true)) u.1 u.2.1 u.2.2.1 u.2.2.2.1 rd on idn fl ct u.2.2.2.2.1 u.2.2.2.2.2.1 u.2.2.2.2.2.2.1 u.2.2.2.2.2.2.2.2.1)) (fun u => (mW G h0 a (upd (upd (upd (upd (upd (upd (upd (upd (upd F 102 (nI u.1)) 111 (nI u.2.1)) 115 (nI u.2.2.1)) 116 u.2.2.2.2.1) 117 (nI u.2.2.2.1)) 118 u.2.2.2.2.2.2.2.1) 119 u.2.2.2.2.2.2.2.2.1) 125 u.2.2.2.2.2.1) 126 u.2.2.2.2.2.2.1) u.2.2.2.2.2.2.2.2.2)) := by
  intro sz
  refine Met.ofW (cc := cX12_tryGoesOn) (maxL := 3) (ret := none) (by decide) rfl ?_
  intro p e s m args below meth c s₁ B9 hml hv
  obtain ⟨rfl, hsz, hP, hD0, hE, hX⟩ := hv
  have hx := B9.exec
  have hb := B9.bytes
  have hr := B9.returns
  have hts := atoms_spec (ws := Cond.code yX12_tryGoesOn cX12_tryGoesOn 3 none :: pw) B9.pre
  have hq : ∀ w ∈ pw, w.before _ s = true := fun w h => hts w (List.mem_cons_of_mem _ h)
  have hown : s.vm.findClass RX12 = some m.cls := findClass_of_methodNamed B9.named
  have hlocks := B9.notSynchronized
  subst hsz
  have hD := hD0.self (sz := s.heap.size)
  have hA : ∀ q : Nat, s.heap.size ≤ q → va_A (mW G h0 a (upd (upd (upd (upd (upd (upd (upd (upd (upd F 102 (nI op)) 111 (nI tp)) 115 (nI wn)) 116 (-1)) 117 (nI fu)) 118 rs0) 119 uc0) 125 nw) 126 isn) B) s.heap.size q := fun q h => Or.inr h
  have hP : va_P G.1 pCl (mW G h0 a (upd (upd (upd (upd (upd (upd (upd (upd (upd F 102 (nI op)) 111 (nI tp)) 115 (nI wn)) 116 (-1)) 117 (nI fu)) 118 rs0) 119 uc0) 125 nw) 126 isn) B) s.heap := hP
  generalize va_A (mW G h0 a (upd (upd (upd (upd (upd (upd (upd (upd (upd F 102 (nI op)) 111 (nI tp)) 115 (nI wn)) 116 (-1)) 117 (nI fu)) 118 rs0) 119 uc0) 125 nw) 126 isn) B) s.heap.size = A at hD hE hA ⊢
  have hS : va_S A s.heap s.heap [] := va_S.rf
  have hl := lv_entry ([.ref h0, .int (nI p9), .int (nI n9)]) (n := 3) (Nat.le_of_ble_eq_true rfl)
  rw [lg_entry_eq]
  generalize (lg_sl ([.ref h0, .int (nI p9), .int (nI n9)]) ++ List.replicate (3 - (lg_sl ([.ref h0, .int (nI p9), .int (nI n9)])).length) Slot.unset).toArray = ls at hl ⊢
  have hl : lv_has ls 3 [(0, .ref h0), (1, .int (nI p9)), (2, .int (nI n9))] := hl
  have hPg := hR.pg
  have hbd := hPg.bd
  have hrm := hR.room
  have hpn := hR.pn hp
  have hy14 := hR.y14 hp hkd (by omega)
  refine lv_iload_n hx hb dX12_tryGoesOn_0 rfl (lv_at hl 2 rfl) ?_
  refine lv_aload_n hx hb dX12_tryGoesOn_1 rfl (lv_at hl 0 rfl) ?_
  refine r_get (v := .ref (a 14)) hx hb hown hq hE hP 22 53 tFX12_22 (by decide) pw_1444 rfl dX12_tryGoesOn_2 ?_
  refine lv_iload_n hx hb dX12_tryGoesOn_5 rfl (lv_at hl 1 rfl) ?_
  refine r_ldi (f := (B 14)) (j := p9) hx hb hE hP 14 (ma_14 G a _) rfl (by omega) (by decide) dX12_tryGoesOn_6 ?_
  refine lv_icmp_ne (tgt := 75) hx hb dX12_tryGoesOn_7 (by decide) (fun c1 => ?_) (fun c1 => ?_)
  · obtain ⟨ht1, hs1, hs2⟩ := hR.g41 (uc := uc0) hp hst hkd (fun h => c1 (hy14.trans h).symm)
    refine lv_aload_n hx hb dX12_tryGoesOn_75 rfl (lv_at hl 0 rfl) ?_
    refine r_get (v := .ref (a 14)) hx hb hown hq hE hP 22 53 tFX12_22 (by decide) pw_1444 rfl dX12_tryGoesOn_76 ?_
    refine lv_iload_n hx hb dX12_tryGoesOn_79 rfl (lv_at hl 1 rfl) ?_
    refine r_ldi (f := (B 14)) (j := p9) hx hb hE hP 14 (ma_14 G a _) rfl (by omega) (by decide) dX12_tryGoesOn_80 ?_
    refine lv_iconst (v := (-1)) hx hb dX12_tryGoesOn_81 (by decide) ?_
    refine lv_icmp_ne (tgt := 93) hx hb dX12_tryGoesOn_82 (by decide) (fun c2 => ?_) (fun c2 => ?_)
    · refine lv_aload_n hx hb dX12_tryGoesOn_93 rfl (lv_at hl 0 rfl) ?_
      refine lv_iload_n hx hb dX12_tryGoesOn_94 rfl (lv_at hl 1 rfl) ?_
      refine lv_iconst (v := 0) hx hb dX12_tryGoesOn_95 (by decide) ?_
      refine lv_iconst (v := 0) hx hb dX12_tryGoesOn_96 (by decide) ?_
      refine lv_iconst (v := 0) hx hb dX12_tryGoesOn_97 (by decide) ?_
      obtain ⟨v9, j1, hg1, hg2, hg3, hg4, hg5⟩ := hs2 c2
      have hP : va_P G.1 pCl (mW G h0 a (upd (upd (upd (upd (upd (upd (upd (upd (upd (upd (upd F 102 (nI op)) 111 (nI tp)) 115 (nI wn)) 116 (-1)) 117 (nI fu)) 118 rs0) 119 uc0) 125 nw) 126 isn) 102 (nI op)) 115 (nI wn)) (updA (updA (updA (updA B 63 (B 63)) 70 (B 70)) 71 (B 71)) 72 (B 72))) _ := mW_to (F := F) (l1 := [(102, (nI op)), (111, (nI tp)), (115, (nI wn)), (116, (-1)), (117, (nI fu)), (118, rs0), (119, uc0), (125, nw), (126, isn)]) (l2 := [(102, (nI op)), (111, (nI tp)), (115, (nI wn)), (116, (-1)), (117, (nI fu)), (118, rs0), (119, uc0), (125, nw), (126, isn), (102, (nI op)), (115, (nI wn))]) (V := [(nI op), (nI tp), (nI wn), (-1), (nI fu), rs0, uc0, nw, isn, (nI op), (nI tp), (nI wn), (-1), (nI fu), rs0, uc0, nw, isn, (nI op), (nI wn)]) rfl rfl (show B = (updA (updA (updA (updA B 63 (B 63)) 70 (B 70)) 71 (B 71)) 72 (B 72)) from updsA_eq2 (F := B) (l1 := []) (l2 := [(63, (B 63)), (70, (B 70)), (71, (B 71)), (72, (B 72))]) (V := [(B 63), (B 70), (B 71), (B 72)]) rfl rfl) hP
      have hD : va_D A (mW G h0 a (upd (upd (upd (upd (upd (upd (upd (upd (upd (upd (upd F 102 (nI op)) 111 (nI tp)) 115 (nI wn)) 116 (-1)) 117 (nI fu)) 118 rs0) 119 uc0) 125 nw) 126 isn) 102 (nI op)) 115 (nI wn)) (updA (updA (updA (updA B 63 (B 63)) 70 (B 70)) 71 (B 71)) 72 (B 72))) := mW_D hD
      refine pc_V0 (G := G) (As := [.int (nI p9), .int 0, .int 0, .int (nI 0)]) (rest := []) hx hb hml hown hq hE hX pX0_al hP hD hS hA hl.1 (R_waitsFor l G h0 a (upd (upd (upd (upd (upd (upd (upd (upd (upd F 102 (nI op)) 111 (nI tp)) 115 (nI wn)) 116 (-1)) 117 (nI fu)) 118 rs0) 119 uc0) 125 nw) 126 isn) B p9 op wn 0 0 0 (B 70) (B 71) (B 72) (B 63) (by omega) (by omega) (by omega) (by omega)) (gV pw_2043 pw_2044 pw_2045 pw_1523 pw_2024) hV_X12_waitsFor 0 9 rfl rfl rfl rfl (Nat.le_of_ble_eq_true rfl) dX12_tryGoesOn_98 ⟨Nat.le_of_ble_eq_true rfl, Nat.le_of_ble_eq_true rfl⟩ ⟨Nat.le_of_ble_eq_true rfl, Nat.le_of_ble_eq_true rfl⟩ (fun v5 u3 H locs hw4 hP hD hS => ?_)
      obtain ⟨wf6, rfl⟩ : ∃ z, z = u3 := ⟨_, rfl⟩
      obtain ⟨hw4, h7⟩ := hw4
      replace h7 : wf6 = upd (B 72) wn (nI 0) := h7
      obtain rfl : v5 = none := hw4
      have hP : va_P G.1 pCl (mW G h0 a (upd (upd (upd (upd (upd (upd (upd (upd (upd F 102 (nI op)) 111 (nI tp)) 115 (nI (wn + 1))) 116 (-1)) 117 (nI fu)) 118 rs0) 119 uc0) 125 ((B 14) p9)) 126 1) (updA (updA (updA (updA B 63 (upd (B 63) (op - 1) ((B 18) p9))) 70 (upd (B 70) wn 0)) 71 (upd (B 71) wn 0)) 72 wf6)) _ := mW_to (F := F) (l1 := [(102, (nI op)), (111, (nI tp)), (115, (nI wn)), (116, (-1)), (117, (nI fu)), (118, rs0), (119, uc0), (125, nw), (126, isn), (102, (nI op)), (115, (nI (wn + 1))), (125, (B 14 p9)), (126, 1)]) (l2 := [(102, (nI op)), (111, (nI tp)), (115, (nI (wn + 1))), (116, (-1)), (117, (nI fu)), (118, rs0), (119, uc0), (125, ((B 14) p9)), (126, 1)]) (V := [(nI op), (nI tp), (nI (wn + 1)), (-1), (nI fu), rs0, uc0, ((B 14) p9), 1, (nI op), (nI (wn + 1)), ((B 14) p9), 1, (nI op), (nI tp), (nI (wn + 1)), (-1), (nI fu), rs0, uc0, ((B 14) p9), 1]) rfl rfl (show (updA (updA (updA (updA B 63 (upd (B 63) (op - 1) (B 18 p9))) 70 (upd (B 70) wn 0)) 71 (upd (B 71) wn 0)) 72 wf6) = (updA (updA (updA (updA B 63 (upd (B 63) (op - 1) ((B 18) p9))) 70 (upd (B 70) wn 0)) 71 (upd (B 71) wn 0)) 72 wf6) from updsA_eq2 (F := B) (l1 := [(63, (upd (B 63) (op - 1) (B 18 p9))), (70, (upd (B 70) wn 0)), (71, (upd (B 71) wn 0)), (72, wf6)]) (l2 := [(63, (upd (B 63) (op - 1) ((B 18) p9))), (70, (upd (B 70) wn 0)), (71, (upd (B 71) wn 0)), (72, wf6)]) (V := [(upd (B 63) (op - 1) ((B 18) p9)), (upd (B 70) wn 0), (upd (B 71) wn 0), wf6, (upd (B 63) (op - 1) ((B 18) p9)), (upd (B 70) wn 0), (upd (B 71) wn 0), wf6]) rfl rfl) hP
      have hD : va_D A (mW G h0 a (upd (upd (upd (upd (upd (upd (upd (upd (upd F 102 (nI op)) 111 (nI tp)) 115 (nI (wn + 1))) 116 (-1)) 117 (nI fu)) 118 rs0) 119 uc0) 125 ((B 14) p9)) 126 1) (updA (updA (updA (updA B 63 (upd (B 63) (op - 1) ((B 18) p9))) 70 (upd (B 70) wn 0)) 71 (upd (B 71) wn 0)) 72 wf6)) := mW_D hD
      refine W.widen (k := 0) (n := 0) (Nat.le_of_ble_eq_true rfl) (Nat.le_of_ble_eq_true rfl) ?_
      refine W.eq (g2 := F0 m 101 ls []) rfl ?_
      obtain rfl : wf6 = _ := h7
      have hP : va_P G.1 pCl (mW G h0 a (upd (upd (upd (upd (upd (upd (upd (upd (upd F 102 (nI op)) 111 (nI tp)) 115 (nI (wn + 1))) 116 (-1)) 117 (nI fu)) 118 rs0) 119 uc0) 125 ((B 14) p9)) 126 1) (updA (updA (updA (updA B 63 (upd (B 63) (op - 1) ((B 18) p9))) 70 (upd (B 70) wn 0)) 71 (upd (B 71) wn 0)) 72 (upd (B 72) wn (nI 0)))) _ := hP
      have hD : va_D A (mW G h0 a (upd (upd (upd (upd (upd (upd (upd (upd (upd F 102 (nI op)) 111 (nI tp)) 115 (nI (wn + 1))) 116 (-1)) 117 (nI fu)) 118 rs0) 119 uc0) 125 ((B 14) p9)) 126 1) (updA (updA (updA (updA B 63 (upd (B 63) (op - 1) ((B 18) p9))) 70 (upd (B 70) wn 0)) 71 (upd (B 71) wn 0)) 72 (upd (B 72) wn (nI 0)))) := mW_D hD
      have hz8 : Nx Xs (updA (updA (updA (updA B 63 (upd (B 63) (op - 1) ((B 18) p9))) 70 (upd (B 70) wn 0)) 71 (upd (B 71) wn 0)) 72 (upd (B 72) wn (nI 0))) gh nd T nm wr lz dc fd md pr bk M rmm fu (Phi gh ps op (rkN gh n9 true)) op tp (wn + 1) fu rd on idn fl ct ((-1) : Int32) ((B 14) p9) (1 : Int32) uc0 := (by rw [hg3]; exact hg5 _ (upd_eq.trans hg1) (fun i h => if_neg h))
      have hP : va_P G.1 pCl (mW G h0 a (upd (upd (upd (upd (upd (upd (upd (upd (upd F 102 (nI op)) 111 (nI tp)) 115 (nI (wn + 1))) 116 ((-1) : Int32)) 117 (nI fu)) 118 rs0) 119 uc0) 125 ((B 14) p9)) 126 (1 : Int32)) (updA (updA (updA (updA B 63 (upd (B 63) (op - 1) ((B 18) p9))) 70 (upd (B 70) wn 0)) 71 (upd (B 71) wn 0)) 72 (upd (B 72) wn (nI 0)))) _ := mW_to (F := F) (l1 := [(102, (nI op)), (111, (nI tp)), (115, (nI (wn + 1))), (116, (-1)), (117, (nI fu)), (118, rs0), (119, uc0), (125, ((B 14) p9)), (126, 1)]) (l2 := [(102, (nI op)), (111, (nI tp)), (115, (nI (wn + 1))), (116, ((-1) : Int32)), (117, (nI fu)), (118, rs0), (119, uc0), (125, ((B 14) p9)), (126, (1 : Int32))]) (V := [(nI op), (nI tp), (nI (wn + 1)), ((-1) : Int32), (nI fu), rs0, uc0, ((B 14) p9), (1 : Int32), (nI op), (nI tp), (nI (wn + 1)), ((-1) : Int32), (nI fu), rs0, uc0, ((B 14) p9), (1 : Int32)]) rfl rfl rfl hP
      have hD : va_D A (mW G h0 a (upd (upd (upd (upd (upd (upd (upd (upd (upd F 102 (nI op)) 111 (nI tp)) 115 (nI (wn + 1))) 116 ((-1) : Int32)) 117 (nI fu)) 118 rs0) 119 uc0) 125 ((B 14) p9)) 126 (1 : Int32)) (updA (updA (updA (updA B 63 (upd (B 63) (op - 1) ((B 18) p9))) 70 (upd (B 70) wn 0)) 71 (upd (B 71) wn 0)) 72 (upd (B 72) wn (nI 0)))) := mW_D hD
      exact W.vret hx hb hr (fun t9 ht9 hW9 => ⟨⟨_, (op, tp, (wn + 1), fu, ((-1) : Int32), ((B 14) p9), (1 : Int32), rs0, uc0, (updA (updA (updA (updA B 63 (upd (B 63) (op - 1) ((B 18) p9))) 70 (upd (B 70) wn 0)) 71 (upd (B 71) wn 0)) 72 (upd (B 72) wn (nI 0)))), rfl, ⟨rfl, hz8⟩, by rw [ht9]; exact hP, hD⟩, hS.F ht9⟩) hS.2.2 dX12_tryGoesOn_101
    · refine lv_aload_n hx hb dX12_tryGoesOn_85 rfl (lv_at hl 0 rfl) ?_
      refine lv_iload_n hx hb dX12_tryGoesOn_86 rfl (lv_at hl 1 rfl) ?_
      have hP : va_P G.1 pCl (mW G h0 a (upd (upd (upd (upd (upd (upd (upd (upd (upd F 102 (nI op)) 111 (nI tp)) 115 (nI wn)) 116 (-1)) 117 (nI fu)) 118 rs0) 119 uc0) 125 nw) 126 isn) B) _ := hP
      have hD : va_D A (mW G h0 a (upd (upd (upd (upd (upd (upd (upd (upd (upd F 102 (nI op)) 111 (nI tp)) 115 (nI wn)) 116 (-1)) 117 (nI fu)) 118 rs0) 119 uc0) 125 nw) 126 isn) B) := mW_D hD
      refine pc_V0 (G := G) (As := [.int (nI p9)]) (rest := []) hx hb hml hown hq hE hX pX0_al hP hD hS hA hl.1 (R_comesToEnd l G h0 a (upd (upd (upd (upd (upd (upd (upd (upd (upd F 102 (nI op)) 111 (nI tp)) 115 (nI wn)) 116 (-1)) 117 (nI fu)) 118 rs0) 119 uc0) 125 nw) 126 isn) B (nI p9)) (gV pw_2010 pw_2011 pw_2012 pw_1523 pw_2005) hV_X12_comesToEnd 0 9 rfl rfl rfl rfl (Nat.le_of_ble_eq_true rfl) dX12_tryGoesOn_87 ⟨Nat.le_of_ble_eq_true rfl, Nat.le_of_ble_eq_true rfl⟩ ⟨Nat.le_of_ble_eq_true rfl, Nat.le_of_ble_eq_true rfl⟩ (fun v11 u9 H locs hw10 hP hD hS => ?_)
      obtain rfl : v11 = none := hw10
      have hP : va_P G.1 pCl (mW G h0 a (upd (upd (upd (upd (upd (upd (upd (upd (upd F 102 (nI op)) 111 (nI tp)) 115 (nI wn)) 116 (-1)) 117 (nI fu)) 118 rs0) 119 uc0) 125 (nI p9)) 126 0) B) _ := mW_to (F := F) (l1 := [(102, (nI op)), (111, (nI tp)), (115, (nI wn)), (116, (-1)), (117, (nI fu)), (118, rs0), (119, uc0), (125, nw), (126, isn), (125, (nI p9)), (126, 0)]) (l2 := [(102, (nI op)), (111, (nI tp)), (115, (nI wn)), (116, (-1)), (117, (nI fu)), (118, rs0), (119, uc0), (125, (nI p9)), (126, 0)]) (V := [(nI op), (nI tp), (nI wn), (-1), (nI fu), rs0, uc0, (nI p9), 0, (nI p9), 0, (nI op), (nI tp), (nI wn), (-1), (nI fu), rs0, uc0, (nI p9), 0]) rfl rfl rfl hP
      have hD : va_D A (mW G h0 a (upd (upd (upd (upd (upd (upd (upd (upd (upd F 102 (nI op)) 111 (nI tp)) 115 (nI wn)) 116 (-1)) 117 (nI fu)) 118 rs0) 119 uc0) 125 (nI p9)) 126 0) B) := mW_D hD
      refine W.widen (k := 0) (n := 0) (Nat.le_of_ble_eq_true rfl) (Nat.le_of_ble_eq_true rfl) ?_
      refine W.eq (g2 := F0 m 90 ls []) rfl ?_
      refine lv_goto (tgt := 101) hx hb dX12_tryGoesOn_90 (by decide) ?_
      have hz12 : Nx Xs B gh nd T nm wr lz dc fd md pr bk M rmm fu (Phi gh ps op (rkN gh n9 true)) op tp wn fu rd on idn fl ct ((-1) : Int32) (nI p9) (0 : Int32) uc0 := (hs1 c2)
      have hP : va_P G.1 pCl (mW G h0 a (upd (upd (upd (upd (upd (upd (upd (upd (upd F 102 (nI op)) 111 (nI tp)) 115 (nI wn)) 116 ((-1) : Int32)) 117 (nI fu)) 118 rs0) 119 uc0) 125 (nI p9)) 126 (0 : Int32)) B) _ := mW_to (F := F) (l1 := [(102, (nI op)), (111, (nI tp)), (115, (nI wn)), (116, (-1)), (117, (nI fu)), (118, rs0), (119, uc0), (125, (nI p9)), (126, 0)]) (l2 := [(102, (nI op)), (111, (nI tp)), (115, (nI wn)), (116, ((-1) : Int32)), (117, (nI fu)), (118, rs0), (119, uc0), (125, (nI p9)), (126, (0 : Int32))]) (V := [(nI op), (nI tp), (nI wn), ((-1) : Int32), (nI fu), rs0, uc0, (nI p9), (0 : Int32), (nI op), (nI tp), (nI wn), ((-1) : Int32), (nI fu), rs0, uc0, (nI p9), (0 : Int32)]) rfl rfl rfl hP
      have hD : va_D A (mW G h0 a (upd (upd (upd (upd (upd (upd (upd (upd (upd F 102 (nI op)) 111 (nI tp)) 115 (nI wn)) 116 ((-1) : Int32)) 117 (nI fu)) 118 rs0) 119 uc0) 125 (nI p9)) 126 (0 : Int32)) B) := mW_D hD
      exact W.vret hx hb hr (fun t9 ht9 hW9 => ⟨⟨_, (op, tp, wn, fu, ((-1) : Int32), (nI p9), (0 : Int32), rs0, uc0, B), rfl, ⟨rfl, hz12⟩, by rw [ht9]; exact hP, hD⟩, hS.F ht9⟩) hS.2.2 dX12_tryGoesOn_101
  · obtain ⟨hw1, hw2, hw3, hw4, b9, hw5, hw6, hw7⟩ := hR.g41c (uc := uc0) hp hst hkd (hy14.symm.trans c1.symm)
    refine lv_aload_n hx hb dX12_tryGoesOn_10 rfl (lv_at hl 0 rfl) ?_
    refine lv_dup hx hb dX12_tryGoesOn_11 rfl ?_
    refine r_get (v := .int (nI wn)) hx hb hown hq hE hP 115 713 tFX12_115 (by decide) pw_1970 rfl dX12_tryGoesOn_12 ?_
    refine lv_iconst (v := 1) hx hb dX12_tryGoesOn_15 (by decide) ?_
    refine lv_isub hx hb dX12_tryGoesOn_16 ?_
    refine lv_topi (fun x13 e14 => ?_)
    obtain rfl : x13 = nI (wn - 1) := e14.trans (nI_subN (a := 1) (b := wn) (by omega))
    refine r_put (v := (nI (wn - 1))) (ty := .int) hx hb hown hq hE hP hD hS 115 713 tFX12_115 (by decide) pw_1970 (by decide) rfl rfl (ms_115 a _ _) dX12_tryGoesOn_17 (fun H locs hP hD hS => ?_)
    refine lv_aload_n hx hb dX12_tryGoesOn_20 rfl (lv_at hl 0 rfl) ?_
    refine r_get (v := .ref (a 70)) hx hb hown hq hE hP 112 224 tFX12_112 (by decide) pw_1503 rfl dX12_tryGoesOn_21 ?_
    refine lv_aload_n hx hb dX12_tryGoesOn_24 rfl (lv_at hl 0 rfl) ?_
    refine r_get (v := .int (nI (wn - 1))) hx hb hown hq hE hP 115 713 tFX12_115 (by decide) pw_1970 rfl dX12_tryGoesOn_25 ?_
    refine r_ldi (f := (B 70)) (j := (wn - 1)) hx hb hE hP 70 (ma_70 G a _) rfl (by omega) (by decide) dX12_tryGoesOn_28 ?_
    refine lv_if_ne (tgt := 40) hx hb dX12_tryGoesOn_29 (by decide) (fun c15 => ?_) (fun c15 => ?_)
    · refine lv_aload_n hx hb dX12_tryGoesOn_40 rfl (lv_at hl 0 rfl) ?_
      refine lv_iload_n hx hb dX12_tryGoesOn_41 rfl (lv_at hl 1 rfl) ?_
      refine lv_aload_n hx hb dX12_tryGoesOn_42 rfl (lv_at hl 0 rfl) ?_
      refine r_get (v := .ref (a 70)) hx hb hown hq hE hP 112 224 tFX12_112 (by decide) pw_1503 rfl dX12_tryGoesOn_43 ?_
      refine lv_aload_n hx hb dX12_tryGoesOn_46 rfl (lv_at hl 0 rfl) ?_
      refine r_get (v := .int (nI (wn - 1))) hx hb hown hq hE hP 115 713 tFX12_115 (by decide) pw_1970 rfl dX12_tryGoesOn_47 ?_
      refine r_ldi (f := (B 70)) (j := (wn - 1)) hx hb hE hP 70 (ma_70 G a _) rfl (by omega) (by decide) dX12_tryGoesOn_50 ?_
      obtain ⟨-, hk9, hrf⟩ := hw7 c15
      rcases hk9 with ⟨hk1, ⟨xn, kc, hx0, hx1, hx2, hx3, hx4⟩, hb1⟩ | ⟨hk1, hv9⟩ | ⟨hk1 | hk1, hlp⟩
      · refine lv_topi (fun x16 e17 => ?_)
        obtain rfl : x16 = 1 := e17.trans hk1
        refine lv_aload_n hx hb dX12_tryGoesOn_51 rfl (lv_at hl 0 rfl) ?_
        refine r_get (v := .ref (a 71)) hx hb hown hq hE hP 113 227 tFX12_113 (by decide) pw_1504 rfl dX12_tryGoesOn_52 ?_
        refine lv_aload_n hx hb dX12_tryGoesOn_55 rfl (lv_at hl 0 rfl) ?_
        refine r_get (v := .int (nI (wn - 1))) hx hb hown hq hE hP 115 713 tFX12_115 (by decide) pw_1970 rfl dX12_tryGoesOn_56 ?_
        refine r_ldi (f := (B 71)) (j := (wn - 1)) hx hb hE hP 71 (ma_71 G a _) rfl (by omega) (by decide) dX12_tryGoesOn_59 ?_
        refine lv_topi (fun x18 e19 => ?_)
        obtain rfl : x18 = nI xn := e19.trans hx0
        refine lv_aload_n hx hb dX12_tryGoesOn_60 rfl (lv_at hl 0 rfl) ?_
        refine r_get (v := .ref (a 72)) hx hb hown hq hE hP 114 230 tFX12_114 (by decide) pw_1505 rfl dX12_tryGoesOn_61 ?_
        refine lv_aload_n hx hb dX12_tryGoesOn_64 rfl (lv_at hl 0 rfl) ?_
        refine r_get (v := .int (nI (wn - 1))) hx hb hown hq hE hP 115 713 tFX12_115 (by decide) pw_1970 rfl dX12_tryGoesOn_65 ?_
        refine r_ldz (f := (B 72)) (j := (wn - 1)) hx hb hE hP 72 (ma_72 G a _) rfl (by omega) (by decide) dX12_tryGoesOn_68 ?_
        refine lv_topi (fun x20 e21 => ?_)
        obtain rfl : x20 = 1 := e21.trans (by rw [hw5, hb1]; rfl)
        have hP : va_P G.1 pCl (mW G h0 a (upd (upd (upd (upd (upd (upd (upd (upd (upd (upd (upd (upd (upd (upd (upd (upd (upd (upd F 102 (nI op)) 111 (nI tp)) 115 (nI (wn - 1))) 116 (-1)) 117 (nI fu)) 118 rs0) 119 uc0) 125 nw) 126 isn) 102 (nI op)) 111 (nI tp)) 115 (nI (wn - 1))) 116 (-1)) 117 (nI fu)) 118 rs0) 119 uc0) 125 nw) 126 isn) B) _ := hP
        have hD : va_D A (mW G h0 a (upd (upd (upd (upd (upd (upd (upd (upd (upd (upd (upd (upd (upd (upd (upd (upd (upd (upd F 102 (nI op)) 111 (nI tp)) 115 (nI (wn - 1))) 116 (-1)) 117 (nI fu)) 118 rs0) 119 uc0) 125 nw) 126 isn) 102 (nI op)) 111 (nI tp)) 115 (nI (wn - 1))) 116 (-1)) 117 (nI fu)) 118 rs0) 119 uc0) 125 nw) 126 isn) B) := mW_D hD
        refine pc_V0 (G := G) (As := [.int (nI p9), .int 1, .int (nI xn), .int 1]) (rest := []) hx hb hml hown hq hE hX pX0_al hP hD hS hA hl.1 (R_leaves1 l G h0 a (upd (upd (upd (upd (upd (upd (upd (upd (upd F 102 (nI op)) 111 (nI tp)) 115 (nI (wn - 1))) 116 (-1)) 117 (nI fu)) 118 rs0) 119 uc0) 125 nw) 126 isn) B Xs gh nd T nm wr lz dc fd md pr bk M rmm (Phi gh ps op (rkN gh n9 true)) op (wn - 1) fu rd on idn fl ct p9 xn kc mt ps (yyU yy (op - 1) u) bf wf (nI tp) nw isn rs0 uc0 hw3 (by omega) hx1 hx2 hx3 hx4) (gV pw_2050 pw_2051 pw_2052 pw_1523 pw_2049) hV_X12_leaves 0 9 rfl rfl rfl rfl (Nat.le_of_ble_eq_true rfl) dX12_tryGoesOn_69 ⟨Nat.le_of_ble_eq_true rfl, Nat.le_of_ble_eq_true rfl⟩ ⟨Nat.le_of_ble_eq_true rfl, Nat.le_of_ble_eq_true rfl⟩ (fun v24 u22 H locs hw23 hP hD hS => ?_)
        obtain ⟨op25, tp26, wn27, fu28, en29, nw30, is31, rs32, uc33, X34⟩ := u22
        obtain ⟨hw23, h35⟩ := hw23
        replace h35 : Nx Xs X34 gh nd T nm wr lz dc fd md pr bk M rmm fu (Phi gh ps op (rkN gh n9 true)) op25 tp26 wn27 fu28 rd on idn fl ct en29 nw30 is31 uc33 := h35
        obtain rfl : v24 = none := hw23
        have hP : va_P G.1 pCl (mW G h0 a (upd (upd (upd (upd (upd (upd (upd (upd (upd F 102 (nI op25)) 111 (nI tp26)) 115 (nI wn27)) 116 en29) 117 (nI fu28)) 118 rs32) 119 uc33) 125 nw30) 126 is31) X34) _ := mW_to (F := F) (l1 := [(102, (nI op)), (111, (nI tp)), (115, (nI (wn - 1))), (116, (-1)), (117, (nI fu)), (118, rs0), (119, uc0), (125, nw), (126, isn), (102, (nI op25)), (111, (nI tp26)), (115, (nI wn27)), (116, en29), (117, (nI fu28)), (118, rs32), (119, uc33), (125, nw30), (126, is31)]) (l2 := [(102, (nI op25)), (111, (nI tp26)), (115, (nI wn27)), (116, en29), (117, (nI fu28)), (118, rs32), (119, uc33), (125, nw30), (126, is31)]) (V := [(nI op25), (nI tp26), (nI wn27), en29, (nI fu28), rs32, uc33, nw30, is31, (nI op25), (nI tp26), (nI wn27), en29, (nI fu28), rs32, uc33, nw30, is31, (nI op25), (nI tp26), (nI wn27), en29, (nI fu28), rs32, uc33, nw30, is31]) rfl rfl rfl hP
        have hD : va_D A (mW G h0 a (upd (upd (upd (upd (upd (upd (upd (upd (upd F 102 (nI op25)) 111 (nI tp26)) 115 (nI wn27)) 116 en29) 117 (nI fu28)) 118 rs32) 119 uc33) 125 nw30) 126 is31) X34) := mW_D hD
        refine W.widen (k := 0) (n := 0) (Nat.le_of_ble_eq_true rfl) (Nat.le_of_ble_eq_true rfl) ?_
        refine W.eq (g2 := F0 m 72 ls []) rfl ?_
        refine lv_goto (tgt := 101) hx hb dX12_tryGoesOn_72 (by decide) ?_
        have hz36 : Nx Xs X34 gh nd T nm wr lz dc fd md pr bk M rmm fu (Phi gh ps op (rkN gh n9 true)) op25 tp26 wn27 fu28 rd on idn fl ct en29 nw30 is31 uc33 := h35
        have hP : va_P G.1 pCl (mW G h0 a (upd (upd (upd (upd (upd (upd (upd (upd (upd F 102 (nI op25)) 111 (nI tp26)) 115 (nI wn27)) 116 en29) 117 (nI fu28)) 118 rs32) 119 uc33) 125 nw30) 126 is31) X34) _ := hP
        have hD : va_D A (mW G h0 a (upd (upd (upd (upd (upd (upd (upd (upd (upd F 102 (nI op25)) 111 (nI tp26)) 115 (nI wn27)) 116 en29) 117 (nI fu28)) 118 rs32) 119 uc33) 125 nw30) 126 is31) X34) := mW_D hD
        exact W.vret hx hb hr (fun t9 ht9 hW9 => ⟨⟨_, (op25, tp26, wn27, fu28, en29, nw30, is31, rs32, uc33, X34), rfl, ⟨rfl, hz36⟩, by rw [ht9]; exact hP, hD⟩, hS.F ht9⟩) hS.2.2 dX12_tryGoesOn_101
      · refine lv_topi (fun x37 e38 => ?_)
        obtain rfl : x37 = 2 := e38.trans hk1
        refine lv_aload_n hx hb dX12_tryGoesOn_51 rfl (lv_at hl 0 rfl) ?_
        refine r_get (v := .ref (a 71)) hx hb hown hq hE hP 113 227 tFX12_113 (by decide) pw_1504 rfl dX12_tryGoesOn_52 ?_
        refine lv_aload_n hx hb dX12_tryGoesOn_55 rfl (lv_at hl 0 rfl) ?_
        refine r_get (v := .int (nI (wn - 1))) hx hb hown hq hE hP 115 713 tFX12_115 (by decide) pw_1970 rfl dX12_tryGoesOn_56 ?_
        refine r_ldi (f := (B 71)) (j := (wn - 1)) hx hb hE hP 71 (ma_71 G a _) rfl (by omega) (by decide) dX12_tryGoesOn_59 ?_
        refine lv_aload_n hx hb dX12_tryGoesOn_60 rfl (lv_at hl 0 rfl) ?_
        refine r_get (v := .ref (a 72)) hx hb hown hq hE hP 114 230 tFX12_114 (by decide) pw_1505 rfl dX12_tryGoesOn_61 ?_
        refine lv_aload_n hx hb dX12_tryGoesOn_64 rfl (lv_at hl 0 rfl) ?_
        refine r_get (v := .int (nI (wn - 1))) hx hb hown hq hE hP 115 713 tFX12_115 (by decide) pw_1970 rfl dX12_tryGoesOn_65 ?_
        refine r_ldz (f := (B 72)) (j := (wn - 1)) hx hb hE hP 72 (ma_72 G a _) rfl (by omega) (by decide) dX12_tryGoesOn_68 ?_
        refine lv_topi (fun x39 e40 => ?_)
        obtain rfl : x39 = nI b9 := e40.trans hw5
        have hP : va_P G.1 pCl (mW G h0 a (upd (upd (upd (upd (upd (upd (upd (upd (upd (upd (upd (upd (upd (upd (upd (upd (upd (upd F 102 (nI op)) 111 (nI tp)) 115 (nI (wn - 1))) 116 (-1)) 117 (nI fu)) 118 rs0) 119 uc0) 125 nw) 126 isn) 102 (nI op)) 111 (nI tp)) 115 (nI (wn - 1))) 116 (-1)) 117 (nI fu)) 118 rs0) 119 uc0) 125 nw) 126 isn) B) _ := mW_to (F := F) (l1 := [(102, (nI op)), (111, (nI tp)), (115, (nI wn)), (116, (-1)), (117, (nI fu)), (118, rs0), (119, uc0), (125, nw), (126, isn), (115, (nI (wn - 1)))]) (l2 := [(102, (nI op)), (111, (nI tp)), (115, (nI (wn - 1))), (116, (-1)), (117, (nI fu)), (118, rs0), (119, uc0), (125, nw), (126, isn), (102, (nI op)), (111, (nI tp)), (115, (nI (wn - 1))), (116, (-1)), (117, (nI fu)), (118, rs0), (119, uc0), (125, nw), (126, isn)]) (V := [(nI op), (nI tp), (nI (wn - 1)), (-1), (nI fu), rs0, uc0, nw, isn, (nI (wn - 1)), (nI op), (nI tp), (nI (wn - 1)), (-1), (nI fu), rs0, uc0, nw, isn, (nI op), (nI tp), (nI (wn - 1)), (-1), (nI fu), rs0, uc0, nw, isn]) rfl rfl rfl hP
        have hD : va_D A (mW G h0 a (upd (upd (upd (upd (upd (upd (upd (upd (upd (upd (upd (upd (upd (upd (upd (upd (upd (upd F 102 (nI op)) 111 (nI tp)) 115 (nI (wn - 1))) 116 (-1)) 117 (nI fu)) 118 rs0) 119 uc0) 125 nw) 126 isn) 102 (nI op)) 111 (nI tp)) 115 (nI (wn - 1))) 116 (-1)) 117 (nI fu)) 118 rs0) 119 uc0) 125 nw) 126 isn) B) := mW_D hD
        refine pc_V0 (G := G) (As := [.int (nI p9), .int 2, .int ((B 71) (wn - 1)), .int (nI b9)]) (rest := []) hx hb hml hown hq hE hX pX0_al hP hD hS hA hl.1 (R_leaves2 l G h0 a (upd (upd (upd (upd (upd (upd (upd (upd (upd F 102 (nI op)) 111 (nI tp)) 115 (nI (wn - 1))) 116 (-1)) 117 (nI fu)) 118 rs0) 119 uc0) 125 nw) 126 isn) B Xs gh nd T nm wr lz dc fd md pr bk M rmm (Phi gh ps op (rkN gh n9 true)) op (wn - 1) fu rd on idn fl ct p9 ((B 71) (wn - 1)) b9 mt ps (yyU yy (op - 1) u) bf wf (nI tp) nw isn rs0 uc0 hw3 (by omega) hw6 hrf hv9) (gV pw_2050 pw_2051 pw_2052 pw_1523 pw_2049) hV_X12_leaves 0 9 rfl rfl rfl rfl (Nat.le_of_ble_eq_true rfl) dX12_tryGoesOn_69 ⟨Nat.le_of_ble_eq_true rfl, Nat.le_of_ble_eq_true rfl⟩ ⟨Nat.le_of_ble_eq_true rfl, Nat.le_of_ble_eq_true rfl⟩ (fun v43 u41 H locs hw42 hP hD hS => ?_)
        obtain ⟨op44, tp45, wn46, fu47, en48, nw49, is50, rs51, uc52, X53⟩ := u41
        obtain ⟨hw42, h54⟩ := hw42
        replace h54 : Nx Xs X53 gh nd T nm wr lz dc fd md pr bk M rmm fu (Phi gh ps op (rkN gh n9 true)) op44 tp45 wn46 fu47 rd on idn fl ct en48 nw49 is50 uc52 := h54
        obtain rfl : v43 = none := hw42
        have hP : va_P G.1 pCl (mW G h0 a (upd (upd (upd (upd (upd (upd (upd (upd (upd F 102 (nI op44)) 111 (nI tp45)) 115 (nI wn46)) 116 en48) 117 (nI fu47)) 118 rs51) 119 uc52) 125 nw49) 126 is50) X53) _ := mW_to (F := F) (l1 := [(102, (nI op)), (111, (nI tp)), (115, (nI (wn - 1))), (116, (-1)), (117, (nI fu)), (118, rs0), (119, uc0), (125, nw), (126, isn), (102, (nI op44)), (111, (nI tp45)), (115, (nI wn46)), (116, en48), (117, (nI fu47)), (118, rs51), (119, uc52), (125, nw49), (126, is50)]) (l2 := [(102, (nI op44)), (111, (nI tp45)), (115, (nI wn46)), (116, en48), (117, (nI fu47)), (118, rs51), (119, uc52), (125, nw49), (126, is50)]) (V := [(nI op44), (nI tp45), (nI wn46), en48, (nI fu47), rs51, uc52, nw49, is50, (nI op44), (nI tp45), (nI wn46), en48, (nI fu47), rs51, uc52, nw49, is50, (nI op44), (nI tp45), (nI wn46), en48, (nI fu47), rs51, uc52, nw49, is50]) rfl rfl rfl hP
        have hD : va_D A (mW G h0 a (upd (upd (upd (upd (upd (upd (upd (upd (upd F 102 (nI op44)) 111 (nI tp45)) 115 (nI wn46)) 116 en48) 117 (nI fu47)) 118 rs51) 119 uc52) 125 nw49) 126 is50) X53) := mW_D hD
        refine W.widen (k := 0) (n := 0) (Nat.le_of_ble_eq_true rfl) (Nat.le_of_ble_eq_true rfl) ?_
        refine W.eq (g2 := F0 m 72 ls []) rfl ?_
        refine lv_goto (tgt := 101) hx hb dX12_tryGoesOn_72 (by decide) ?_
        have hz55 : Nx Xs X53 gh nd T nm wr lz dc fd md pr bk M rmm fu (Phi gh ps op (rkN gh n9 true)) op44 tp45 wn46 fu47 rd on idn fl ct en48 nw49 is50 uc52 := h54
        have hP : va_P G.1 pCl (mW G h0 a (upd (upd (upd (upd (upd (upd (upd (upd (upd F 102 (nI op44)) 111 (nI tp45)) 115 (nI wn46)) 116 en48) 117 (nI fu47)) 118 rs51) 119 uc52) 125 nw49) 126 is50) X53) _ := hP
        have hD : va_D A (mW G h0 a (upd (upd (upd (upd (upd (upd (upd (upd (upd F 102 (nI op44)) 111 (nI tp45)) 115 (nI wn46)) 116 en48) 117 (nI fu47)) 118 rs51) 119 uc52) 125 nw49) 126 is50) X53) := mW_D hD
        exact W.vret hx hb hr (fun t9 ht9 hW9 => ⟨⟨_, (op44, tp45, wn46, fu47, en48, nw49, is50, rs51, uc52, X53), rfl, ⟨rfl, hz55⟩, by rw [ht9]; exact hP, hD⟩, hS.F ht9⟩) hS.2.2 dX12_tryGoesOn_101
      · refine lv_topi (fun x56 e57 => ?_)
        obtain rfl : x56 = 3 := e57.trans hk1
        refine lv_aload_n hx hb dX12_tryGoesOn_51 rfl (lv_at hl 0 rfl) ?_
        refine r_get (v := .ref (a 71)) hx hb hown hq hE hP 113 227 tFX12_113 (by decide) pw_1504 rfl dX12_tryGoesOn_52 ?_
        refine lv_aload_n hx hb dX12_tryGoesOn_55 rfl (lv_at hl 0 rfl) ?_
        refine r_get (v := .int (nI (wn - 1))) hx hb hown hq hE hP 115 713 tFX12_115 (by decide) pw_1970 rfl dX12_tryGoesOn_56 ?_
        refine r_ldi (f := (B 71)) (j := (wn - 1)) hx hb hE hP 71 (ma_71 G a _) rfl (by omega) (by decide) dX12_tryGoesOn_59 ?_
        refine lv_aload_n hx hb dX12_tryGoesOn_60 rfl (lv_at hl 0 rfl) ?_
        refine r_get (v := .ref (a 72)) hx hb hown hq hE hP 114 230 tFX12_114 (by decide) pw_1505 rfl dX12_tryGoesOn_61 ?_
        refine lv_aload_n hx hb dX12_tryGoesOn_64 rfl (lv_at hl 0 rfl) ?_
        refine r_get (v := .int (nI (wn - 1))) hx hb hown hq hE hP 115 713 tFX12_115 (by decide) pw_1970 rfl dX12_tryGoesOn_65 ?_
        refine r_ldz (f := (B 72)) (j := (wn - 1)) hx hb hE hP 72 (ma_72 G a _) rfl (by omega) (by decide) dX12_tryGoesOn_68 ?_
        refine lv_topi (fun x58 e59 => ?_)
        obtain rfl : x58 = nI b9 := e59.trans hw5
        have hP : va_P G.1 pCl (mW G h0 a (upd (upd (upd (upd (upd (upd (upd (upd (upd (upd (upd (upd (upd (upd (upd (upd (upd (upd F 102 (nI op)) 111 (nI tp)) 115 (nI (wn - 1))) 116 (-1)) 117 (nI fu)) 118 rs0) 119 uc0) 125 nw) 126 isn) 102 (nI op)) 111 (nI tp)) 115 (nI (wn - 1))) 116 (-1)) 117 (nI fu)) 118 rs0) 119 uc0) 125 nw) 126 isn) B) _ := mW_to (F := F) (l1 := [(102, (nI op)), (111, (nI tp)), (115, (nI wn)), (116, (-1)), (117, (nI fu)), (118, rs0), (119, uc0), (125, nw), (126, isn), (115, (nI (wn - 1)))]) (l2 := [(102, (nI op)), (111, (nI tp)), (115, (nI (wn - 1))), (116, (-1)), (117, (nI fu)), (118, rs0), (119, uc0), (125, nw), (126, isn), (102, (nI op)), (111, (nI tp)), (115, (nI (wn - 1))), (116, (-1)), (117, (nI fu)), (118, rs0), (119, uc0), (125, nw), (126, isn)]) (V := [(nI op), (nI tp), (nI (wn - 1)), (-1), (nI fu), rs0, uc0, nw, isn, (nI (wn - 1)), (nI op), (nI tp), (nI (wn - 1)), (-1), (nI fu), rs0, uc0, nw, isn, (nI op), (nI tp), (nI (wn - 1)), (-1), (nI fu), rs0, uc0, nw, isn]) rfl rfl rfl hP
        have hD : va_D A (mW G h0 a (upd (upd (upd (upd (upd (upd (upd (upd (upd (upd (upd (upd (upd (upd (upd (upd (upd (upd F 102 (nI op)) 111 (nI tp)) 115 (nI (wn - 1))) 116 (-1)) 117 (nI fu)) 118 rs0) 119 uc0) 125 nw) 126 isn) 102 (nI op)) 111 (nI tp)) 115 (nI (wn - 1))) 116 (-1)) 117 (nI fu)) 118 rs0) 119 uc0) 125 nw) 126 isn) B) := mW_D hD
        refine pc_V0 (G := G) (As := [.int (nI p9), .int 3, .int ((B 71) (wn - 1)), .int (nI b9)]) (rest := []) hx hb hml hown hq hE hX pX0_al hP hD hS hA hl.1 (R_leaves3 l G h0 a (upd (upd (upd (upd (upd (upd (upd (upd (upd F 102 (nI op)) 111 (nI tp)) 115 (nI (wn - 1))) 116 (-1)) 117 (nI fu)) 118 rs0) 119 uc0) 125 nw) 126 isn) B Xs gh nd T nm wr lz dc fd md pr bk M rmm (Phi gh ps op (rkN gh n9 true)) op (wn - 1) fu rd on idn fl ct p9 ((B 71) (wn - 1)) b9 mt ps (yyU yy (op - 1) u) bf wf (nI tp) nw isn rs0 uc0 hw3 (by omega) hw6 hrf (by rw [hw4]; exact hlp) ⟨41, hkd, by omega, by unfold JK; omega⟩) (gV pw_2050 pw_2051 pw_2052 pw_1523 pw_2049) hV_X12_leaves 0 9 rfl rfl rfl rfl (Nat.le_of_ble_eq_true rfl) dX12_tryGoesOn_69 ⟨Nat.le_of_ble_eq_true rfl, Nat.le_of_ble_eq_true rfl⟩ ⟨Nat.le_of_ble_eq_true rfl, Nat.le_of_ble_eq_true rfl⟩ (fun v62 u60 H locs hw61 hP hD hS => ?_)
        obtain ⟨op63, tp64, wn65, fu66, en67, nw68, is69, rs70, uc71, X72⟩ := u60
        obtain ⟨hw61, h73⟩ := hw61
        replace h73 : Nx Xs X72 gh nd T nm wr lz dc fd md pr bk M rmm fu (Phi gh ps op (rkN gh n9 true)) op63 tp64 wn65 fu66 rd on idn fl ct en67 nw68 is69 uc71 := h73
        obtain rfl : v62 = none := hw61
        have hP : va_P G.1 pCl (mW G h0 a (upd (upd (upd (upd (upd (upd (upd (upd (upd F 102 (nI op63)) 111 (nI tp64)) 115 (nI wn65)) 116 en67) 117 (nI fu66)) 118 rs70) 119 uc71) 125 nw68) 126 is69) X72) _ := mW_to (F := F) (l1 := [(102, (nI op)), (111, (nI tp)), (115, (nI (wn - 1))), (116, (-1)), (117, (nI fu)), (118, rs0), (119, uc0), (125, nw), (126, isn), (102, (nI op63)), (111, (nI tp64)), (115, (nI wn65)), (116, en67), (117, (nI fu66)), (118, rs70), (119, uc71), (125, nw68), (126, is69)]) (l2 := [(102, (nI op63)), (111, (nI tp64)), (115, (nI wn65)), (116, en67), (117, (nI fu66)), (118, rs70), (119, uc71), (125, nw68), (126, is69)]) (V := [(nI op63), (nI tp64), (nI wn65), en67, (nI fu66), rs70, uc71, nw68, is69, (nI op63), (nI tp64), (nI wn65), en67, (nI fu66), rs70, uc71, nw68, is69, (nI op63), (nI tp64), (nI wn65), en67, (nI fu66), rs70, uc71, nw68, is69]) rfl rfl rfl hP
        have hD : va_D A (mW G h0 a (upd (upd (upd (upd (upd (upd (upd (upd (upd F 102 (nI op63)) 111 (nI tp64)) 115 (nI wn65)) 116 en67) 117 (nI fu66)) 118 rs70) 119 uc71) 125 nw68) 126 is69) X72) := mW_D hD
        refine W.widen (k := 0) (n := 0) (Nat.le_of_ble_eq_true rfl) (Nat.le_of_ble_eq_true rfl) ?_
        refine W.eq (g2 := F0 m 72 ls []) rfl ?_
        refine lv_goto (tgt := 101) hx hb dX12_tryGoesOn_72 (by decide) ?_
        have hz74 : Nx Xs X72 gh nd T nm wr lz dc fd md pr bk M rmm fu (Phi gh ps op (rkN gh n9 true)) op63 tp64 wn65 fu66 rd on idn fl ct en67 nw68 is69 uc71 := h73
        have hP : va_P G.1 pCl (mW G h0 a (upd (upd (upd (upd (upd (upd (upd (upd (upd F 102 (nI op63)) 111 (nI tp64)) 115 (nI wn65)) 116 en67) 117 (nI fu66)) 118 rs70) 119 uc71) 125 nw68) 126 is69) X72) _ := hP
        have hD : va_D A (mW G h0 a (upd (upd (upd (upd (upd (upd (upd (upd (upd F 102 (nI op63)) 111 (nI tp64)) 115 (nI wn65)) 116 en67) 117 (nI fu66)) 118 rs70) 119 uc71) 125 nw68) 126 is69) X72) := mW_D hD
        exact W.vret hx hb hr (fun t9 ht9 hW9 => ⟨⟨_, (op63, tp64, wn65, fu66, en67, nw68, is69, rs70, uc71, X72), rfl, ⟨rfl, hz74⟩, by rw [ht9]; exact hP, hD⟩, hS.F ht9⟩) hS.2.2 dX12_tryGoesOn_101
      · refine lv_topi (fun x75 e76 => ?_)
        obtain rfl : x75 = 4 := e76.trans hk1
        refine lv_aload_n hx hb dX12_tryGoesOn_51 rfl (lv_at hl 0 rfl) ?_
        refine r_get (v := .ref (a 71)) hx hb hown hq hE hP 113 227 tFX12_113 (by decide) pw_1504 rfl dX12_tryGoesOn_52 ?_
        refine lv_aload_n hx hb dX12_tryGoesOn_55 rfl (lv_at hl 0 rfl) ?_
        refine r_get (v := .int (nI (wn - 1))) hx hb hown hq hE hP 115 713 tFX12_115 (by decide) pw_1970 rfl dX12_tryGoesOn_56 ?_
        refine r_ldi (f := (B 71)) (j := (wn - 1)) hx hb hE hP 71 (ma_71 G a _) rfl (by omega) (by decide) dX12_tryGoesOn_59 ?_
        refine lv_aload_n hx hb dX12_tryGoesOn_60 rfl (lv_at hl 0 rfl) ?_
        refine r_get (v := .ref (a 72)) hx hb hown hq hE hP 114 230 tFX12_114 (by decide) pw_1505 rfl dX12_tryGoesOn_61 ?_
        refine lv_aload_n hx hb dX12_tryGoesOn_64 rfl (lv_at hl 0 rfl) ?_
        refine r_get (v := .int (nI (wn - 1))) hx hb hown hq hE hP 115 713 tFX12_115 (by decide) pw_1970 rfl dX12_tryGoesOn_65 ?_
        refine r_ldz (f := (B 72)) (j := (wn - 1)) hx hb hE hP 72 (ma_72 G a _) rfl (by omega) (by decide) dX12_tryGoesOn_68 ?_
        refine lv_topi (fun x77 e78 => ?_)
        obtain rfl : x77 = nI b9 := e78.trans hw5
        have hP : va_P G.1 pCl (mW G h0 a (upd (upd (upd (upd (upd (upd (upd (upd (upd (upd (upd (upd (upd (upd (upd (upd (upd (upd F 102 (nI op)) 111 (nI tp)) 115 (nI (wn - 1))) 116 (-1)) 117 (nI fu)) 118 rs0) 119 uc0) 125 nw) 126 isn) 102 (nI op)) 111 (nI tp)) 115 (nI (wn - 1))) 116 (-1)) 117 (nI fu)) 118 rs0) 119 uc0) 125 nw) 126 isn) B) _ := mW_to (F := F) (l1 := [(102, (nI op)), (111, (nI tp)), (115, (nI wn)), (116, (-1)), (117, (nI fu)), (118, rs0), (119, uc0), (125, nw), (126, isn), (115, (nI (wn - 1)))]) (l2 := [(102, (nI op)), (111, (nI tp)), (115, (nI (wn - 1))), (116, (-1)), (117, (nI fu)), (118, rs0), (119, uc0), (125, nw), (126, isn), (102, (nI op)), (111, (nI tp)), (115, (nI (wn - 1))), (116, (-1)), (117, (nI fu)), (118, rs0), (119, uc0), (125, nw), (126, isn)]) (V := [(nI op), (nI tp), (nI (wn - 1)), (-1), (nI fu), rs0, uc0, nw, isn, (nI (wn - 1)), (nI op), (nI tp), (nI (wn - 1)), (-1), (nI fu), rs0, uc0, nw, isn, (nI op), (nI tp), (nI (wn - 1)), (-1), (nI fu), rs0, uc0, nw, isn]) rfl rfl rfl hP
        have hD : va_D A (mW G h0 a (upd (upd (upd (upd (upd (upd (upd (upd (upd (upd (upd (upd (upd (upd (upd (upd (upd (upd F 102 (nI op)) 111 (nI tp)) 115 (nI (wn - 1))) 116 (-1)) 117 (nI fu)) 118 rs0) 119 uc0) 125 nw) 126 isn) 102 (nI op)) 111 (nI tp)) 115 (nI (wn - 1))) 116 (-1)) 117 (nI fu)) 118 rs0) 119 uc0) 125 nw) 126 isn) B) := mW_D hD
        refine pc_V0 (G := G) (As := [.int (nI p9), .int 4, .int ((B 71) (wn - 1)), .int (nI b9)]) (rest := []) hx hb hml hown hq hE hX pX0_al hP hD hS hA hl.1 (R_leaves4 l G h0 a (upd (upd (upd (upd (upd (upd (upd (upd (upd F 102 (nI op)) 111 (nI tp)) 115 (nI (wn - 1))) 116 (-1)) 117 (nI fu)) 118 rs0) 119 uc0) 125 nw) 126 isn) B Xs gh nd T nm wr lz dc fd md pr bk M rmm (Phi gh ps op (rkN gh n9 true)) op (wn - 1) fu rd on idn fl ct p9 ((B 71) (wn - 1)) b9 mt ps (yyU yy (op - 1) u) bf wf (nI tp) nw isn rs0 uc0 hw3 (by omega) hw6 hrf (by rw [hw4]; exact hlp) ⟨41, hkd, by omega, by unfold JK; omega⟩) (gV pw_2050 pw_2051 pw_2052 pw_1523 pw_2049) hV_X12_leaves 0 9 rfl rfl rfl rfl (Nat.le_of_ble_eq_true rfl) dX12_tryGoesOn_69 ⟨Nat.le_of_ble_eq_true rfl, Nat.le_of_ble_eq_true rfl⟩ ⟨Nat.le_of_ble_eq_true rfl, Nat.le_of_ble_eq_true rfl⟩ (fun v81 u79 H locs hw80 hP hD hS => ?_)
        obtain ⟨op82, tp83, wn84, fu85, en86, nw87, is88, rs89, uc90, X91⟩ := u79
        obtain ⟨hw80, h92⟩ := hw80
        replace h92 : Nx Xs X91 gh nd T nm wr lz dc fd md pr bk M rmm fu (Phi gh ps op (rkN gh n9 true)) op82 tp83 wn84 fu85 rd on idn fl ct en86 nw87 is88 uc90 := h92
        obtain rfl : v81 = none := hw80
        have hP : va_P G.1 pCl (mW G h0 a (upd (upd (upd (upd (upd (upd (upd (upd (upd F 102 (nI op82)) 111 (nI tp83)) 115 (nI wn84)) 116 en86) 117 (nI fu85)) 118 rs89) 119 uc90) 125 nw87) 126 is88) X91) _ := mW_to (F := F) (l1 := [(102, (nI op)), (111, (nI tp)), (115, (nI (wn - 1))), (116, (-1)), (117, (nI fu)), (118, rs0), (119, uc0), (125, nw), (126, isn), (102, (nI op82)), (111, (nI tp83)), (115, (nI wn84)), (116, en86), (117, (nI fu85)), (118, rs89), (119, uc90), (125, nw87), (126, is88)]) (l2 := [(102, (nI op82)), (111, (nI tp83)), (115, (nI wn84)), (116, en86), (117, (nI fu85)), (118, rs89), (119, uc90), (125, nw87), (126, is88)]) (V := [(nI op82), (nI tp83), (nI wn84), en86, (nI fu85), rs89, uc90, nw87, is88, (nI op82), (nI tp83), (nI wn84), en86, (nI fu85), rs89, uc90, nw87, is88, (nI op82), (nI tp83), (nI wn84), en86, (nI fu85), rs89, uc90, nw87, is88]) rfl rfl rfl hP
        have hD : va_D A (mW G h0 a (upd (upd (upd (upd (upd (upd (upd (upd (upd F 102 (nI op82)) 111 (nI tp83)) 115 (nI wn84)) 116 en86) 117 (nI fu85)) 118 rs89) 119 uc90) 125 nw87) 126 is88) X91) := mW_D hD
        refine W.widen (k := 0) (n := 0) (Nat.le_of_ble_eq_true rfl) (Nat.le_of_ble_eq_true rfl) ?_
        refine W.eq (g2 := F0 m 72 ls []) rfl ?_
        refine lv_goto (tgt := 101) hx hb dX12_tryGoesOn_72 (by decide) ?_
        have hz93 : Nx Xs X91 gh nd T nm wr lz dc fd md pr bk M rmm fu (Phi gh ps op (rkN gh n9 true)) op82 tp83 wn84 fu85 rd on idn fl ct en86 nw87 is88 uc90 := h92
        have hP : va_P G.1 pCl (mW G h0 a (upd (upd (upd (upd (upd (upd (upd (upd (upd F 102 (nI op82)) 111 (nI tp83)) 115 (nI wn84)) 116 en86) 117 (nI fu85)) 118 rs89) 119 uc90) 125 nw87) 126 is88) X91) _ := hP
        have hD : va_D A (mW G h0 a (upd (upd (upd (upd (upd (upd (upd (upd (upd F 102 (nI op82)) 111 (nI tp83)) 115 (nI wn84)) 116 en86) 117 (nI fu85)) 118 rs89) 119 uc90) 125 nw87) 126 is88) X91) := mW_D hD
        exact W.vret hx hb hr (fun t9 ht9 hW9 => ⟨⟨_, (op82, tp83, wn84, fu85, en86, nw87, is88, rs89, uc90, X91), rfl, ⟨rfl, hz93⟩, by rw [ht9]; exact hP, hD⟩, hS.F ht9⟩) hS.2.2 dX12_tryGoesOn_101
    · refine lv_aload_n hx hb dX12_tryGoesOn_32 rfl (lv_at hl 0 rfl) ?_
      refine lv_iload_n hx hb dX12_tryGoesOn_33 rfl (lv_at hl 1 rfl) ?_
      have hP : va_P G.1 pCl (mW G h0 a (upd (upd (upd (upd (upd (upd (upd (upd (upd F 102 (nI op)) 111 (nI tp)) 115 (nI (wn - 1))) 116 (-1)) 117 (nI fu)) 118 rs0) 119 uc0) 125 nw) 126 isn) B) _ := mW_to (F := F) (l1 := [(102, (nI op)), (111, (nI tp)), (115, (nI wn)), (116, (-1)), (117, (nI fu)), (118, rs0), (119, uc0), (125, nw), (126, isn), (115, (nI (wn - 1)))]) (l2 := [(102, (nI op)), (111, (nI tp)), (115, (nI (wn - 1))), (116, (-1)), (117, (nI fu)), (118, rs0), (119, uc0), (125, nw), (126, isn)]) (V := [(nI op), (nI tp), (nI (wn - 1)), (-1), (nI fu), rs0, uc0, nw, isn, (nI (wn - 1)), (nI op), (nI tp), (nI (wn - 1)), (-1), (nI fu), rs0, uc0, nw, isn]) rfl rfl rfl hP
      have hD : va_D A (mW G h0 a (upd (upd (upd (upd (upd (upd (upd (upd (upd F 102 (nI op)) 111 (nI tp)) 115 (nI (wn - 1))) 116 (-1)) 117 (nI fu)) 118 rs0) 119 uc0) 125 nw) 126 isn) B) := mW_D hD
      refine pc_V0 (G := G) (As := [.int (nI p9)]) (rest := []) hx hb hml hown hq hE hX pX0_al hP hD hS hA hl.1 (R_comesToEnd l G h0 a (upd (upd (upd (upd (upd (upd (upd (upd (upd F 102 (nI op)) 111 (nI tp)) 115 (nI (wn - 1))) 116 (-1)) 117 (nI fu)) 118 rs0) 119 uc0) 125 nw) 126 isn) B (nI p9)) (gV pw_2010 pw_2011 pw_2012 pw_1523 pw_2005) hV_X12_comesToEnd 0 9 rfl rfl rfl rfl (Nat.le_of_ble_eq_true rfl) dX12_tryGoesOn_34 ⟨Nat.le_of_ble_eq_true rfl, Nat.le_of_ble_eq_true rfl⟩ ⟨Nat.le_of_ble_eq_true rfl, Nat.le_of_ble_eq_true rfl⟩ (fun v96 u94 H locs hw95 hP hD hS => ?_)
      obtain rfl : v96 = none := hw95
      have hP : va_P G.1 pCl (mW G h0 a (upd (upd (upd (upd (upd (upd (upd (upd (upd F 102 (nI op)) 111 (nI tp)) 115 (nI (wn - 1))) 116 (-1)) 117 (nI fu)) 118 rs0) 119 uc0) 125 (nI p9)) 126 0) B) _ := mW_to (F := F) (l1 := [(102, (nI op)), (111, (nI tp)), (115, (nI (wn - 1))), (116, (-1)), (117, (nI fu)), (118, rs0), (119, uc0), (125, nw), (126, isn), (125, (nI p9)), (126, 0)]) (l2 := [(102, (nI op)), (111, (nI tp)), (115, (nI (wn - 1))), (116, (-1)), (117, (nI fu)), (118, rs0), (119, uc0), (125, (nI p9)), (126, 0)]) (V := [(nI op), (nI tp), (nI (wn - 1)), (-1), (nI fu), rs0, uc0, (nI p9), 0, (nI p9), 0, (nI op), (nI tp), (nI (wn - 1)), (-1), (nI fu), rs0, uc0, (nI p9), 0]) rfl rfl rfl hP
      have hD : va_D A (mW G h0 a (upd (upd (upd (upd (upd (upd (upd (upd (upd F 102 (nI op)) 111 (nI tp)) 115 (nI (wn - 1))) 116 (-1)) 117 (nI fu)) 118 rs0) 119 uc0) 125 (nI p9)) 126 0) B) := mW_D hD
      refine W.widen (k := 0) (n := 0) (Nat.le_of_ble_eq_true rfl) (Nat.le_of_ble_eq_true rfl) ?_
      refine W.eq (g2 := F0 m 37 ls []) rfl ?_
      refine lv_goto (tgt := 101) hx hb dX12_tryGoesOn_37 (by decide) ?_
      have hz97 : Nx Xs B gh nd T nm wr lz dc fd md pr bk M rmm fu (Phi gh ps op (rkN gh n9 true)) op tp (wn - 1) fu rd on idn fl ct ((-1) : Int32) (nI p9) (0 : Int32) uc0 := (hw2 c15)
      have hP : va_P G.1 pCl (mW G h0 a (upd (upd (upd (upd (upd (upd (upd (upd (upd F 102 (nI op)) 111 (nI tp)) 115 (nI (wn - 1))) 116 ((-1) : Int32)) 117 (nI fu)) 118 rs0) 119 uc0) 125 (nI p9)) 126 (0 : Int32)) B) _ := mW_to (F := F) (l1 := [(102, (nI op)), (111, (nI tp)), (115, (nI (wn - 1))), (116, (-1)), (117, (nI fu)), (118, rs0), (119, uc0), (125, (nI p9)), (126, 0)]) (l2 := [(102, (nI op)), (111, (nI tp)), (115, (nI (wn - 1))), (116, ((-1) : Int32)), (117, (nI fu)), (118, rs0), (119, uc0), (125, (nI p9)), (126, (0 : Int32))]) (V := [(nI op), (nI tp), (nI (wn - 1)), ((-1) : Int32), (nI fu), rs0, uc0, (nI p9), (0 : Int32), (nI op), (nI tp), (nI (wn - 1)), ((-1) : Int32), (nI fu), rs0, uc0, (nI p9), (0 : Int32)]) rfl rfl rfl hP
      have hD : va_D A (mW G h0 a (upd (upd (upd (upd (upd (upd (upd (upd (upd F 102 (nI op)) 111 (nI tp)) 115 (nI (wn - 1))) 116 ((-1) : Int32)) 117 (nI fu)) 118 rs0) 119 uc0) 125 (nI p9)) 126 (0 : Int32)) B) := mW_D hD
      exact W.vret hx hb hr (fun t9 ht9 hW9 => ⟨⟨_, (op, tp, (wn - 1), fu, ((-1) : Int32), (nI p9), (0 : Int32), rs0, uc0, B), rfl, ⟨rfl, hz97⟩, by rw [ht9]; exact hP, hD⟩, hS.F ht9⟩) hS.2.2 dX12_tryGoesOn_101

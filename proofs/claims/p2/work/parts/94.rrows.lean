theorem dX12_rows_0 : decode cX12_rows 0 = .ok (.aload_n 0, 1) := by decide +kernel
theorem dX12_rows_1 : decode cX12_rows 1 = .ok (.invokevirtual 837, 3) := by decide +kernel
theorem dX12_rows_4 : decode cX12_rows 4 = .ok (.istore_n 2, 1) := by decide +kernel
theorem dX12_rows_5 : decode cX12_rows 5 = .ok (.aload_n 0, 1) := by decide +kernel
theorem dX12_rows_6 : decode cX12_rows 6 = .ok (.invokevirtual 782, 3) := by decide +kernel
theorem dX12_rows_9 : decode cX12_rows 9 = .ok (.ifCond .ne 4, 3) := by decide +kernel
theorem dX12_rows_12 : decode cX12_rows 12 = .ok (.return_, 1) := by decide +kernel
theorem dX12_rows_13 : decode cX12_rows 13 = .ok (.iload_n 2, 1) := by decide +kernel
theorem dX12_rows_14 : decode cX12_rows 14 = .ok (.ifCond .ge 12, 3) := by decide +kernel
theorem dX12_rows_26 : decode cX12_rows 26 = .ok (.aload_n 0, 1) := by decide +kernel
theorem dX12_rows_27 : decode cX12_rows 27 = .ok (.iconst (-1), 1) := by decide +kernel
theorem dX12_rows_28 : decode cX12_rows 28 = .ok (.aload_n 0, 1) := by decide +kernel
theorem dX12_rows_29 : decode cX12_rows 29 = .ok (.getfield 75, 3) := by decide +kernel
theorem dX12_rows_32 : decode cX12_rows 32 = .ok (.aload_n 0, 1) := by decide +kernel
theorem dX12_rows_33 : decode cX12_rows 33 = .ok (.getfield 50, 3) := by decide +kernel
theorem dX12_rows_36 : decode cX12_rows 36 = .ok (.iload_n 1, 1) := by decide +kernel
theorem dX12_rows_37 : decode cX12_rows 37 = .ok (.iaload, 1) := by decide +kernel
theorem dX12_rows_38 : decode cX12_rows 38 = .ok (.iaload, 1) := by decide +kernel
theorem dX12_rows_39 : decode cX12_rows 39 = .ok (.iload_n 2, 1) := by decide +kernel
theorem dX12_rows_40 : decode cX12_rows 40 = .ok (.invokevirtual 778, 3) := by decide +kernel
theorem dX12_rows_43 : decode cX12_rows 43 = .ok (.istore_n 3, 1) := by decide +kernel
theorem dX12_rows_44 : decode cX12_rows 44 = .ok (.aload_n 0, 1) := by decide +kernel
theorem dX12_rows_45 : decode cX12_rows 45 = .ok (.iload_n 1, 1) := by decide +kernel
theorem dX12_rows_46 : decode cX12_rows 46 = .ok (.iload_n 3, 1) := by decide +kernel
theorem dX12_rows_47 : decode cX12_rows 47 = .ok (.invokevirtual 800, 3) := by decide +kernel
theorem dX12_rows_50 : decode cX12_rows 50 = .ok (.return_, 1) := by decide +kernel
theorem dX12_rows_17 : decode cX12_rows 17 = .ok (.aload_n 0, 1) := by decide +kernel
theorem dX12_rows_18 : decode cX12_rows 18 = .ok (.iload_n 1, 1) := by decide +kernel
theorem dX12_rows_19 : decode cX12_rows 19 = .ok (.sipush 4006, 3) := by decide +kernel
theorem dX12_rows_22 : decode cX12_rows 22 = .ok (.invokevirtual 840, 3) := by decide +kernel
theorem dX12_rows_25 : decode cX12_rows 25 = .ok (.return_, 1) := by decide +kernel
theorem hV_X12_make : yX12_make.cls = RX12 ∧ yX12_make.cls ≠ "java/lang/invoke/MethodHandle" ∧ yX12_make.cls ≠ "java/lang/invoke/VarHandle" ∧ (parseMethodDescriptor yX12_make.desc).map (fun d => d.parameters.length) = some 3 := by decide +kernel
set_option maxHeartbeats 16000000 in
set_option maxRecDepth 100000 in
/-- rows(p) -/
theorem R_rows (l : Launch) (G : pT) (h0 : Nat) (a : Nat → Nat) (F : Nat → Int32) (B : Nat → Nat → Int32) (Xs : Nat → Nat → Int32) (gh : Nat → Nat → Nat) (nd : Nat) (T : Nat) (nm : Nat) (wr : Nat) (lz : Nat) (dc : Nat) (fd : Nat) (md : Nat) (pr : Nat) (bk : Nat) (M : MTb) (rmm : Nat) (op : Nat) (tp : Nat) (wn : Nat) (fu : Nat) (rd : Nat) (on : Nat) (idn : Nat) (fl : Nat) (ct : Nat) (n9 : Nat) (p9 : Nat) (u : Ps) (mt : Nat → Nat) (ps : Nat → Nat) (yy : Nat → Ps) (bf : Nat → Nat) (wf : Nat → Nat) (nw : Int32) (isn : Int32) (rs0 : Int32) (uc0 : Int32) (tds : Int32) (ma0 : Int32) (mc0 : Int32) (hR : Rn Xs B gh nd T nm wr lz dc fd md pr bk M rmm op tp wn fu rd on idn fl ct n9 true mt ps yy bf wf) (hp : Pv Xs (M.1 (mt (op - 1))) (rtP M (mt (op - 1))) p9 u) (hst : stq Xs p9 u n9 (yy (op - 1))) (hfu : fu ≤ 20000) (hkd : Xs 9 p9 = nI 10) : PM l G pX0 yX12_rows cX12_rows 4 none ({ frames := 6, cells := 0, slots := 0, locals := 156 }) [.ref h0, .int (nI p9)] (mW G h0 a (upd (upd (upd (upd (upd (upd (upd (upd (upd (upd (upd (upd (upd (upd (upd (upd (upd F 97 (nI ct)) 98 (nI fl)) 99 (nI rmm)) 101 tds) 102 (nI op)) 111 (nI tp)) 115 (nI wn)) 116 (-1)) 117 (nI fu)) 118 rs0) 119 uc0) 121 ma0) 122 mc0) 125 nw) 126 isn) 128 (nI on)) 130 (nI idn)) B) (fun (v : Option Value) (u : Nat × Nat × Nat × Nat × Int32 × Int32 × Int32 × Int32 × Int32 × Nat × Nat × Nat × Nat × Int32 × Int32 × Int32 × (Nat → Nat → Int32)) => v = none ∧ (Nx Xs u.2.2.2.2.2.2.2.2.2.2.2.2.2.2.2.2 gh nd T nm wr lz dc fd md pr bk M rmm fu (Phi gh ps op (rkN gh n9 true)) u.1 u.2.1 u.2.2.1 u.2.2.2.1 rd u.2.2.2.2.2.2.2.2.2.1 u.2.2.2.2.2.2.2.2.2.2.1 u.2.2.2.2.2.2.2.2.2.2.2.1 u.2.2.2.2.2.2.2.2.2.2.2.2.1 u.2.2.2.2.1 u.2.2.2.2.2.1 u.2.2.2.2.2.2.1 u.2.2.2.2.2.2.2.2.1)) (fun u => (mW G h0 a (upd (upd (upd (upd (upd (upd (upd (upd (upd (upd (upd (upd (upd (upd (upd (upd (upd F 97 (nI u.2.2.2.2.2.2.2.2.2.2.2.2.1)) 98 (nI u.2.2.2.2.2.2.2.2.2.2.2.1)) 99 (nI rmm)) 101 u.2.2.2.2.2.2.2.2.2.2.2.2.2.1) 102 (nI u.1)) 111 (nI u.2.1)) 115 (nI u.2.2.1)) 116 u.2.2.2.2.1) 117 (nI u.2.2.2.1)) 118 u.2.2.2.2.2.2.2.1) 119 u.2.2.2.2.2.2.2.2.1) 121 u.2.2.2.2.2.2.2.2.2.2.2.2.2.2.1) 122 u.2.2.2.2.2.2.2.2.2.2.2.2.2.2.2.1) 125 u.2.2.2.2.2.1) 126 u.2.2.2.2.2.2.1) 128 (nI u.2.2.2.2.2.2.2.2.2.1)) 130 (nI u.2.2.2.2.2.2.2.2.2.2.1)) u.2.2.2.2.2.2.2.2.2.2.2.2.2.2.2.2)) := by
  intro sz
  refine Met.ofW (cc := cX12_rows) (maxL := 4) (ret := none) (by decide) rfl ?_
  intro p e s m args below meth c s₁ B9 hml hv
  obtain ⟨rfl, hsz, hP, hD0, hE, hX⟩ := hv
  have hx := B9.exec
  have hb := B9.bytes
  have hr := B9.returns
  have hts := atoms_spec (ws := Cond.code yX12_rows cX12_rows 4 none :: pw) B9.pre
  have hq : ∀ w ∈ pw, w.before _ s = true := fun w h => hts w (List.mem_cons_of_mem _ h)
  have hown : s.vm.findClass RX12 = some m.cls := findClass_of_methodNamed B9.named
  have hlocks := B9.notSynchronized
  subst hsz
  have hD := hD0.self (sz := s.heap.size)
  have hA : ∀ q : Nat, s.heap.size ≤ q → va_A (mW G h0 a (upd (upd (upd (upd (upd (upd (upd (upd (upd (upd (upd (upd (upd (upd (upd (upd (upd F 97 (nI ct)) 98 (nI fl)) 99 (nI rmm)) 101 tds) 102 (nI op)) 111 (nI tp)) 115 (nI wn)) 116 (-1)) 117 (nI fu)) 118 rs0) 119 uc0) 121 ma0) 122 mc0) 125 nw) 126 isn) 128 (nI on)) 130 (nI idn)) B) s.heap.size q := fun q h => Or.inr h
  have hP : va_P G.1 pCl (mW G h0 a (upd (upd (upd (upd (upd (upd (upd (upd (upd (upd (upd (upd (upd (upd (upd (upd (upd F 97 (nI ct)) 98 (nI fl)) 99 (nI rmm)) 101 tds) 102 (nI op)) 111 (nI tp)) 115 (nI wn)) 116 (-1)) 117 (nI fu)) 118 rs0) 119 uc0) 121 ma0) 122 mc0) 125 nw) 126 isn) 128 (nI on)) 130 (nI idn)) B) s.heap := hP
  generalize va_A (mW G h0 a (upd (upd (upd (upd (upd (upd (upd (upd (upd (upd (upd (upd (upd (upd (upd (upd (upd F 97 (nI ct)) 98 (nI fl)) 99 (nI rmm)) 101 tds) 102 (nI op)) 111 (nI tp)) 115 (nI wn)) 116 (-1)) 117 (nI fu)) 118 rs0) 119 uc0) 121 ma0) 122 mc0) 125 nw) 126 isn) 128 (nI on)) 130 (nI idn)) B) s.heap.size = A at hD hE hA ⊢
  have hS : va_S A s.heap s.heap [] := va_S.rf
  have hl := lv_entry ([.ref h0, .int (nI p9)]) (n := 4) (Nat.le_of_ble_eq_true rfl)
  rw [lg_entry_eq]
  generalize (lg_sl ([.ref h0, .int (nI p9)]) ++ List.replicate (4 - (lg_sl ([.ref h0, .int (nI p9)])).length) Slot.unset).toArray = ls at hl ⊢
  have hl : lv_has ls 4 [(0, .ref h0), (1, .int (nI p9))] := hl
  have hPg := hR.pg
  have hbd := hPg.bd
  have hrm := hR.room
  have hpn := hR.pn hp
  obtain ⟨ht1, y9, x9, hm1, hm2, hm3, hm4, hm5, hm6, hm7⟩ := hR.k10 hp hst hkd
  have hw13 : B 13 = Xs 13 := hPg.row 13 (by omega) (by omega) (by omega) (by omega) (by omega)
  have hw21 : B 21 = Xs 21 := hPg.row 21 (by omega) (by omega) (by omega) (by omega) (by omega)
  have hag : Cfg Xs B dc md on M op (tp - 1) wn p9 false mt ps (yyU yy (op - 1) u) bf wf := by have z := (hR.again hp hst hkd (by omega)).1; rw [show bf (op - 1) + u.2.1.length = tp - 1 by omega] at z; exact z
  refine lv_aload_n hx hb dX12_rows_0 rfl (lv_at hl 0 rfl) ?_
  have hP : va_P G.1 pCl (mW G h0 a (upd (upd (upd (upd (upd (upd (upd (upd (upd (upd (upd (upd (upd (upd (upd (upd (upd (upd F 97 (nI ct)) 98 (nI fl)) 99 (nI rmm)) 101 tds) 102 (nI op)) 111 (nI tp)) 115 (nI wn)) 116 (-1)) 117 (nI fu)) 118 rs0) 119 uc0) 121 ma0) 122 mc0) 125 nw) 126 isn) 128 (nI on)) 130 (nI idn)) 111 (nI tp)) (updA B 68 (B 68))) _ := hP
  have hD : va_D A (mW G h0 a (upd (upd (upd (upd (upd (upd (upd (upd (upd (upd (upd (upd (upd (upd (upd (upd (upd (upd F 97 (nI ct)) 98 (nI fl)) 99 (nI rmm)) 101 tds) 102 (nI op)) 111 (nI tp)) 115 (nI wn)) 116 (-1)) 117 (nI fu)) 118 rs0) 119 uc0) 121 ma0) 122 mc0) 125 nw) 126 isn) 128 (nI on)) 130 (nI idn)) 111 (nI tp)) (updA B 68 (B 68))) := hD
  refine pc_V0 (G := G) (As := []) (rest := []) hx hb hml hown hq hE hX pX0_al hP hD hS hA hl.1 (R_pop l G h0 a (upd (upd (upd (upd (upd (upd (upd (upd (upd (upd (upd (upd (upd (upd (upd (upd (upd F 97 (nI ct)) 98 (nI fl)) 99 (nI rmm)) 101 tds) 102 (nI op)) 111 (nI tp)) 115 (nI wn)) 116 (-1)) 117 (nI fu)) 118 rs0) 119 uc0) 121 ma0) 122 mc0) 125 nw) 126 isn) 128 (nI on)) 130 (nI idn)) B tp (B 68) (by omega)) (gV pw_2082 pw_2083 pw_2084 pw_1523 pw_1965) hV_X12_pop 0 9 rfl rfl rfl rfl (Nat.le_of_ble_eq_true rfl) dX12_rows_1 ⟨Nat.le_of_ble_eq_true rfl, Nat.le_of_ble_eq_true rfl⟩ ⟨Nat.le_of_ble_eq_true rfl, Nat.le_of_ble_eq_true rfl⟩ (fun v3 u1 H locs hw2 hP hD hS => ?_)
  obtain rfl : v3 = some (.int ((B 68) (tp - 1))) := hw2
  have hP : va_P G.1 pCl (mW G h0 a (upd (upd (upd (upd (upd (upd (upd (upd (upd (upd (upd (upd (upd (upd (upd (upd (upd F 97 (nI ct)) 98 (nI fl)) 99 (nI rmm)) 101 tds) 102 (nI op)) 111 (nI (tp - 1))) 115 (nI wn)) 116 (-1)) 117 (nI fu)) 118 rs0) 119 uc0) 121 ma0) 122 mc0) 125 nw) 126 isn) 128 (nI on)) 130 (nI idn)) B) _ := hP
  have hD : va_D A (mW G h0 a (upd (upd (upd (upd (upd (upd (upd (upd (upd (upd (upd (upd (upd (upd (upd (upd (upd F 97 (nI ct)) 98 (nI fl)) 99 (nI rmm)) 101 tds) 102 (nI op)) 111 (nI (tp - 1))) 115 (nI wn)) 116 (-1)) 117 (nI fu)) 118 rs0) 119 uc0) 121 ma0) 122 mc0) 125 nw) 126 isn) 128 (nI on)) 130 (nI idn)) B) := hD
  refine W.widen (k := 0) (n := 0) (Nat.le_of_ble_eq_true rfl) (Nat.le_of_ble_eq_true rfl) ?_
  refine W.eq (g2 := F0 m 4 ls [.int ((B 68) (tp - 1))]) rfl ?_
  refine lv_istore_n (lv' := [(2, .int ((B 68) (tp - 1))), (0, .ref h0), (1, .int (nI p9))]) hx hb dX12_rows_4 rfl hl (by decide) rfl (fun ls hl => ?_)
  refine lv_aload_n hx hb dX12_rows_5 rfl (lv_at hl 1 rfl) ?_
  have hP : va_P G.1 pCl (mW G h0 a (upd (upd (upd (upd (upd (upd (upd (upd (upd (upd (upd (upd (upd (upd (upd (upd (upd (upd (upd F 97 (nI ct)) 98 (nI fl)) 99 (nI rmm)) 101 tds) 102 (nI op)) 111 (nI (tp - 1))) 115 (nI wn)) 116 (-1)) 117 (nI fu)) 118 rs0) 119 uc0) 121 ma0) 122 mc0) 125 nw) 126 isn) 128 (nI on)) 130 (nI idn)) 116 (-1)) 117 (nI fu)) B) _ := hP
  have hD : va_D A (mW G h0 a (upd (upd (upd (upd (upd (upd (upd (upd (upd (upd (upd (upd (upd (upd (upd (upd (upd (upd (upd F 97 (nI ct)) 98 (nI fl)) 99 (nI rmm)) 101 tds) 102 (nI op)) 111 (nI (tp - 1))) 115 (nI wn)) 116 (-1)) 117 (nI fu)) 118 rs0) 119 uc0) 121 ma0) 122 mc0) 125 nw) 126 isn) 128 (nI on)) 130 (nI idn)) 116 (-1)) 117 (nI fu)) B) := hD
  refine pc_V0 (G := G) (As := []) (rest := []) hx hb hml hown hq hE hX pX0_al hP hD hS hA hl.1 (R_pays l G h0 a (upd (upd (upd (upd (upd (upd (upd (upd (upd (upd (upd (upd (upd (upd (upd (upd (upd F 97 (nI ct)) 98 (nI fl)) 99 (nI rmm)) 101 tds) 102 (nI op)) 111 (nI (tp - 1))) 115 (nI wn)) 116 (-1)) 117 (nI fu)) 118 rs0) 119 uc0) 121 ma0) 122 mc0) 125 nw) 126 isn) 128 (nI on)) 130 (nI idn)) B fu (-1) (by omega)) (gV pw_2026 pw_2027 pw_2028 pw_1523 pw_2000) hV_X12_pays 0 9 rfl rfl rfl rfl (Nat.le_of_ble_eq_true rfl) dX12_rows_6 ⟨Nat.le_of_ble_eq_true rfl, Nat.le_of_ble_eq_true rfl⟩ ⟨Nat.le_of_ble_eq_true rfl, Nat.le_of_ble_eq_true rfl⟩ (fun v6 u4 H locs hw5 hP hD hS => ?_)
  obtain ⟨r7, fu8, en9⟩ := u4
  obtain ⟨hw5, h10, h11, h12, h13⟩ := hw5
  replace h10 : r7 ≤ 1 := h10
  replace h11 : fu8 + r7 = fu := h11
  replace h12 : If (r7 = 1) (en9 = (-1)) := h12
  replace h13 : If (r7 = 0) (en9 = 2) := h13
  obtain rfl : v6 = some (.int (nI r7)) := hw5
  have hP : va_P G.1 pCl (mW G h0 a (upd (upd (upd (upd (upd (upd (upd (upd (upd (upd (upd (upd (upd (upd (upd (upd (upd F 97 (nI ct)) 98 (nI fl)) 99 (nI rmm)) 101 tds) 102 (nI op)) 111 (nI (tp - 1))) 115 (nI wn)) 116 en9) 117 (nI fu8)) 118 rs0) 119 uc0) 121 ma0) 122 mc0) 125 nw) 126 isn) 128 (nI on)) 130 (nI idn)) B) _ := hP
  have hD : va_D A (mW G h0 a (upd (upd (upd (upd (upd (upd (upd (upd (upd (upd (upd (upd (upd (upd (upd (upd (upd F 97 (nI ct)) 98 (nI fl)) 99 (nI rmm)) 101 tds) 102 (nI op)) 111 (nI (tp - 1))) 115 (nI wn)) 116 en9) 117 (nI fu8)) 118 rs0) 119 uc0) 121 ma0) 122 mc0) 125 nw) 126 isn) 128 (nI on)) 130 (nI idn)) B) := hD
  refine W.widen (k := 0) (n := 0) (Nat.le_of_ble_eq_true rfl) (Nat.le_of_ble_eq_true rfl) ?_
  refine W.eq (g2 := F0 m 9 ls [.int (nI r7)]) rfl ?_
  rcases (show r7 = 0 ∨ r7 = 1 by omega) with hr0 | hr0
  · have hen := h13 hr0
    subst hr0
    have hP : va_P G.1 pCl (mW G h0 a (upd (upd (upd (upd (upd (upd (upd (upd (upd (upd (upd (upd (upd (upd (upd (upd (upd F 97 (nI ct)) 98 (nI fl)) 99 (nI rmm)) 101 tds) 102 (nI op)) 111 (nI (tp - 1))) 115 (nI wn)) 116 en9) 117 (nI fu8)) 118 rs0) 119 uc0) 121 ma0) 122 mc0) 125 nw) 126 isn) 128 (nI on)) 130 (nI idn)) B) _ := hP
    have hD : va_D A (mW G h0 a (upd (upd (upd (upd (upd (upd (upd (upd (upd (upd (upd (upd (upd (upd (upd (upd (upd F 97 (nI ct)) 98 (nI fl)) 99 (nI rmm)) 101 tds) 102 (nI op)) 111 (nI (tp - 1))) 115 (nI wn)) 116 en9) 117 (nI fu8)) 118 rs0) 119 uc0) 121 ma0) 122 mc0) 125 nw) 126 isn) 128 (nI on)) 130 (nI idn)) B) := hD
    refine W.eq (g2 := F0 m 9 ls [.int 0]) rfl ?_
    refine lv_if_ne (tgt := 13) hx hb dX12_rows_9 (by decide) (fun c14 => absurd c14 (by decide)) (fun c14 => ?_)
    have hz15 : Nx Xs B gh nd T nm wr lz dc fd md pr bk M rmm fu (Phi gh ps op (rkN gh n9 true)) op (tp - 1) wn fu8 rd on idn fl ct en9 nw isn uc0 := (hR.stop Sta.rfl hR.hp (by rw [hen]; decide) (by rw [hen]; decide))
    have hP : va_P G.1 pCl (mW G h0 a (upd (upd (upd (upd (upd (upd (upd (upd (upd (upd (upd (upd (upd (upd (upd (upd (upd F 97 (nI ct)) 98 (nI fl)) 99 (nI rmm)) 101 tds) 102 (nI op)) 111 (nI (tp - 1))) 115 (nI wn)) 116 en9) 117 (nI fu8)) 118 rs0) 119 uc0) 121 ma0) 122 mc0) 125 nw) 126 isn) 128 (nI on)) 130 (nI idn)) B) _ := hP
    have hD : va_D A (mW G h0 a (upd (upd (upd (upd (upd (upd (upd (upd (upd (upd (upd (upd (upd (upd (upd (upd (upd F 97 (nI ct)) 98 (nI fl)) 99 (nI rmm)) 101 tds) 102 (nI op)) 111 (nI (tp - 1))) 115 (nI wn)) 116 en9) 117 (nI fu8)) 118 rs0) 119 uc0) 121 ma0) 122 mc0) 125 nw) 126 isn) 128 (nI on)) 130 (nI idn)) B) := hD
    exact W.vret hx hb hr (fun t9 ht9 hW9 => ⟨⟨_, (op, (tp - 1), wn, fu8, en9, nw, isn, rs0, uc0, on, idn, fl, ct, tds, ma0, mc0, B), rfl, ⟨rfl, hz15⟩, by rw [ht9]; exact hP, hD⟩, hS.F ht9⟩) hS.2.2 dX12_rows_12
  · obtain rfl : en9 = _ := h12 hr0
    subst hr0
    have hP : va_P G.1 pCl (mW G h0 a (upd (upd (upd (upd (upd (upd (upd (upd (upd (upd (upd (upd (upd (upd (upd (upd (upd F 97 (nI ct)) 98 (nI fl)) 99 (nI rmm)) 101 tds) 102 (nI op)) 111 (nI (tp - 1))) 115 (nI wn)) 116 (-1)) 117 (nI fu8)) 118 rs0) 119 uc0) 121 ma0) 122 mc0) 125 nw) 126 isn) 128 (nI on)) 130 (nI idn)) B) _ := hP
    have hD : va_D A (mW G h0 a (upd (upd (upd (upd (upd (upd (upd (upd (upd (upd (upd (upd (upd (upd (upd (upd (upd F 97 (nI ct)) 98 (nI fl)) 99 (nI rmm)) 101 tds) 102 (nI op)) 111 (nI (tp - 1))) 115 (nI wn)) 116 (-1)) 117 (nI fu8)) 118 rs0) 119 uc0) 121 ma0) 122 mc0) 125 nw) 126 isn) 128 (nI on)) 130 (nI idn)) B) := hD
    refine W.eq (g2 := F0 m 9 ls [.int 1]) rfl ?_
    have hR1 := hR.fuel (show fu8 ≤ fu by omega)
    refine lv_if_ne (tgt := 13) hx hb dX12_rows_9 (by decide) (fun c16 => ?_) (fun c16 => absurd c16 (by decide))
    refine lv_iload_n hx hb dX12_rows_13 rfl (lv_at hl 0 rfl) ?_
    refine lv_if_ge (tgt := 26) hx hb dX12_rows_14 (by decide) (fun c17 => ?_) (fun c17 => ?_)
    · obtain ⟨k18, e19, h20⟩ := nI_nn c17
      rw [e19] at hl
      have hl : lv_has ls 4 [(2, .int (nI k18)), (0, .ref h0), (1, .int (nI p9))] := hl
      refine lv_aload_n hx hb dX12_rows_26 rfl (lv_at hl 1 rfl) ?_
      refine lv_iconst (v := (-1)) hx hb dX12_rows_27 (by decide) ?_
      refine lv_aload_n hx hb dX12_rows_28 rfl (lv_at hl 1 rfl) ?_
      refine r_get (v := .ref (a 21)) hx hb hown hq hE hP 30 75 tFX12_30 (by decide) pw_1452 rfl dX12_rows_29 ?_
      refine lv_aload_n hx hb dX12_rows_32 rfl (lv_at hl 1 rfl) ?_
      refine r_get (v := .ref (a 13)) hx hb hown hq hE hP 21 50 tFX12_21 (by decide) pw_1443 rfl dX12_rows_33 ?_
      refine lv_iload_n hx hb dX12_rows_36 rfl (lv_at hl 2 rfl) ?_
      refine r_ldi (f := (B 13)) (j := p9) hx hb hE hP 13 (ma_13 G a _) rfl (by omega) (by decide) dX12_rows_37 ?_
      refine lv_topi (fun x21 e22 => ?_)
      obtain rfl : x21 = nI y9 := e22.trans ((congrFun hw13 _).trans hm1)
      refine r_ldi (f := (B 21)) (j := y9) hx hb hE hP 21 (ma_21 G a _) rfl (by omega) (by decide) dX12_rows_38 ?_
      refine lv_topi (fun x23 e24 => ?_)
      obtain rfl : x23 = nI x9 := e24.trans ((congrFun hw21 _).trans hm3)
      refine lv_iload_n hx hb dX12_rows_39 rfl (lv_at hl 0 rfl) ?_
      obtain ⟨hk0, hk1, hk2, hk3, hk4, hk5, hk6, hk7⟩ := Cfg.mkh hPg hR.hp hag
      have hP : va_P G.1 pCl (mW G h0 a (upd (upd (upd (upd (upd (upd (upd (upd (upd (upd (upd (upd (upd (upd (upd (upd (upd (upd (upd (upd (upd (upd (upd (upd (upd (upd F 97 (nI ct)) 98 (nI fl)) 99 (nI rmm)) 101 tds) 102 (nI op)) 111 (nI (tp - 1))) 115 (nI wn)) 116 (-1)) 117 (nI fu8)) 118 rs0) 119 uc0) 121 ma0) 122 mc0) 125 nw) 126 isn) 128 (nI on)) 130 (nI idn)) 97 (nI ct)) 98 (nI fl)) 99 (nI rmm)) 102 (nI op)) 111 (nI (tp - 1))) 115 (nI wn)) 116 (-1)) 128 (nI on)) 130 (nI idn)) (updA (updA (updA (updA (updA (updA (updA (updA (updA B 55 (B 55)) 56 (B 56)) 57 (B 57)) 58 (B 58)) 59 (B 59)) 60 (B 60)) 61 (B 61)) 73 (B 73)) 74 (B 74))) _ := hP
      have hD : va_D A (mW G h0 a (upd (upd (upd (upd (upd (upd (upd (upd (upd (upd (upd (upd (upd (upd (upd (upd (upd (upd (upd (upd (upd (upd (upd (upd (upd (upd F 97 (nI ct)) 98 (nI fl)) 99 (nI rmm)) 101 tds) 102 (nI op)) 111 (nI (tp - 1))) 115 (nI wn)) 116 (-1)) 117 (nI fu8)) 118 rs0) 119 uc0) 121 ma0) 122 mc0) 125 nw) 126 isn) 128 (nI on)) 130 (nI idn)) 97 (nI ct)) 98 (nI fl)) 99 (nI rmm)) 102 (nI op)) 111 (nI (tp - 1))) 115 (nI wn)) 116 (-1)) 128 (nI on)) 130 (nI idn)) (updA (updA (updA (updA (updA (updA (updA (updA (updA B 55 (B 55)) 56 (B 56)) 57 (B 57)) 58 (B 58)) 59 (B 59)) 60 (B 60)) 61 (B 61)) 73 (B 73)) 74 (B 74))) := hD
      refine pc_V0 (G := G) (As := [.int (-1), .int (nI x9), .int (nI k18)]) (rest := []) hx hb hml hown hq hE hX pX0_al hP hD hS hA hl.1 (R_make l G h0 a (upd (upd (upd (upd (upd (upd (upd (upd (upd (upd (upd (upd (upd (upd (upd (upd (upd F 97 (nI ct)) 98 (nI fl)) 99 (nI rmm)) 101 tds) 102 (nI op)) 111 (nI (tp - 1))) 115 (nI wn)) 116 (-1)) 117 (nI fu8)) 118 rs0) 119 uc0) 121 ma0) 122 mc0) 125 nw) 126 isn) 128 (nI on)) 130 (nI idn)) B k18 (-1) (nI x9) (-1) on op (tp - 1) wn idn fl rmm (B 59) (B 61) (B 73) (B 74) (B 58) (B 60) ct (B 55) (B 56) (B 57) (by omega) (by omega) (by omega) (by omega) hk1 hk2 hk3 hk4 hk5 hk6 hk7 (by omega)) (gV pw_2072 pw_2073 pw_2074 pw_1523 pw_1993) hV_X12_make 0 9 rfl rfl rfl rfl (Nat.le_of_ble_eq_true rfl) dX12_rows_40 ⟨Nat.le_of_ble_eq_true rfl, Nat.le_of_ble_eq_true rfl⟩ ⟨Nat.le_of_ble_eq_true rfl, Nat.le_of_ble_eq_true rfl⟩ (fun v27 u25 H locs hw26 hP hD hS => ?_)
      obtain ⟨r28, on29, idn30, fl31, ct32, en33, tds34, ma35, mc36, od37, id38, oa39, cl40, sn41, td42, oc43, os44, om45, sn46⟩ := u25
      obtain ⟨hw26, h47, h48, h49, h50, h51, h52, h53, h54⟩ := hw26
      replace h47 : HS om45 oc43 od37 id38 oa39 on29 idn30 fl31 rmm := h47
      replace h48 : ct32 = smF om45 od37 on29 := h48
      replace h49 : ((∀ c : Nat, c < op → RfS sn46 ((B 62) c)) ∧ (∀ c s v : Nat, c < op → (B 63) c = nI s → s ≤ 30 → v < s → ¬ (B 67) (32 * c + v) = 0 → RfS sn46 ((B 66) (32 * c + v))) ∧ (∀ k : Nat, k < (tp - 1) → ¬ (B 69) k = 0 → RfS sn46 ((B 68) k)) ∧ (∀ k : Nat, k < wn → ¬ (B 72) k = 0 → RfS sn46 ((B 71) k)) ∧ (∀ o : Nat, o < 3000 → Lvd (B 73) on o → ¬ sn46 o = 0 → ∀ v : Int32, (Chd (B 55) (B 56) (B 57) (B 58) (B 60) ((B 75)) ((B 76)) ((B 77))) o v → RfS sn46 v)) := h49
      replace h50 : r28 ≤ 3000 := h50
      replace h51 : If (r28 = 0) (en33 = 3 ∧ oc43 = (B 55) ∧ os44 = (B 56) ∧ om45 = (B 57)) := h51
      replace h52 : If (0 < r28) (en33 = (-1) ∧ oc43 = upd (B 55) (r28 - 1) (-1) ∧ os44 = upd (B 56) (r28 - 1) (nI x9) ∧ om45 = upd (B 57) (r28 - 1) (nI k18) ∧ k18 ≤ 3000 ∧ (¬ Lvd (B 73) on (r28 - 1) ∨ sn46 (r28 - 1) = 0) ∧ ∃ p : Nat, oa39 (r28 - 1) = nI p ∧ p + k18 ≤ 3000 ∧ ∀ i : Nat, i < k18 → cl40 (p + i) = 0) := h52
      replace h53 : ∀ o : Nat, o < 3000 → (Lvd od37 on29 o ↔ (Lvd (B 73) on o ∧ ¬ sn46 o = 0) ∨ (0 < r28 ∧ o = r28 - 1)) := h53
      replace h54 : ∀ o : Nat, o < 3000 → Lvd (B 73) on o → ¬ sn46 o = 0 → ∀ i q p p1 : Nat, (B 57) o = nI q → (B 58) o = nI p → oa39 o = nI p1 → i < q → q ≤ 3000 → p ≤ 3000 → p1 ≤ 3000 → cl40 (p1 + i) = (B 60) (p + i) := h54
      obtain rfl : v27 = some (.int (nI r28)) := hw26
      have hP : va_P G.1 pCl (mW G h0 a (upd (upd (upd (upd (upd (upd (upd (upd (upd (upd (upd (upd (upd (upd (upd (upd (upd F 97 (nI ct32)) 98 (nI fl31)) 99 (nI rmm)) 101 tds34) 102 (nI op)) 111 (nI (tp - 1))) 115 (nI wn)) 116 en33) 117 (nI fu8)) 118 rs0) 119 uc0) 121 ma35) 122 mc36) 125 nw) 126 isn) 128 (nI on29)) 130 (nI idn30)) (updA (updA (updA (updA (updA (updA (updA (updA (updA B 55 oc43) 56 os44) 57 om45) 58 oa39) 59 sn41) 60 cl40) 61 td42) 73 od37) 74 id38)) _ := hP
      have hD : va_D A (mW G h0 a (upd (upd (upd (upd (upd (upd (upd (upd (upd (upd (upd (upd (upd (upd (upd (upd (upd F 97 (nI ct32)) 98 (nI fl31)) 99 (nI rmm)) 101 tds34) 102 (nI op)) 111 (nI (tp - 1))) 115 (nI wn)) 116 en33) 117 (nI fu8)) 118 rs0) 119 uc0) 121 ma35) 122 mc36) 125 nw) 126 isn) 128 (nI on29)) 130 (nI idn30)) (updA (updA (updA (updA (updA (updA (updA (updA (updA B 55 oc43) 56 os44) 57 om45) 58 oa39) 59 sn41) 60 cl40) 61 td42) 73 od37) 74 id38)) := hD
      refine W.widen (k := 0) (n := 0) (Nat.le_of_ble_eq_true rfl) (Nat.le_of_ble_eq_true rfl) ?_
      refine W.eq (g2 := F0 m 43 ls [.int (nI r28)]) rfl ?_
      have hmk : MkQ B (updA (updA (updA (updA (updA (updA (updA (updA (updA B 55 oc43) 56 os44) 57 om45) 58 oa39) 59 sn41) 60 cl40) 61 td42) 73 od37) 74 id38) sn46 on on29 idn30 fl31 ct32 rmm op (tp - 1) wn r28 k18 (-1) (nI x9) (-1) en33 := ⟨h47, h48, h49, h50, h51, h52, h53, h54⟩
      refine lv_istore_n (lv' := [(3, .int (nI r28)), (2, .int (nI k18)), (0, .ref h0), (1, .int (nI p9))]) hx hb dX12_rows_43 rfl hl (by decide) rfl (fun ls hl => ?_)
      refine lv_aload_n hx hb dX12_rows_44 rfl (lv_at hl 2 rfl) ?_
      refine lv_iload_n hx hb dX12_rows_45 rfl (lv_at hl 3 rfl) ?_
      refine lv_iload_n hx hb dX12_rows_46 rfl (lv_at hl 0 rfl) ?_
      have hP : va_P G.1 pCl (mW G h0 a (upd (upd (upd (upd (upd (upd (upd (upd (upd (upd (upd (upd (upd (upd (upd (upd (upd (upd F 97 (nI ct32)) 98 (nI fl31)) 99 (nI rmm)) 101 tds34) 102 (nI op)) 111 (nI (tp - 1))) 115 (nI wn)) 116 en33) 117 (nI fu8)) 118 rs0) 119 uc0) 121 ma35) 122 mc36) 125 nw) 126 isn) 128 (nI on29)) 130 (nI idn30)) 111 (nI (tp - 1))) (updA (updA (updA (updA (updA (updA (updA (updA (updA (updA (updA B 55 oc43) 56 os44) 57 om45) 58 oa39) 59 sn41) 60 cl40) 61 td42) 73 od37) 74 id38) 68 (B 68)) 69 (B 69))) _ := hP
      have hD : va_D A (mW G h0 a (upd (upd (upd (upd (upd (upd (upd (upd (upd (upd (upd (upd (upd (upd (upd (upd (upd (upd F 97 (nI ct32)) 98 (nI fl31)) 99 (nI rmm)) 101 tds34) 102 (nI op)) 111 (nI (tp - 1))) 115 (nI wn)) 116 en33) 117 (nI fu8)) 118 rs0) 119 uc0) 121 ma35) 122 mc36) 125 nw) 126 isn) 128 (nI on29)) 130 (nI idn30)) 111 (nI (tp - 1))) (updA (updA (updA (updA (updA (updA (updA (updA (updA (updA (updA B 55 oc43) 56 os44) 57 om45) 58 oa39) 59 sn41) 60 cl40) 61 td42) 73 od37) 74 id38) 68 (B 68)) 69 (B 69))) := hD
      refine pc_V0 (G := G) (As := [.int (nI p9), .int (nI r28)]) (rest := []) hx hb hml hown hq hE hX pX0_al hP hD hS hA hl.1 (R_gives l G h0 a (upd (upd (upd (upd (upd (upd (upd (upd (upd (upd (upd (upd (upd (upd (upd (upd (upd F 97 (nI ct32)) 98 (nI fl31)) 99 (nI rmm)) 101 tds34) 102 (nI op)) 111 (nI (tp - 1))) 115 (nI wn)) 116 en33) 117 (nI fu8)) 118 rs0) 119 uc0) 121 ma35) 122 mc36) 125 nw) 126 isn) 128 (nI on29)) 130 (nI idn30)) (updA (updA (updA (updA (updA (updA (updA (updA (updA B 55 oc43) 56 os44) 57 om45) 58 oa39) 59 sn41) 60 cl40) 61 td42) 73 od37) 74 id38) p9 (1000 + x9) (tp - 1) (nI r28) (B 68) (B 69) (by omega) hm7 (by omega) (by omega)) (gV pw_2069 pw_2070 pw_2071 pw_1523 pw_2006) hV_X12_gives 0 9 rfl rfl rfl rfl (Nat.le_of_ble_eq_true rfl) dX12_rows_47 ⟨Nat.le_of_ble_eq_true rfl, Nat.le_of_ble_eq_true rfl⟩ ⟨Nat.le_of_ble_eq_true rfl, Nat.le_of_ble_eq_true rfl⟩ (fun v57 u55 H locs hw56 hP hD hS => ?_)
      obtain ⟨b58, rf59⟩ := u55
      obtain ⟨hw56, h60, h61⟩ := hw56
      replace h60 : rf59 = upd (B 69) (tp - 1) (nI b58) := h60
      replace h61 : b58 ≤ 1 ∧ 3 * b58 ≤ (1000 + x9) ∧ (1000 + x9) ≤ 2 + 9000 * b58 := h61
      obtain rfl : v57 = none := hw56
      have hP : va_P G.1 pCl (mW G h0 a (upd (upd (upd (upd (upd (upd (upd (upd (upd (upd (upd (upd (upd (upd (upd (upd (upd F 97 (nI ct32)) 98 (nI fl31)) 99 (nI rmm)) 101 tds34) 102 (nI op)) 111 (nI ((tp - 1) + 1))) 115 (nI wn)) 116 en33) 117 (nI fu8)) 118 rs0) 119 uc0) 121 ma35) 122 mc36) 125 (nI p9)) 126 0) 128 (nI on29)) 130 (nI idn30)) (updA (updA (updA (updA (updA (updA (updA (updA (updA (updA (updA B 55 oc43) 56 os44) 57 om45) 58 oa39) 59 sn41) 60 cl40) 61 td42) 68 (upd (B 68) (tp - 1) (nI r28))) 69 rf59) 73 od37) 74 id38)) _ := hP
      have hD : va_D A (mW G h0 a (upd (upd (upd (upd (upd (upd (upd (upd (upd (upd (upd (upd (upd (upd (upd (upd (upd F 97 (nI ct32)) 98 (nI fl31)) 99 (nI rmm)) 101 tds34) 102 (nI op)) 111 (nI ((tp - 1) + 1))) 115 (nI wn)) 116 en33) 117 (nI fu8)) 118 rs0) 119 uc0) 121 ma35) 122 mc36) 125 (nI p9)) 126 0) 128 (nI on29)) 130 (nI idn30)) (updA (updA (updA (updA (updA (updA (updA (updA (updA (updA (updA B 55 oc43) 56 os44) 57 om45) 58 oa39) 59 sn41) 60 cl40) 61 td42) 68 (upd (B 68) (tp - 1) (nI r28))) 69 rf59) 73 od37) 74 id38)) := hD
      refine W.widen (k := 0) (n := 0) (Nat.le_of_ble_eq_true rfl) (Nat.le_of_ble_eq_true rfl) ?_
      refine W.eq (g2 := F0 m 50 ls []) rfl ?_
      obtain rfl : rf59 = _ := h60
      have hP : va_P G.1 pCl (mW G h0 a (upd (upd (upd (upd (upd (upd (upd (upd (upd (upd (upd (upd (upd (upd (upd (upd (upd F 97 (nI ct32)) 98 (nI fl31)) 99 (nI rmm)) 101 tds34) 102 (nI op)) 111 (nI ((tp - 1) + 1))) 115 (nI wn)) 116 en33) 117 (nI fu8)) 118 rs0) 119 uc0) 121 ma35) 122 mc36) 125 (nI p9)) 126 0) 128 (nI on29)) 130 (nI idn30)) (updA (updA (updA (updA (updA (updA (updA (updA (updA (updA (updA B 55 oc43) 56 os44) 57 om45) 58 oa39) 59 sn41) 60 cl40) 61 td42) 68 (upd (B 68) (tp - 1) (nI r28))) 69 (upd (B 69) (tp - 1) (nI b58))) 73 od37) 74 id38)) _ := hP
      have hD : va_D A (mW G h0 a (upd (upd (upd (upd (upd (upd (upd (upd (upd (upd (upd (upd (upd (upd (upd (upd (upd F 97 (nI ct32)) 98 (nI fl31)) 99 (nI rmm)) 101 tds34) 102 (nI op)) 111 (nI ((tp - 1) + 1))) 115 (nI wn)) 116 en33) 117 (nI fu8)) 118 rs0) 119 uc0) 121 ma35) 122 mc36) 125 (nI p9)) 126 0) 128 (nI on29)) 130 (nI idn30)) (updA (updA (updA (updA (updA (updA (updA (updA (updA (updA (updA B 55 oc43) 56 os44) 57 om45) 58 oa39) 59 sn41) 60 cl40) 61 td42) 68 (upd (B 68) (tp - 1) (nI r28))) 69 (upd (B 69) (tp - 1) (nI b58))) 73 od37) 74 id38)) := hD
      have hz62 : Nx Xs (updA (updA (updA (updA (updA (updA (updA (updA (updA (updA (updA B 55 oc43) 56 os44) 57 om45) 58 oa39) 59 sn41) 60 cl40) 61 td42) 68 (upd (B 68) (tp - 1) (nI r28))) 69 (upd (B 69) (tp - 1) (nI b58))) 73 od37) 74 id38) gh nd T nm wr lz dc fd md pr bk M rmm fu (Phi gh ps op (rkN gh n9 true)) op ((tp - 1) + 1) wn fu8 rd on29 idn30 fl31 ct32 en33 (nI p9) (0 : Int32) uc0 := (by obtain ⟨kp9, kp1, kp2⟩ := hR.2.2.2; rw [upd4]; exact MkQ.go hPg hR.hp hag ⟨kp1, kp2⟩ hkd (by omega) (by omega) hm7 hm6 (by omega) h61 hmk (Sta.up (Sta.up (Sta.up (Sta.up (Sta.up (Sta.up (Sta.up (Sta.up (Sta.up (Sta.rfl) (by omega)) (by omega)) (by omega)) (by omega)) (by omega)) (by omega)) (by omega)) (by omega)) (by omega)) ⟨rfl, rfl, rfl⟩ ⟨rfl, rfl, rfl⟩ ⟨rfl, rfl, rfl, rfl, rfl⟩ rfl (MkQ.row hPg hmk (Sta.up (Sta.up (Sta.up (Sta.up (Sta.up (Sta.up (Sta.up (Sta.up (Sta.up (Sta.rfl) (by omega)) (by omega)) (by omega)) (by omega)) (by omega)) (by omega)) (by omega)) (by omega)) (by omega)) hm4) h11)
      have hP : va_P G.1 pCl (mW G h0 a (upd (upd (upd (upd (upd (upd (upd (upd (upd (upd (upd (upd (upd (upd (upd (upd (upd F 97 (nI ct32)) 98 (nI fl31)) 99 (nI rmm)) 101 tds34) 102 (nI op)) 111 (nI ((tp - 1) + 1))) 115 (nI wn)) 116 en33) 117 (nI fu8)) 118 rs0) 119 uc0) 121 ma35) 122 mc36) 125 (nI p9)) 126 (0 : Int32)) 128 (nI on29)) 130 (nI idn30)) (updA (updA (updA (updA (updA (updA (updA (updA (updA (updA (updA B 55 oc43) 56 os44) 57 om45) 58 oa39) 59 sn41) 60 cl40) 61 td42) 68 (upd (B 68) (tp - 1) (nI r28))) 69 (upd (B 69) (tp - 1) (nI b58))) 73 od37) 74 id38)) _ := hP
      have hD : va_D A (mW G h0 a (upd (upd (upd (upd (upd (upd (upd (upd (upd (upd (upd (upd (upd (upd (upd (upd (upd F 97 (nI ct32)) 98 (nI fl31)) 99 (nI rmm)) 101 tds34) 102 (nI op)) 111 (nI ((tp - 1) + 1))) 115 (nI wn)) 116 en33) 117 (nI fu8)) 118 rs0) 119 uc0) 121 ma35) 122 mc36) 125 (nI p9)) 126 (0 : Int32)) 128 (nI on29)) 130 (nI idn30)) (updA (updA (updA (updA (updA (updA (updA (updA (updA (updA (updA B 55 oc43) 56 os44) 57 om45) 58 oa39) 59 sn41) 60 cl40) 61 td42) 68 (upd (B 68) (tp - 1) (nI r28))) 69 (upd (B 69) (tp - 1) (nI b58))) 73 od37) 74 id38)) := hD
      exact W.vret hx hb hr (fun t9 ht9 hW9 => ⟨⟨_, (op, ((tp - 1) + 1), wn, fu8, en33, (nI p9), (0 : Int32), rs0, uc0, on29, idn30, fl31, ct32, tds34, ma35, mc36, (updA (updA (updA (updA (updA (updA (updA (updA (updA (updA (updA B 55 oc43) 56 os44) 57 om45) 58 oa39) 59 sn41) 60 cl40) 61 td42) 68 (upd (B 68) (tp - 1) (nI r28))) 69 (upd (B 69) (tp - 1) (nI b58))) 73 od37) 74 id38)), rfl, ⟨rfl, hz62⟩, by rw [ht9]; exact hP, hD⟩, hS.F ht9⟩) hS.2.2 dX12_rows_50
    · refine lv_aload_n hx hb dX12_rows_17 rfl (lv_at hl 1 rfl) ?_
      refine lv_iload_n hx hb dX12_rows_18 rfl (lv_at hl 2 rfl) ?_
      refine lv_sipush (v := 4006) hx hb dX12_rows_19 (by decide) ?_
      have hln63 := (Rn.lnP hR1 hp hst hkd (by omega) (by omega)).1
      have hP : va_P G.1 pCl (mW G h0 a (upd (upd (upd (upd (upd (upd (upd (upd (upd (upd (upd (upd (upd (upd (upd (upd (upd (upd (upd (upd (upd (upd (upd (upd (upd (upd F 97 (nI ct)) 98 (nI fl)) 99 (nI rmm)) 101 tds) 102 (nI op)) 111 (nI (tp - 1))) 115 (nI wn)) 116 (-1)) 117 (nI fu8)) 118 rs0) 119 uc0) 121 ma0) 122 mc0) 125 nw) 126 isn) 128 (nI on)) 130 (nI idn)) 102 (nI op)) 111 (nI (tp - 1))) 115 (nI wn)) 116 (-1)) 117 (nI fu8)) 118 rs0) 119 uc0) 125 nw) 126 isn) B) _ := hP
      have hD : va_D A (mW G h0 a (upd (upd (upd (upd (upd (upd (upd (upd (upd (upd (upd (upd (upd (upd (upd (upd (upd (upd (upd (upd (upd (upd (upd (upd (upd (upd F 97 (nI ct)) 98 (nI fl)) 99 (nI rmm)) 101 tds) 102 (nI op)) 111 (nI (tp - 1))) 115 (nI wn)) 116 (-1)) 117 (nI fu8)) 118 rs0) 119 uc0) 121 ma0) 122 mc0) 125 nw) 126 isn) 128 (nI on)) 130 (nI idn)) 102 (nI op)) 111 (nI (tp - 1))) 115 (nI wn)) 116 (-1)) 117 (nI fu8)) 118 rs0) 119 uc0) 125 nw) 126 isn) B) := hD
      refine pc_V0 (G := G) (As := [.int (nI p9), .int (nI 4006)]) (rest := []) hx hb hml hown hq hE hX pX0_al hP hD hS hA hl.1 (R_raises l G h0 a (upd (upd (upd (upd (upd (upd (upd (upd (upd (upd (upd (upd (upd (upd (upd (upd (upd F 97 (nI ct)) 98 (nI fl)) 99 (nI rmm)) 101 tds) 102 (nI op)) 111 (nI (tp - 1))) 115 (nI wn)) 116 (-1)) 117 (nI fu8)) 118 rs0) 119 uc0) 121 ma0) 122 mc0) 125 nw) 126 isn) 128 (nI on)) 130 (nI idn)) B Xs gh nd T nm wr lz dc fd md pr bk M rmm (Phi gh ps op (rkN gh n9 true)) op wn fu8 rd on idn fl ct p9 4006 (4006 - 4000) mt ps (yyU yy (op - 1) u) bf wf (nI (tp - 1)) nw isn rs0 uc0 hln63 (by omega) (by omega) (Or.inr (by omega)) (clF_1 (by omega)) (by omega)) (gV pw_2054 pw_2055 pw_2056 pw_1523 pw_2053) hV_X12_raises 0 9 rfl rfl rfl rfl (Nat.le_of_ble_eq_true rfl) dX12_rows_22 ⟨Nat.le_of_ble_eq_true rfl, Nat.le_of_ble_eq_true rfl⟩ ⟨Nat.le_of_ble_eq_true rfl, Nat.le_of_ble_eq_true rfl⟩ (fun v66 u64 H locs hw65 hP hD hS => ?_)
      obtain ⟨op67, tp68, wn69, fu70, en71, nw72, is73, rs74, uc75, X76⟩ := u64
      obtain ⟨hw65, h77⟩ := hw65
      replace h77 : Nx Xs X76 gh nd T nm wr lz dc fd md pr bk M rmm fu8 (Phi gh ps op (rkN gh n9 true)) op67 tp68 wn69 fu70 rd on idn fl ct en71 nw72 is73 uc75 := h77
      obtain rfl : v66 = none := hw65
      have hP : va_P G.1 pCl (mW G h0 a (upd (upd (upd (upd (upd (upd (upd (upd (upd (upd (upd (upd (upd (upd (upd (upd (upd F 97 (nI ct)) 98 (nI fl)) 99 (nI rmm)) 101 tds) 102 (nI op67)) 111 (nI tp68)) 115 (nI wn69)) 116 en71) 117 (nI fu70)) 118 rs74) 119 uc75) 121 ma0) 122 mc0) 125 nw72) 126 is73) 128 (nI on)) 130 (nI idn)) X76) _ := hP
      have hD : va_D A (mW G h0 a (upd (upd (upd (upd (upd (upd (upd (upd (upd (upd (upd (upd (upd (upd (upd (upd (upd F 97 (nI ct)) 98 (nI fl)) 99 (nI rmm)) 101 tds) 102 (nI op67)) 111 (nI tp68)) 115 (nI wn69)) 116 en71) 117 (nI fu70)) 118 rs74) 119 uc75) 121 ma0) 122 mc0) 125 nw72) 126 is73) 128 (nI on)) 130 (nI idn)) X76) := hD
      refine W.widen (k := 0) (n := 0) (Nat.le_of_ble_eq_true rfl) (Nat.le_of_ble_eq_true rfl) ?_
      refine W.eq (g2 := F0 m 25 ls []) rfl ?_
      have hz78 : Nx Xs X76 gh nd T nm wr lz dc fd md pr bk M rmm fu (Phi gh ps op (rkN gh n9 true)) op67 tp68 wn69 fu70 rd on idn fl ct en71 nw72 is73 uc75 := (Nx.less h77 (by omega))
      have hP : va_P G.1 pCl (mW G h0 a (upd (upd (upd (upd (upd (upd (upd (upd (upd (upd (upd (upd (upd (upd (upd (upd (upd F 97 (nI ct)) 98 (nI fl)) 99 (nI rmm)) 101 tds) 102 (nI op67)) 111 (nI tp68)) 115 (nI wn69)) 116 en71) 117 (nI fu70)) 118 rs74) 119 uc75) 121 ma0) 122 mc0) 125 nw72) 126 is73) 128 (nI on)) 130 (nI idn)) X76) _ := hP
      have hD : va_D A (mW G h0 a (upd (upd (upd (upd (upd (upd (upd (upd (upd (upd (upd (upd (upd (upd (upd (upd (upd F 97 (nI ct)) 98 (nI fl)) 99 (nI rmm)) 101 tds) 102 (nI op67)) 111 (nI tp68)) 115 (nI wn69)) 116 en71) 117 (nI fu70)) 118 rs74) 119 uc75) 121 ma0) 122 mc0) 125 nw72) 126 is73) 128 (nI on)) 130 (nI idn)) X76) := hD
      exact W.vret hx hb hr (fun t9 ht9 hW9 => ⟨⟨_, (op67, tp68, wn69, fu70, en71, nw72, is73, rs74, uc75, on, idn, fl, ct, tds, ma0, mc0, X76), rfl, ⟨rfl, hz78⟩, by rw [ht9]; exact hP, hD⟩, hS.F ht9⟩) hS.2.2 dX12_rows_25

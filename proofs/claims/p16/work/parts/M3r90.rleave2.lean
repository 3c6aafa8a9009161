theorem dX12_leaves_46 : decode cX12_leaves 46 = .ok (.aload_n 0, 1) := by decide +kernel
theorem dX12_leaves_47 : decode cX12_leaves 47 = .ok (.iload_n 3, 1) := by decide +kernel
theorem dX12_leaves_48 : decode cX12_leaves 48 = .ok (.iload 4, 2) := by decide +kernel
theorem dX12_leaves_50 : decode cX12_leaves 50 = .ok (.invokevirtual 819, 3) := by decide +kernel
theorem dX12_leaves_53 : decode cX12_leaves 53 = .ok (.iconst 0, 1) := by decide +kernel
theorem dX12_leaves_54 : decode cX12_leaves 54 = .ok (.istore 6, 2) := by decide +kernel
theorem dX12_leaves_56 : decode cX12_leaves 56 = .ok (.goto 301, 3) := by decide +kernel
theorem hV_X12_returns : yX12_returns.cls = RX12 ∧ yX12_returns.cls ≠ "java/lang/invoke/MethodHandle" ∧ yX12_returns.cls ≠ "java/lang/invoke/VarHandle" ∧ (parseMethodDescriptor yX12_returns.desc).map (fun d => d.parameters.length) = some 2 := by decide +kernel
set_option maxHeartbeats 16000000 in
set_option maxRecDepth 100000 in
/-- leaves, kind 2 -/
theorem R_leaves2 (l : Launch) (G : pT) (h0 : Nat) (a : Nat → Nat) (F : Nat → Int32) (B : Nat → Nat → Int32) (Xs : Nat → Nat → Int32) (gh : Nat → Nat → Nat) (nd : Nat) (T : Nat) (nm : Nat) (wr : Nat) (lz : Nat) (dc : Nat) (fd : Nat) (md : Nat) (pr : Nat) (bk : Nat) (M : MTb) (rmm : Nat) (mu : Nat) (op : Nat) (wn : Nat) (fu : Nat) (rd : Nat) (on : Nat) (idn : Nat) (fl : Nat) (ct : Nat) (c9 : Nat) (x : Int32) (b9 : Nat) (mt : Nat → Nat) (ps : Nat → Nat) (yy : Nat → Ps) (bf : Nat → Nat) (wf : Nat → Nat) (tx : Int32) (nw : Int32) (isn : Int32) (rs0 : Int32) (uc0 : Int32) (hL : Ln Xs B gh nd T nm wr lz dc fd md pr bk M rmm mu op wn fu rd on idn fl ct c9 mt ps yy bf wf) (hfu : fu ≤ 20000) (hb1 : b9 ≤ 1) (hrf : If (¬ b9 = 0) (RfV (B 73) on x)) (hv9 : M.2.2.1 (mt (op - 1)) = 0 ∨ Slt Xs B on dc x (nI b9) (M.2.2.1 (mt (op - 1)))) : PM l G pX0 yX12_leaves cX12_leaves 9 none ({ frames := 4, cells := 0, slots := 0, locals := 105 }) [.ref h0, .int (nI c9), .int 2, .int x, .int (nI b9)] (mW G h0 a (upd (upd (upd (upd (upd (upd (upd (upd (upd F 102 (nI op)) 111 tx) 115 (nI wn)) 116 (-1)) 117 (nI fu)) 118 rs0) 119 uc0) 125 nw) 126 isn) B) (fun (v : Option Value) (u : Nat × Nat × Nat × Nat × Int32 × Int32 × Int32 × Int32 × Int32 × (Nat → Nat → Int32)) => v = none ∧ (Nx Xs u.2.2.2.2.2.2.2.2.2 gh nd T nm wr lz dc fd md pr bk M rmm fu mu u.1 u.2.1 u.2.2.1 u.2.2.2.1 rd on idn fl ct u.2.2.2.2.1 u.2.2.2.2.2.1 u.2.2.2.2.2.2.1 u.2.2.2.2.2.2.2.2.1)) (fun u => (mW G h0 a (upd (upd (upd (upd (upd (upd (upd (upd (upd F 102 (nI u.1)) 111 (nI u.2.1)) 115 (nI u.2.2.1)) 116 u.2.2.2.2.1) 117 (nI u.2.2.2.1)) 118 u.2.2.2.2.2.2.2.1) 119 u.2.2.2.2.2.2.2.2.1) 125 u.2.2.2.2.2.1) 126 u.2.2.2.2.2.2.1) u.2.2.2.2.2.2.2.2.2)) := by
  intro sz
  refine Met.ofW (cc := cX12_leaves) (maxL := 9) (ret := none) (by decide) rfl ?_
  intro p e s m args below meth c s₁ B9 hml hv
  obtain ⟨rfl, hsz, hP, hD0, hE, hX⟩ := hv
  have hx := B9.exec
  have hb := B9.bytes
  have hr := B9.returns
  have hts := atoms_spec (ws := Cond.code yX12_leaves cX12_leaves 9 none :: pw) B9.pre
  have hq : ∀ w ∈ pw, w.before _ s = true := fun w h => hts w (List.mem_cons_of_mem _ h)
  have hown : s.vm.findClass RX12 = some m.cls := findClass_of_methodNamed B9.named
  have hlocks := B9.notSynchronized
  subst hsz
  have hD := hD0.self (sz := s.heap.size)
  have hA : ∀ q : Nat, s.heap.size ≤ q → va_A (mW G h0 a (upd (upd (upd (upd (upd (upd (upd (upd (upd F 102 (nI op)) 111 tx) 115 (nI wn)) 116 (-1)) 117 (nI fu)) 118 rs0) 119 uc0) 125 nw) 126 isn) B) s.heap.size q := fun q h => Or.inr h
  have hP : va_P G.1 pCl (mW G h0 a (upd (upd (upd (upd (upd (upd (upd (upd (upd F 102 (nI op)) 111 tx) 115 (nI wn)) 116 (-1)) 117 (nI fu)) 118 rs0) 119 uc0) 125 nw) 126 isn) B) s.heap := hP
  generalize va_A (mW G h0 a (upd (upd (upd (upd (upd (upd (upd (upd (upd F 102 (nI op)) 111 tx) 115 (nI wn)) 116 (-1)) 117 (nI fu)) 118 rs0) 119 uc0) 125 nw) 126 isn) B) s.heap.size = A at hD hE hA ⊢
  have hS : va_S A s.heap s.heap [] := va_S.rf
  have hl := lv_entry ([.ref h0, .int (nI c9), .int 2, .int x, .int (nI b9)]) (n := 9) (Nat.le_of_ble_eq_true rfl)
  rw [lg_entry_eq]
  generalize (lg_sl ([.ref h0, .int (nI c9), .int 2, .int x, .int (nI b9)]) ++ List.replicate (9 - (lg_sl ([.ref h0, .int (nI c9), .int 2, .int x, .int (nI b9)])).length) Slot.unset).toArray = ls at hl ⊢
  have hl : lv_has ls 9 [(0, .ref h0), (1, .int (nI c9)), (2, .int 2), (3, .int x), (4, .int (nI b9))] := hl
  have hPg := hL.1
  have hbd := hPg.bd
  have hrm := hL.room
  have hw9 : B 9 = Xs 9 := hPg.row 9 (by omega) (by omega) (by omega) (by omega) (by omega)
  have hw12 : B 12 = Xs 12 := hPg.row 12 (by omega) (by omega) (by omega) (by omega) (by omega)
  have hw13 : B 13 = Xs 13 := hPg.row 13 (by omega) (by omega) (by omega) (by omega) (by omega)
  have hw16 : B 16 = Xs 16 := hPg.row 16 (by omega) (by omega) (by omega) (by omega) (by omega)
  have hw31 : B 31 = Xs 31 := hPg.row 31 (by omega) (by omega) (by omega) (by omega) (by omega)
  refine lv_iload_n hx hb dX12_leaves_0 rfl (lv_at hl 1 rfl) ?_
  refine lv_istore (lv' := [(5, .int (nI c9)), (0, .ref h0), (1, .int (nI c9)), (2, .int 2), (3, .int x), (4, .int (nI b9))]) hx hb dX12_leaves_1 hl (by decide) rfl (fun ls hl => ?_)
  refine lv_iconst (v := 1) hx hb dX12_leaves_3 (by decide) ?_
  refine lv_istore (lv' := [(6, .int 1), (5, .int (nI c9)), (0, .ref h0), (1, .int (nI c9)), (2, .int 2), (3, .int x), (4, .int (nI b9))]) hx hb dX12_leaves_4 hl (by decide) rfl (fun ls hl => ?_)
  have loop_o : ∀ (n_o : Nat) (zq : Nat) (op2 : Nat) (wn2 : Nat) (c2 : Nat) (yy2 : Nat → Ps) (tx2 : Int32) (H : Heap) (locs : List Loc) (ls : Array Slot), zq ≤ 40400 → 40400 + 1 ≤ zq + n_o → (Ln Xs B gh nd T nm wr lz dc fd md pr bk M rmm mu op2 wn2 fu rd on idn fl ct c2 mt ps yy2 bf wf) → (zq = 400 * (100 - op2) + gh 1 c2 ∧ gh 1 c2 ≤ 361 ∧ 1 ≤ op2 ∧ op2 ≤ 100 ∧ c2 < nd ∧ wn2 ≤ 20 * op2) → (M.2.2.1 (mt (op2 - 1)) = 0 ∨ Slt Xs B on dc x (nI b9) (M.2.2.1 (mt (op2 - 1)))) → va_P G.1 pCl (mW G h0 a (upd (upd (upd (upd (upd (upd (upd (upd (upd F 102 (nI op2)) 111 tx2) 115 (nI wn2)) 116 (-1)) 117 (nI fu)) 118 rs0) 119 uc0) 125 nw) 126 isn) B) H → va_D A (mW G h0 a (upd (upd (upd (upd (upd (upd (upd (upd (upd F 102 (nI op2)) 111 tx2) 115 (nI wn2)) 116 (-1)) 117 (nI fu)) 118 rs0) 119 uc0) 125 nw) 126 isn) B) → va_S A s.heap H locs → lv_has ls 9 [(6, .int 1), (5, .int (nI c2)), (4, .int (nI b9)), (3, .int x), (2, .int 2), (1, .int (nI c9)), (0, .ref h0)] → W p l e (headSpec (Cond.code yX12_leaves cX12_leaves 9 none :: pw) ({ frames := 4, cells := 0, slots := 0, locals := 105 } : Room)).room s m ([.ref h0, .int (nI c9), .int 2, .int x, .int (nI b9)] : List Value).toArray below meth c H locs 0 0 (MQ below (pQ G A (fun (v : Option Value) (u : Nat × Nat × Nat × Nat × Int32 × Int32 × Int32 × Int32 × Int32 × (Nat → Nat → Int32)) => v = none ∧ (Nx Xs u.2.2.2.2.2.2.2.2.2 gh nd T nm wr lz dc fd md pr bk M rmm fu mu u.1 u.2.1 u.2.2.1 u.2.2.2.1 rd on idn fl ct u.2.2.2.2.1 u.2.2.2.2.2.1 u.2.2.2.2.2.2.1 u.2.2.2.2.2.2.2.2.1)) (fun u => (mW G h0 a (upd (upd (upd (upd (upd (upd (upd (upd (upd F 102 (nI u.1)) 111 (nI u.2.1)) 115 (nI u.2.2.1)) 116 u.2.2.2.2.1) 117 (nI u.2.2.2.1)) 118 u.2.2.2.2.2.2.2.1) 119 u.2.2.2.2.2.2.2.2.1) 125 u.2.2.2.2.2.1) 126 u.2.2.2.2.2.2.1) u.2.2.2.2.2.2.2.2.2))) ([.ref h0, .int (nI c9), .int 2, .int x, .int (nI b9)] : List Value).toArray s ({ frames := 4, cells := 0, slots := 0, locals := 105 } : Room).cells ({ frames := 4, cells := 0, slots := 0, locals := 105 } : Room).slots A) (F0 m 6 ls []) := by
    intro n_o
    induction n_o with
    | zero => intro zq op2 wn2 c2 yy2 tx2 H locs ls hk_o hn_o; omega
    | succ n_o ih_o =>
      intro zq op2 wn2 c2 yy2 tx2 H locs ls hk_o hn_o hL2 hz2 hv2 hP hD hS hl
      refine lv_iload hx hb dX12_leaves_6 (lv_at hl 0 rfl) ?_
      refine lv_if_eq (tgt := 360) hx hb dX12_leaves_8 (by decide) (fun c1 => absurd c1 (by decide)) (fun c1 => ?_)
      have hrm2 := hL2.room
      refine lv_aload_n hx hb dX12_leaves_11 rfl (lv_at hl 6 rfl) ?_
      refine lv_aload_n hx hb dX12_leaves_12 rfl (lv_at hl 6 rfl) ?_
      refine r_get (v := .ref (a 64)) hx hb hown hq hE hP 105 205 tFX12_105 (by decide) pw_1496 rfl dX12_leaves_13 ?_
      refine lv_aload_n hx hb dX12_leaves_16 rfl (lv_at hl 6 rfl) ?_
      refine r_get (v := .int (nI op2)) hx hb hown hq hE hP 102 707 tFX12_102 (by decide) pw_1969 rfl dX12_leaves_17 ?_
      refine lv_iconst (v := 1) hx hb dX12_leaves_20 (by decide) ?_
      refine lv_isub hx hb dX12_leaves_21 ?_
      refine lv_topi (fun x2 e3 => ?_)
      obtain rfl : x2 = nI (op2 - 1) := e3.trans (nI_subN (a := 1) (b := op2) (by omega))
      refine r_ldi (f := (B 64)) (j := (op2 - 1)) hx hb hE hP 64 (ma_64 G a _) rfl (by omega) (by decide) dX12_leaves_22 ?_
      refine lv_topi (fun x4 e5 => ?_)
      obtain rfl : x4 = nI (bf (op2 - 1)) := e5.trans hrm2.2.2.2.2.2.2.1
      refine r_put (v := (nI (bf (op2 - 1)))) (ty := .int) hx hb hown hq hE hP hD hS 111 698 tFX12_111 (by decide) pw_1964 (by decide) rfl rfl (ms_111 a _ _) dX12_leaves_23 (fun H locs hP hD hS => ?_)
      refine lv_aload_n hx hb dX12_leaves_26 rfl (lv_at hl 6 rfl) ?_
      refine r_get (v := .ref (a 52)) hx hb hown hq hE hP 88 168 tFX12_88 (by decide) pw_1483 rfl dX12_leaves_27 ?_
      refine lv_iload hx hb dX12_leaves_30 (lv_at hl 1 rfl) ?_
      refine r_ldi (f := (B 52)) (j := c2) hx hb hE hP 52 (ma_52 G a _) rfl (by omega) (by decide) dX12_leaves_32 ?_
      rcases hL2.up with ⟨hu1, hu2, hu3⟩ | ⟨p2, u2, hp1, hp2, hp3, hp4, hp5⟩
      · refine lv_topi (fun x6 e7 => ?_)
        obtain rfl : x6 = (-1) := e7.trans hu1
        refine lv_istore (lv' := [(7, .int (-1)), (6, .int 1), (5, .int (nI c2)), (4, .int (nI b9)), (3, .int x), (2, .int 2), (1, .int (nI c9)), (0, .ref h0)]) hx hb dX12_leaves_33 hl (by decide) rfl (fun ls hl => ?_)
        refine lv_iload hx hb dX12_leaves_35 (lv_at hl 0 rfl) ?_
        refine lv_iconst (v := (-1)) hx hb dX12_leaves_37 (by decide) ?_
        refine lv_icmp_ne (tgt := 59) hx hb dX12_leaves_38 (by decide) (fun c8 => absurd c8 (by decide)) (fun c8 => ?_)
        refine lv_iload_n hx hb dX12_leaves_41 rfl (lv_at hl 5 rfl) ?_
        refine lv_iconst (v := 2) hx hb dX12_leaves_42 (by decide) ?_
        refine lv_icmp_ne (tgt := 59) hx hb dX12_leaves_43 (by decide) (fun c10 => absurd c10 (by decide)) (fun c10 => ?_)
        refine lv_aload_n hx hb dX12_leaves_46 rfl (lv_at hl 7 rfl) ?_
        refine lv_iload_n hx hb dX12_leaves_47 rfl (lv_at hl 4 rfl) ?_
        refine lv_iload hx hb dX12_leaves_48 (lv_at hl 3 rfl) ?_
        rcases hL2.pop hu3 with ⟨ho1, hn1⟩ | ⟨ho2, hn2, hn3, hn4, hn5⟩
        · have hP : va_P G.1 pCl (mW G h0 a (upd (upd (upd (upd (upd (upd (upd (upd (upd (upd (upd (upd (upd (upd F 102 (nI op2)) 111 (nI (bf (op2 - 1)))) 115 (nI wn2)) 116 (-1)) 117 (nI fu)) 118 rs0) 119 uc0) 125 nw) 126 isn) 102 (nI op2)) 116 (-1)) 118 rs0) 125 nw) 126 isn) (updA (updA B 68 (B 68)) 69 (B 69))) _ := mW_to (F := F) (l1 := [(102, (nI op2)), (111, tx2), (115, (nI wn2)), (116, (-1)), (117, (nI fu)), (118, rs0), (119, uc0), (125, nw), (126, isn), (111, (nI (bf (op2 - 1))))]) (l2 := [(102, (nI op2)), (111, (nI (bf (op2 - 1)))), (115, (nI wn2)), (116, (-1)), (117, (nI fu)), (118, rs0), (119, uc0), (125, nw), (126, isn), (102, (nI op2)), (116, (-1)), (118, rs0), (125, nw), (126, isn)]) (V := [(nI op2), (nI (bf (op2 - 1))), (nI wn2), (-1), (nI fu), rs0, uc0, nw, isn, (nI (bf (op2 - 1))), (nI op2), (nI (bf (op2 - 1))), (nI wn2), (-1), (nI fu), rs0, uc0, nw, isn, (nI op2), (-1), rs0, nw, isn]) rfl rfl (show B = (updA (updA B 68 (B 68)) 69 (B 69)) from updsA_eq2 (F := B) (l1 := []) (l2 := [(68, (B 68)), (69, (B 69))]) (V := [(B 68), (B 69)]) rfl rfl) hP
          have hD : va_D A (mW G h0 a (upd (upd (upd (upd (upd (upd (upd (upd (upd (upd (upd (upd (upd (upd F 102 (nI op2)) 111 (nI (bf (op2 - 1)))) 115 (nI wn2)) 116 (-1)) 117 (nI fu)) 118 rs0) 119 uc0) 125 nw) 126 isn) 102 (nI op2)) 116 (-1)) 118 rs0) 125 nw) 126 isn) (updA (updA B 68 (B 68)) 69 (B 69))) := mW_D hD
          refine pc_V0 (G := G) (As := [.int x, .int (nI b9)]) (rest := []) hx hb hml hown hq hE hX pX0_al hP hD hS hA hl.1 (R_returns l G h0 a (upd (upd (upd (upd (upd (upd (upd (upd (upd F 102 (nI op2)) 111 (nI (bf (op2 - 1)))) 115 (nI wn2)) 116 (-1)) 117 (nI fu)) 118 rs0) 119 uc0) 125 nw) 126 isn) B op2 b9 (bf (op2 - 1)) x (-1) rs0 nw isn (B 68) (B 69) (by omega) (by omega) hrm2.2.2.2.2.2.2.1 (by omega) (Or.inl hn1)) (gV pw_2034 pw_2035 pw_2036 pw_1523 pw_2021) hV_X12_returns 0 9 rfl rfl rfl rfl (Nat.le_of_ble_eq_true rfl) dX12_leaves_50 ⟨Nat.le_of_ble_eq_true rfl, Nat.le_of_ble_eq_true rfl⟩ ⟨Nat.le_of_ble_eq_true rfl, Nat.le_of_ble_eq_true rfl⟩ (fun v13 u11 H locs hw12 hP hD hS => ?_)
          obtain ⟨tp14, en15, rs16, nw17, is18, stk19, rf20⟩ := u11
          obtain ⟨hw12, h21, h22⟩ := hw12
          replace h21 : If ((B 65) (op2 - 1) = -1) (en15 = 0 ∧ rs16 = x ∧ stk19 = (B 68) ∧ rf20 = (B 69) ∧ tp14 = (bf (op2 - 1))) := h21
          replace h22 : ∀ n : Nat, n < 12000 → (B 65) (op2 - 1) = nI n → en15 = (-1) ∧ nw17 = nI n ∧ is18 = 0 ∧ (((B 17) n = 0 ∧ tp14 = (bf (op2 - 1)) ∧ stk19 = (B 68) ∧ rf20 = (B 69)) ∨ (¬ (B 17) n = 0 ∧ tp14 = (bf (op2 - 1)) + 1 ∧ stk19 = upd (B 68) (bf (op2 - 1)) x ∧ rf20 = upd (B 69) (bf (op2 - 1)) (nI b9))) := h22
          obtain rfl : v13 = none := hw12
          have hP : va_P G.1 pCl (mW G h0 a (upd (upd (upd (upd (upd (upd (upd (upd (upd F 102 (nI (op2 - 1))) 111 (nI tp14)) 115 (nI wn2)) 116 en15) 117 (nI fu)) 118 rs16) 119 uc0) 125 nw17) 126 is18) (updA (updA B 68 stk19) 69 rf20)) _ := mW_to (F := F) (l1 := [(102, (nI op2)), (111, (nI (bf (op2 - 1)))), (115, (nI wn2)), (116, (-1)), (117, (nI fu)), (118, rs0), (119, uc0), (125, nw), (126, isn), (102, (nI (op2 - 1))), (111, (nI tp14)), (116, en15), (118, rs16), (125, nw17), (126, is18)]) (l2 := [(102, (nI (op2 - 1))), (111, (nI tp14)), (115, (nI wn2)), (116, en15), (117, (nI fu)), (118, rs16), (119, uc0), (125, nw17), (126, is18)]) (V := [(nI (op2 - 1)), (nI tp14), (nI wn2), en15, (nI fu), rs16, uc0, nw17, is18, (nI (op2 - 1)), (nI tp14), en15, rs16, nw17, is18, (nI (op2 - 1)), (nI tp14), (nI wn2), en15, (nI fu), rs16, uc0, nw17, is18]) rfl rfl rfl hP
          have hD : va_D A (mW G h0 a (upd (upd (upd (upd (upd (upd (upd (upd (upd F 102 (nI (op2 - 1))) 111 (nI tp14)) 115 (nI wn2)) 116 en15) 117 (nI fu)) 118 rs16) 119 uc0) 125 nw17) 126 is18) (updA (updA B 68 stk19) 69 rf20)) := mW_D hD
          refine W.widen (k := 0) (n := 0) (Nat.le_of_ble_eq_true rfl) (Nat.le_of_ble_eq_true rfl) ?_
          refine W.eq (g2 := F0 m 53 ls []) rfl ?_
          refine lv_iconst (v := 0) hx hb dX12_leaves_53 (by decide) ?_
          refine lv_istore (lv' := [(6, .int 0), (7, .int (-1)), (5, .int (nI c2)), (4, .int (nI b9)), (3, .int x), (2, .int 2), (1, .int (nI c9)), (0, .ref h0)]) hx hb dX12_leaves_54 hl (by decide) rfl (fun ls hl => ?_)
          refine lv_goto (tgt := 357) hx hb dX12_leaves_56 (by decide) ?_
          refine lv_goto (tgt := 6) hx hb dX12_leaves_357 (by decide) ?_
          refine lv_iload hx hb dX12_leaves_6 (lv_at hl 0 rfl) ?_
          refine lv_if_eq (tgt := 360) hx hb dX12_leaves_8 (by decide) (fun c23 => ?_) (fun c23 => absurd c23 (by decide))
          have hz24 : Nx Xs (updA (updA B 68 stk19) 69 rf20) gh nd T nm wr lz dc fd md pr bk M rmm fu mu (op2 - 1) tp14 wn2 fu rd on idn fl ct en15 nw17 is18 uc0 := (by obtain ⟨z1, z2, z3, z4, z5⟩ := h21 hn1; exact hL2.stop (Sta.up (Sta.up Sta.rfl (by omega)) (by omega)) (by rw [z3, z4]; exact hL2.2.1) (by rw [z1]; decide) (fun z => by rw [z1] at z; exact absurd z (by decide)))
          have hP : va_P G.1 pCl (mW G h0 a (upd (upd (upd (upd (upd (upd (upd (upd (upd F 102 (nI (op2 - 1))) 111 (nI tp14)) 115 (nI wn2)) 116 en15) 117 (nI fu)) 118 rs16) 119 uc0) 125 nw17) 126 is18) (updA (updA B 68 stk19) 69 rf20)) _ := hP
          have hD : va_D A (mW G h0 a (upd (upd (upd (upd (upd (upd (upd (upd (upd F 102 (nI (op2 - 1))) 111 (nI tp14)) 115 (nI wn2)) 116 en15) 117 (nI fu)) 118 rs16) 119 uc0) 125 nw17) 126 is18) (updA (updA B 68 stk19) 69 rf20)) := mW_D hD
          exact W.vret hx hb hr (fun t9 ht9 hW9 => ⟨⟨_, ((op2 - 1), tp14, wn2, fu, en15, nw17, is18, rs16, uc0, (updA (updA B 68 stk19) 69 rf20)), rfl, ⟨rfl, hz24⟩, by rw [ht9]; exact hP, hD⟩, hS.F ht9⟩) hS.2.2 dX12_leaves_360
        · have hP : va_P G.1 pCl (mW G h0 a (upd (upd (upd (upd (upd (upd (upd (upd (upd (upd (upd (upd (upd (upd F 102 (nI op2)) 111 (nI (bf (op2 - 1)))) 115 (nI wn2)) 116 (-1)) 117 (nI fu)) 118 rs0) 119 uc0) 125 nw) 126 isn) 102 (nI op2)) 116 (-1)) 118 rs0) 125 nw) 126 isn) (updA (updA B 68 (B 68)) 69 (B 69))) _ := mW_to (F := F) (l1 := [(102, (nI op2)), (111, tx2), (115, (nI wn2)), (116, (-1)), (117, (nI fu)), (118, rs0), (119, uc0), (125, nw), (126, isn), (111, (nI (bf (op2 - 1))))]) (l2 := [(102, (nI op2)), (111, (nI (bf (op2 - 1)))), (115, (nI wn2)), (116, (-1)), (117, (nI fu)), (118, rs0), (119, uc0), (125, nw), (126, isn), (102, (nI op2)), (116, (-1)), (118, rs0), (125, nw), (126, isn)]) (V := [(nI op2), (nI (bf (op2 - 1))), (nI wn2), (-1), (nI fu), rs0, uc0, nw, isn, (nI (bf (op2 - 1))), (nI op2), (nI (bf (op2 - 1))), (nI wn2), (-1), (nI fu), rs0, uc0, nw, isn, (nI op2), (-1), rs0, nw, isn]) rfl rfl (show B = (updA (updA B 68 (B 68)) 69 (B 69)) from updsA_eq2 (F := B) (l1 := []) (l2 := [(68, (B 68)), (69, (B 69))]) (V := [(B 68), (B 69)]) rfl rfl) hP
          have hD : va_D A (mW G h0 a (upd (upd (upd (upd (upd (upd (upd (upd (upd (upd (upd (upd (upd (upd F 102 (nI op2)) 111 (nI (bf (op2 - 1)))) 115 (nI wn2)) 116 (-1)) 117 (nI fu)) 118 rs0) 119 uc0) 125 nw) 126 isn) 102 (nI op2)) 116 (-1)) 118 rs0) 125 nw) 126 isn) (updA (updA B 68 (B 68)) 69 (B 69))) := mW_D hD
          refine pc_V0 (G := G) (As := [.int x, .int (nI b9)]) (rest := []) hx hb hml hown hq hE hX pX0_al hP hD hS hA hl.1 (R_returns l G h0 a (upd (upd (upd (upd (upd (upd (upd (upd (upd F 102 (nI op2)) 111 (nI (bf (op2 - 1)))) 115 (nI wn2)) 116 (-1)) 117 (nI fu)) 118 rs0) 119 uc0) 125 nw) 126 isn) B op2 b9 (bf (op2 - 1)) x (-1) rs0 nw isn (B 68) (B 69) (by omega) (by omega) hrm2.2.2.2.2.2.2.1 (by omega) (Or.inr ⟨_, by omega, hn2⟩)) (gV pw_2034 pw_2035 pw_2036 pw_1523 pw_2021) hV_X12_returns 0 9 rfl rfl rfl rfl (Nat.le_of_ble_eq_true rfl) dX12_leaves_50 ⟨Nat.le_of_ble_eq_true rfl, Nat.le_of_ble_eq_true rfl⟩ ⟨Nat.le_of_ble_eq_true rfl, Nat.le_of_ble_eq_true rfl⟩ (fun v27 u25 H locs hw26 hP hD hS => ?_)
          obtain ⟨tp28, en29, rs30, nw31, is32, stk33, rf34⟩ := u25
          obtain ⟨hw26, h35, h36⟩ := hw26
          replace h35 : If ((B 65) (op2 - 1) = -1) (en29 = 0 ∧ rs30 = x ∧ stk33 = (B 68) ∧ rf34 = (B 69) ∧ tp28 = (bf (op2 - 1))) := h35
          replace h36 : ∀ n : Nat, n < 12000 → (B 65) (op2 - 1) = nI n → en29 = (-1) ∧ nw31 = nI n ∧ is32 = 0 ∧ (((B 17) n = 0 ∧ tp28 = (bf (op2 - 1)) ∧ stk33 = (B 68) ∧ rf34 = (B 69)) ∨ (¬ (B 17) n = 0 ∧ tp28 = (bf (op2 - 1)) + 1 ∧ stk33 = upd (B 68) (bf (op2 - 1)) x ∧ rf34 = upd (B 69) (bf (op2 - 1)) (nI b9))) := h36
          obtain rfl : v27 = none := hw26
          have hP : va_P G.1 pCl (mW G h0 a (upd (upd (upd (upd (upd (upd (upd (upd (upd F 102 (nI (op2 - 1))) 111 (nI tp28)) 115 (nI wn2)) 116 en29) 117 (nI fu)) 118 rs30) 119 uc0) 125 nw31) 126 is32) (updA (updA B 68 stk33) 69 rf34)) _ := mW_to (F := F) (l1 := [(102, (nI op2)), (111, (nI (bf (op2 - 1)))), (115, (nI wn2)), (116, (-1)), (117, (nI fu)), (118, rs0), (119, uc0), (125, nw), (126, isn), (102, (nI (op2 - 1))), (111, (nI tp28)), (116, en29), (118, rs30), (125, nw31), (126, is32)]) (l2 := [(102, (nI (op2 - 1))), (111, (nI tp28)), (115, (nI wn2)), (116, en29), (117, (nI fu)), (118, rs30), (119, uc0), (125, nw31), (126, is32)]) (V := [(nI (op2 - 1)), (nI tp28), (nI wn2), en29, (nI fu), rs30, uc0, nw31, is32, (nI (op2 - 1)), (nI tp28), en29, rs30, nw31, is32, (nI (op2 - 1)), (nI tp28), (nI wn2), en29, (nI fu), rs30, uc0, nw31, is32]) rfl rfl rfl hP
          have hD : va_D A (mW G h0 a (upd (upd (upd (upd (upd (upd (upd (upd (upd F 102 (nI (op2 - 1))) 111 (nI tp28)) 115 (nI wn2)) 116 en29) 117 (nI fu)) 118 rs30) 119 uc0) 125 nw31) 126 is32) (updA (updA B 68 stk33) 69 rf34)) := mW_D hD
          refine W.widen (k := 0) (n := 0) (Nat.le_of_ble_eq_true rfl) (Nat.le_of_ble_eq_true rfl) ?_
          refine W.eq (g2 := F0 m 53 ls []) rfl ?_
          refine lv_iconst (v := 0) hx hb dX12_leaves_53 (by decide) ?_
          refine lv_istore (lv' := [(6, .int 0), (7, .int (-1)), (5, .int (nI c2)), (4, .int (nI b9)), (3, .int x), (2, .int 2), (1, .int (nI c9)), (0, .ref h0)]) hx hb dX12_leaves_54 hl (by decide) rfl (fun ls hl => ?_)
          refine lv_goto (tgt := 357) hx hb dX12_leaves_56 (by decide) ?_
          refine lv_goto (tgt := 6) hx hb dX12_leaves_357 (by decide) ?_
          refine lv_iload hx hb dX12_leaves_6 (lv_at hl 0 rfl) ?_
          refine lv_if_eq (tgt := 360) hx hb dX12_leaves_8 (by decide) (fun c37 => ?_) (fun c37 => absurd c37 (by decide))
          have hz38 : Nx Xs (updA (updA B 68 stk33) 69 rf34) gh nd T nm wr lz dc fd md pr bk M rmm fu mu (op2 - 1) tp28 wn2 fu rd on idn fl ct en29 nw31 is32 uc0 := (by obtain ⟨z1, z2, z3, z4⟩ := h36 _ (by omega) hn2; rw [z1, z2, z3]; refine hL2.back hu3 hv2 ho2 ?_; rcases z4 with ⟨y1, y2, y3, y4⟩ | ⟨y1, y2, y3, y4⟩; exact Or.inl ⟨by rw [y3, y4]; exact upd2_id, y1, y2⟩; exact Or.inr ⟨by rw [y3, y4], y1, y2⟩)
          have hP : va_P G.1 pCl (mW G h0 a (upd (upd (upd (upd (upd (upd (upd (upd (upd F 102 (nI (op2 - 1))) 111 (nI tp28)) 115 (nI wn2)) 116 en29) 117 (nI fu)) 118 rs30) 119 uc0) 125 nw31) 126 is32) (updA (updA B 68 stk33) 69 rf34)) _ := hP
          have hD : va_D A (mW G h0 a (upd (upd (upd (upd (upd (upd (upd (upd (upd F 102 (nI (op2 - 1))) 111 (nI tp28)) 115 (nI wn2)) 116 en29) 117 (nI fu)) 118 rs30) 119 uc0) 125 nw31) 126 is32) (updA (updA B 68 stk33) 69 rf34)) := mW_D hD
          exact W.vret hx hb hr (fun t9 ht9 hW9 => ⟨⟨_, ((op2 - 1), tp28, wn2, fu, en29, nw31, is32, rs30, uc0, (updA (updA B 68 stk33) 69 rf34)), rfl, ⟨rfl, hz38⟩, by rw [ht9]; exact hP, hD⟩, hS.F ht9⟩) hS.2.2 dX12_leaves_360
      · refine lv_topi (fun x39 e40 => ?_)
        obtain rfl : x39 = nI p2 := e40.trans hp2
        obtain ⟨kp, ekp, -, kp4, -⟩ := hPg.fs.knd hp1
        rcases (show kp = 41 ∨ kp = 35 ∨ kp = 36 ∨ (kp ≠ 41 ∧ kp ≠ 35 ∧ kp ≠ 36) by omega) with rfl | rfl | rfl | hk3
        · refine lv_istore (lv' := [(7, .int (nI p2)), (6, .int 1), (5, .int (nI c2)), (4, .int (nI b9)), (3, .int x), (2, .int 2), (1, .int (nI c9)), (0, .ref h0)]) hx hb dX12_leaves_33 hl (by decide) rfl (fun ls hl => ?_)
          refine lv_iload hx hb dX12_leaves_35 (lv_at hl 0 rfl) ?_
          refine lv_iconst (v := (-1)) hx hb dX12_leaves_37 (by decide) ?_
          refine lv_icmp_ne (tgt := 59) hx hb dX12_leaves_38 (by decide) (fun c41 => ?_) (fun c41 => absurd c41 (nI_m1 (by omega)))
          refine lv_iload hx hb dX12_leaves_59 (lv_at hl 0 rfl) ?_
          refine lv_iconst (v := (-1)) hx hb dX12_leaves_61 (by decide) ?_
          refine lv_icmp_ne (tgt := 108) hx hb dX12_leaves_62 (by decide) (fun c42 => ?_) (fun c42 => absurd c42 (nI_m1 (by omega)))
          refine lv_aload_n hx hb dX12_leaves_108 rfl (lv_at hl 7 rfl) ?_
          refine r_get (v := .ref (a 9)) hx hb hown hq hE hP 17 38 tFX12_17 (by decide) pw_1439 rfl dX12_leaves_109 ?_
          refine lv_iload hx hb dX12_leaves_112 (lv_at hl 0 rfl) ?_
          refine r_ldi (f := (B 9)) (j := p2) hx hb hE hP 9 (ma_9 G a _) rfl (by omega) (by decide) dX12_leaves_114 ?_
          refine lv_topi (fun x43 e44 => ?_)
          obtain rfl : x43 = 41 := e44.trans ((congrFun hw9 _).trans ekp)
          refine lv_bipush (v := 41) hx hb dX12_leaves_115 (by decide) ?_
          refine lv_icmp_ne (tgt := 149) hx hb dX12_leaves_117 (by decide) (fun c45 => absurd c45 (by decide)) (fun c45 => ?_)
          refine lv_iload hx hb dX12_leaves_120 (lv_at hl 2 rfl) ?_
          refine lv_aload_n hx hb dX12_leaves_122 rfl (lv_at hl 7 rfl) ?_
          refine r_get (v := .ref (a 14)) hx hb hown hq hE hP 22 53 tFX12_22 (by decide) pw_1444 rfl dX12_leaves_123 ?_
          refine lv_iload hx hb dX12_leaves_126 (lv_at hl 0 rfl) ?_
          refine r_ldi (f := (B 14)) (j := p2) hx hb hE hP 14 (ma_14 G a _) rfl (by omega) (by decide) dX12_leaves_128 ?_
          refine lv_icmp_ne (tgt := 149) hx hb dX12_leaves_129 (by decide) (fun c46 => ?_) (fun c46 => ?_)
          · refine lv_aload_n hx hb dX12_leaves_149 rfl (lv_at hl 7 rfl) ?_
            refine r_get (v := .ref (a 9)) hx hb hown hq hE hP 17 38 tFX12_17 (by decide) pw_1439 rfl dX12_leaves_150 ?_
            refine lv_iload hx hb dX12_leaves_153 (lv_at hl 0 rfl) ?_
            refine r_ldi (f := (B 9)) (j := p2) hx hb hE hP 9 (ma_9 G a _) rfl (by omega) (by decide) dX12_leaves_155 ?_
            refine lv_topi (fun x47 e48 => ?_)
            obtain rfl : x47 = 41 := e48.trans ((congrFun hw9 _).trans ekp)
            refine lv_bipush (v := 41) hx hb dX12_leaves_156 (by decide) ?_
            refine lv_icmp_ne (tgt := 311) hx hb dX12_leaves_158 (by decide) (fun c49 => absurd c49 (by decide)) (fun c49 => ?_)
            refine lv_iload_n hx hb dX12_leaves_161 rfl (lv_at hl 5 rfl) ?_
            refine lv_iconst (v := 1) hx hb dX12_leaves_162 (by decide) ?_
            refine lv_icmp_ne (tgt := 188) hx hb dX12_leaves_163 (by decide) (fun c50 => ?_) (fun c50 => absurd c50 (by decide))
            refine lv_iconst (v := (-1)) hx hb dX12_leaves_188 (by decide) ?_
            refine lv_istore (lv' := [(8, .int (-1)), (7, .int (nI p2)), (6, .int 1), (5, .int (nI c2)), (4, .int (nI b9)), (3, .int x), (2, .int 2), (1, .int (nI c9)), (0, .ref h0)]) hx hb dX12_leaves_189 hl (by decide) rfl (fun ls hl => ?_)
            refine lv_iload hx hb dX12_leaves_191 (lv_at hl 0 rfl) ?_
            refine lv_iconst (v := (-1)) hx hb dX12_leaves_193 (by decide) ?_
            refine lv_icmp_ne (tgt := 212) hx hb dX12_leaves_194 (by decide) (fun c51 => absurd c51 (by decide)) (fun c51 => ?_)
            refine lv_aload_n hx hb dX12_leaves_197 rfl (lv_at hl 8 rfl) ?_
            refine r_get (v := .ref (a 14)) hx hb hown hq hE hP 22 53 tFX12_22 (by decide) pw_1444 rfl dX12_leaves_198 ?_
            refine lv_iload hx hb dX12_leaves_201 (lv_at hl 1 rfl) ?_
            refine r_ldi (f := (B 14)) (j := p2) hx hb hE hP 14 (ma_14 G a _) rfl (by omega) (by decide) dX12_leaves_203 ?_
            refine lv_iconst (v := (-1)) hx hb dX12_leaves_204 (by decide) ?_
            refine lv_icmp_ne (tgt := 212) hx hb dX12_leaves_205 (by decide) (fun c52 => ?_) (fun c52 => ?_)
            · refine lv_iconst (v := 0) hx hb dX12_leaves_212 (by decide) ?_
              refine lv_istore (lv' := [(6, .int 0), (8, .int (-1)), (7, .int (nI p2)), (5, .int (nI c2)), (4, .int (nI b9)), (3, .int x), (2, .int 2), (1, .int (nI c9)), (0, .ref h0)]) hx hb dX12_leaves_213 hl (by decide) rfl (fun ls hl => ?_)
              refine lv_iload hx hb dX12_leaves_215 (lv_at hl 2 rfl) ?_
              refine lv_istore (lv' := [(5, .int (nI p2)), (6, .int 0), (8, .int (-1)), (7, .int (nI p2)), (4, .int (nI b9)), (3, .int x), (2, .int 2), (1, .int (nI c9)), (0, .ref h0)]) hx hb dX12_leaves_217 hl (by decide) rfl (fun ls hl => ?_)
              refine lv_iload hx hb dX12_leaves_219 (lv_at hl 2 rfl) ?_
              refine lv_iconst (v := (-1)) hx hb dX12_leaves_221 (by decide) ?_
              refine lv_icmp_eq (tgt := 293) hx hb dX12_leaves_222 (by decide) (fun c53 => ?_) (fun c53 => absurd c53 (by decide))
              refine lv_iload hx hb dX12_leaves_293 (lv_at hl 1 rfl) ?_
              refine lv_if_ne (tgt := 308) hx hb dX12_leaves_295 (by decide) (fun c54 => absurd c54 (by decide)) (fun c54 => ?_)
              refine lv_aload_n hx hb dX12_leaves_298 rfl (lv_at hl 8 rfl) ?_
              refine lv_iload hx hb dX12_leaves_299 (lv_at hl 3 rfl) ?_
              refine lv_iload_n hx hb dX12_leaves_301 rfl (lv_at hl 6 rfl) ?_
              refine lv_iload_n hx hb dX12_leaves_302 rfl (lv_at hl 5 rfl) ?_
              refine lv_iload hx hb dX12_leaves_303 (lv_at hl 4 rfl) ?_
              obtain ⟨vc, jc, hg1, hg2, hg4, hg5, hg6⟩ := hL2.last (x := x) (b := b9) (kd := 2) (uc := uc0) hp4 hp3 ekp (by rw [← hPg.r14 p2 hp1 (by rw [ekp]; decide)]; exact fun h => c46 h.symm) c52 ⟨hb1, Or.inr (Or.inr (Or.inl ⟨rfl, hv2⟩)), hrf⟩
              have hP : va_P G.1 pCl (mW G h0 a (upd (upd (upd (upd (upd (upd (upd (upd (upd (upd (upd F 102 (nI op2)) 111 (nI (bf (op2 - 1)))) 115 (nI wn2)) 116 (-1)) 117 (nI fu)) 118 rs0) 119 uc0) 125 nw) 126 isn) 102 (nI op2)) 115 (nI wn2)) (updA (updA (updA (updA B 63 (B 63)) 70 (B 70)) 71 (B 71)) 72 (B 72))) _ := hP
              have hD : va_D A (mW G h0 a (upd (upd (upd (upd (upd (upd (upd (upd (upd (upd (upd F 102 (nI op2)) 111 (nI (bf (op2 - 1)))) 115 (nI wn2)) 116 (-1)) 117 (nI fu)) 118 rs0) 119 uc0) 125 nw) 126 isn) 102 (nI op2)) 115 (nI wn2)) (updA (updA (updA (updA B 63 (B 63)) 70 (B 70)) 71 (B 71)) 72 (B 72))) := mW_D hD
              refine pc_V0 (G := G) (As := [.int (nI p2), .int 2, .int x, .int (nI b9)]) (rest := []) hx hb hml hown hq hE hX pX0_al hP hD hS hA hl.1 (R_waitsFor l G h0 a (upd (upd (upd (upd (upd (upd (upd (upd (upd F 102 (nI op2)) 111 (nI (bf (op2 - 1)))) 115 (nI wn2)) 116 (-1)) 117 (nI fu)) 118 rs0) 119 uc0) 125 nw) 126 isn) B p2 op2 wn2 b9 2 x (B 70) (B 71) (B 72) (B 63) (by omega) (by omega) (by omega) (by omega)) (gV pw_2043 pw_2044 pw_2045 pw_1523 pw_2024) hV_X12_waitsFor 0 9 rfl rfl rfl rfl (Nat.le_of_ble_eq_true rfl) dX12_leaves_305 ⟨Nat.le_of_ble_eq_true rfl, Nat.le_of_ble_eq_true rfl⟩ ⟨Nat.le_of_ble_eq_true rfl, Nat.le_of_ble_eq_true rfl⟩ (fun v57 u55 H locs hw56 hP hD hS => ?_)
              obtain ⟨wf58, rfl⟩ : ∃ z, z = u55 := ⟨_, rfl⟩
              obtain ⟨hw56, h59⟩ := hw56
              replace h59 : wf58 = upd (B 72) wn2 (nI b9) := h59
              obtain rfl : v57 = none := hw56
              have hP : va_P G.1 pCl (mW G h0 a (upd (upd (upd (upd (upd (upd (upd (upd (upd F 102 (nI op2)) 111 (nI (bf (op2 - 1)))) 115 (nI (wn2 + 1))) 116 (-1)) 117 (nI fu)) 118 rs0) 119 uc0) 125 ((B 14) p2)) 126 1) (updA (updA (updA (updA B 63 (upd (B 63) (op2 - 1) ((B 18) p2))) 70 (upd (B 70) wn2 2)) 71 (upd (B 71) wn2 x)) 72 wf58)) _ := mW_to (F := F) (l1 := [(102, (nI op2)), (111, (nI (bf (op2 - 1)))), (115, (nI wn2)), (116, (-1)), (117, (nI fu)), (118, rs0), (119, uc0), (125, nw), (126, isn), (102, (nI op2)), (115, (nI (wn2 + 1))), (125, (B 14 p2)), (126, 1)]) (l2 := [(102, (nI op2)), (111, (nI (bf (op2 - 1)))), (115, (nI (wn2 + 1))), (116, (-1)), (117, (nI fu)), (118, rs0), (119, uc0), (125, ((B 14) p2)), (126, 1)]) (V := [(nI op2), (nI (bf (op2 - 1))), (nI (wn2 + 1)), (-1), (nI fu), rs0, uc0, ((B 14) p2), 1, (nI op2), (nI (wn2 + 1)), ((B 14) p2), 1, (nI op2), (nI (bf (op2 - 1))), (nI (wn2 + 1)), (-1), (nI fu), rs0, uc0, ((B 14) p2), 1]) rfl rfl (show (updA (updA (updA (updA B 63 (upd (B 63) (op2 - 1) (B 18 p2))) 70 (upd (B 70) wn2 2)) 71 (upd (B 71) wn2 x)) 72 wf58) = (updA (updA (updA (updA B 63 (upd (B 63) (op2 - 1) ((B 18) p2))) 70 (upd (B 70) wn2 2)) 71 (upd (B 71) wn2 x)) 72 wf58) from updsA_eq2 (F := B) (l1 := [(63, (upd (B 63) (op2 - 1) (B 18 p2))), (70, (upd (B 70) wn2 2)), (71, (upd (B 71) wn2 x)), (72, wf58)]) (l2 := [(63, (upd (B 63) (op2 - 1) ((B 18) p2))), (70, (upd (B 70) wn2 2)), (71, (upd (B 71) wn2 x)), (72, wf58)]) (V := [(upd (B 63) (op2 - 1) ((B 18) p2)), (upd (B 70) wn2 2), (upd (B 71) wn2 x), wf58, (upd (B 63) (op2 - 1) ((B 18) p2)), (upd (B 70) wn2 2), (upd (B 71) wn2 x), wf58]) rfl rfl) hP
              have hD : va_D A (mW G h0 a (upd (upd (upd (upd (upd (upd (upd (upd (upd F 102 (nI op2)) 111 (nI (bf (op2 - 1)))) 115 (nI (wn2 + 1))) 116 (-1)) 117 (nI fu)) 118 rs0) 119 uc0) 125 ((B 14) p2)) 126 1) (updA (updA (updA (updA B 63 (upd (B 63) (op2 - 1) ((B 18) p2))) 70 (upd (B 70) wn2 2)) 71 (upd (B 71) wn2 x)) 72 wf58)) := mW_D hD
              refine W.widen (k := 0) (n := 0) (Nat.le_of_ble_eq_true rfl) (Nat.le_of_ble_eq_true rfl) ?_
              refine W.eq (g2 := F0 m 308 ls []) rfl ?_
              obtain rfl : wf58 = _ := h59
              have hP : va_P G.1 pCl (mW G h0 a (upd (upd (upd (upd (upd (upd (upd (upd (upd F 102 (nI op2)) 111 (nI (bf (op2 - 1)))) 115 (nI (wn2 + 1))) 116 (-1)) 117 (nI fu)) 118 rs0) 119 uc0) 125 ((B 14) p2)) 126 1) (updA (updA (updA (updA B 63 (upd (B 63) (op2 - 1) ((B 18) p2))) 70 (upd (B 70) wn2 2)) 71 (upd (B 71) wn2 x)) 72 (upd (B 72) wn2 (nI b9)))) _ := hP
              have hD : va_D A (mW G h0 a (upd (upd (upd (upd (upd (upd (upd (upd (upd F 102 (nI op2)) 111 (nI (bf (op2 - 1)))) 115 (nI (wn2 + 1))) 116 (-1)) 117 (nI fu)) 118 rs0) 119 uc0) 125 ((B 14) p2)) 126 1) (updA (updA (updA (updA B 63 (upd (B 63) (op2 - 1) ((B 18) p2))) 70 (upd (B 70) wn2 2)) 71 (upd (B 71) wn2 x)) 72 (upd (B 72) wn2 (nI b9)))) := mW_D hD
              refine lv_goto (tgt := 357) hx hb dX12_leaves_308 (by decide) ?_
              refine lv_goto (tgt := 6) hx hb dX12_leaves_357 (by decide) ?_
              refine lv_iload hx hb dX12_leaves_6 (lv_at hl 1 rfl) ?_
              refine lv_if_eq (tgt := 360) hx hb dX12_leaves_8 (by decide) (fun c60 => ?_) (fun c60 => absurd c60 (by decide))
              have hz61 : Nx Xs (updA (updA (updA (updA B 63 (upd (B 63) (op2 - 1) ((B 18) p2))) 70 (upd (B 70) wn2 2)) 71 (upd (B 71) wn2 x)) 72 (upd (B 72) wn2 (nI b9))) gh nd T nm wr lz dc fd md pr bk M rmm fu mu op2 (bf (op2 - 1)) (wn2 + 1) fu rd on idn fl ct ((-1) : Int32) ((B 14) p2) (1 : Int32) uc0 := (by rw [hg4]; exact hg6 _ (upd_eq.trans hg1) (fun i h => if_neg h))
              have hP : va_P G.1 pCl (mW G h0 a (upd (upd (upd (upd (upd (upd (upd (upd (upd F 102 (nI op2)) 111 (nI (bf (op2 - 1)))) 115 (nI (wn2 + 1))) 116 ((-1) : Int32)) 117 (nI fu)) 118 rs0) 119 uc0) 125 ((B 14) p2)) 126 (1 : Int32)) (updA (updA (updA (updA B 63 (upd (B 63) (op2 - 1) ((B 18) p2))) 70 (upd (B 70) wn2 2)) 71 (upd (B 71) wn2 x)) 72 (upd (B 72) wn2 (nI b9)))) _ := mW_to (F := F) (l1 := [(102, (nI op2)), (111, (nI (bf (op2 - 1)))), (115, (nI (wn2 + 1))), (116, (-1)), (117, (nI fu)), (118, rs0), (119, uc0), (125, ((B 14) p2)), (126, 1)]) (l2 := [(102, (nI op2)), (111, (nI (bf (op2 - 1)))), (115, (nI (wn2 + 1))), (116, ((-1) : Int32)), (117, (nI fu)), (118, rs0), (119, uc0), (125, ((B 14) p2)), (126, (1 : Int32))]) (V := [(nI op2), (nI (bf (op2 - 1))), (nI (wn2 + 1)), ((-1) : Int32), (nI fu), rs0, uc0, ((B 14) p2), (1 : Int32), (nI op2), (nI (bf (op2 - 1))), (nI (wn2 + 1)), ((-1) : Int32), (nI fu), rs0, uc0, ((B 14) p2), (1 : Int32)]) rfl rfl rfl hP
              have hD : va_D A (mW G h0 a (upd (upd (upd (upd (upd (upd (upd (upd (upd F 102 (nI op2)) 111 (nI (bf (op2 - 1)))) 115 (nI (wn2 + 1))) 116 ((-1) : Int32)) 117 (nI fu)) 118 rs0) 119 uc0) 125 ((B 14) p2)) 126 (1 : Int32)) (updA (updA (updA (updA B 63 (upd (B 63) (op2 - 1) ((B 18) p2))) 70 (upd (B 70) wn2 2)) 71 (upd (B 71) wn2 x)) 72 (upd (B 72) wn2 (nI b9)))) := mW_D hD
              exact W.vret hx hb hr (fun t9 ht9 hW9 => ⟨⟨_, (op2, (bf (op2 - 1)), (wn2 + 1), fu, ((-1) : Int32), ((B 14) p2), (1 : Int32), rs0, uc0, (updA (updA (updA (updA B 63 (upd (B 63) (op2 - 1) ((B 18) p2))) 70 (upd (B 70) wn2 2)) 71 (upd (B 71) wn2 x)) 72 (upd (B 72) wn2 (nI b9)))), rfl, ⟨rfl, hz61⟩, by rw [ht9]; exact hP, hD⟩, hS.F ht9⟩) hS.2.2 dX12_leaves_360
            · obtain ⟨hm1, hm2⟩ := hL2.mv2 hp4 hp3 ekp kp4 (fun _ h => c46 h.symm)
              refine lv_iconst (v := 1) hx hb dX12_leaves_208 (by decide) ?_
              refine lv_goto (tgt := 213) hx hb dX12_leaves_209 (by decide) ?_
              refine lv_istore (lv' := [(6, .int 1), (8, .int (-1)), (7, .int (nI p2)), (5, .int (nI c2)), (4, .int (nI b9)), (3, .int x), (2, .int 2), (1, .int (nI c9)), (0, .ref h0)]) hx hb dX12_leaves_213 hl (by decide) rfl (fun ls hl => ?_)
              refine lv_iload hx hb dX12_leaves_215 (lv_at hl 2 rfl) ?_
              refine lv_istore (lv' := [(5, .int (nI p2)), (6, .int 1), (8, .int (-1)), (7, .int (nI p2)), (4, .int (nI b9)), (3, .int x), (2, .int 2), (1, .int (nI c9)), (0, .ref h0)]) hx hb dX12_leaves_217 hl (by decide) rfl (fun ls hl => ?_)
              refine lv_iload hx hb dX12_leaves_219 (lv_at hl 2 rfl) ?_
              refine lv_iconst (v := (-1)) hx hb dX12_leaves_221 (by decide) ?_
              refine lv_icmp_eq (tgt := 293) hx hb dX12_leaves_222 (by decide) (fun c62 => ?_) (fun c62 => absurd c62 (by decide))
              refine lv_iload hx hb dX12_leaves_293 (lv_at hl 1 rfl) ?_
              refine lv_if_ne (tgt := 308) hx hb dX12_leaves_295 (by decide) (fun c63 => ?_) (fun c63 => absurd c63 (by decide))
              refine lv_goto (tgt := 357) hx hb dX12_leaves_308 (by decide) ?_
              refine lv_goto (tgt := 6) hx hb dX12_leaves_357 (by decide) ?_
              have hr64 := hm1.room
              have hP : va_P G.1 pCl (mW G h0 a (upd (upd (upd (upd (upd (upd (upd (upd (upd F 102 (nI op2)) 111 (nI (bf (op2 - 1)))) 115 (nI wn2)) 116 (-1)) 117 (nI fu)) 118 rs0) 119 uc0) 125 nw) 126 isn) B) _ := hP
              have hD : va_D A (mW G h0 a (upd (upd (upd (upd (upd (upd (upd (upd (upd F 102 (nI op2)) 111 (nI (bf (op2 - 1)))) 115 (nI wn2)) 116 (-1)) 117 (nI fu)) 118 rs0) 119 uc0) 125 nw) 126 isn) B) := mW_D hD
              exact ih_o (400 * (100 - op2) + gh 1 p2) op2 wn2 p2 (yyU yy2 (op2 - 1) u2) (nI (bf (op2 - 1))) _ _ _ (by omega) (by omega) hm1 ⟨rfl, hr64.2.2.2.2.2.2.2.1, hr64.1, hr64.2.1, hr64.2.2.1, hr64.2.2.2.2.1⟩ hv2 hP hD hS (lv_sub hl [1, 0, 4, 5, 6, 7, 8] rfl)
          · obtain ⟨hw1, hm1, hm2⟩ := hL2.mv3 hp4 hp3 ekp c46.symm
            refine lv_aload_n hx hb dX12_leaves_132 rfl (lv_at hl 7 rfl) ?_
            refine lv_dup hx hb dX12_leaves_133 rfl ?_
            refine r_get (v := .int (nI wn2)) hx hb hown hq hE hP 115 713 tFX12_115 (by decide) pw_1970 rfl dX12_leaves_134 ?_
            refine lv_iconst (v := 1) hx hb dX12_leaves_137 (by decide) ?_
            refine lv_isub hx hb dX12_leaves_138 ?_
            refine lv_topi (fun x65 e66 => ?_)
            obtain rfl : x65 = nI (wn2 - 1) := e66.trans (nI_subN (a := 1) (b := wn2) (by omega))
            refine r_put (v := (nI (wn2 - 1))) (ty := .int) hx hb hown hq hE hP hD hS 115 713 tFX12_115 (by decide) pw_1970 (by decide) rfl rfl (ms_115 a _ _) dX12_leaves_139 (fun H locs hP hD hS => ?_)
            refine lv_iload hx hb dX12_leaves_142 (lv_at hl 0 rfl) ?_
            refine lv_istore (lv' := [(5, .int (nI p2)), (7, .int (nI p2)), (6, .int 1), (4, .int (nI b9)), (3, .int x), (2, .int 2), (1, .int (nI c9)), (0, .ref h0)]) hx hb dX12_leaves_144 hl (by decide) rfl (fun ls hl => ?_)
            refine lv_goto (tgt := 357) hx hb dX12_leaves_146 (by decide) ?_
            refine lv_goto (tgt := 6) hx hb dX12_leaves_357 (by decide) ?_
            have hr67 := hm1.room
            have hP : va_P G.1 pCl (mW G h0 a (upd (upd (upd (upd (upd (upd (upd (upd (upd F 102 (nI op2)) 111 (nI (bf (op2 - 1)))) 115 (nI (wn2 - 1))) 116 (-1)) 117 (nI fu)) 118 rs0) 119 uc0) 125 nw) 126 isn) B) _ := hP
            have hD : va_D A (mW G h0 a (upd (upd (upd (upd (upd (upd (upd (upd (upd F 102 (nI op2)) 111 (nI (bf (op2 - 1)))) 115 (nI (wn2 - 1))) 116 (-1)) 117 (nI fu)) 118 rs0) 119 uc0) 125 nw) 126 isn) B) := mW_D hD
            exact ih_o (400 * (100 - op2) + gh 1 p2) op2 (wn2 - 1) p2 (yyU yy2 (op2 - 1) u2) (nI (bf (op2 - 1))) _ _ _ (by omega) (by omega) hm1 ⟨rfl, hr67.2.2.2.2.2.2.2.1, hr67.1, hr67.2.1, hr67.2.2.1, hr67.2.2.2.2.1⟩ hv2 hP hD hS (lv_sub hl [2, 0, 3, 4, 5, 6, 7] rfl)
        · refine lv_istore (lv' := [(7, .int (nI p2)), (6, .int 1), (5, .int (nI c2)), (4, .int (nI b9)), (3, .int x), (2, .int 2), (1, .int (nI c9)), (0, .ref h0)]) hx hb dX12_leaves_33 hl (by decide) rfl (fun ls hl => ?_)
          refine lv_iload hx hb dX12_leaves_35 (lv_at hl 0 rfl) ?_
          refine lv_iconst (v := (-1)) hx hb dX12_leaves_37 (by decide) ?_
          refine lv_icmp_ne (tgt := 59) hx hb dX12_leaves_38 (by decide) (fun c68 => ?_) (fun c68 => absurd c68 (nI_m1 (by omega)))
          refine lv_iload hx hb dX12_leaves_59 (lv_at hl 0 rfl) ?_
          refine lv_iconst (v := (-1)) hx hb dX12_leaves_61 (by decide) ?_
          refine lv_icmp_ne (tgt := 108) hx hb dX12_leaves_62 (by decide) (fun c69 => ?_) (fun c69 => absurd c69 (nI_m1 (by omega)))
          refine lv_aload_n hx hb dX12_leaves_108 rfl (lv_at hl 7 rfl) ?_
          refine r_get (v := .ref (a 9)) hx hb hown hq hE hP 17 38 tFX12_17 (by decide) pw_1439 rfl dX12_leaves_109 ?_
          refine lv_iload hx hb dX12_leaves_112 (lv_at hl 0 rfl) ?_
          refine r_ldi (f := (B 9)) (j := p2) hx hb hE hP 9 (ma_9 G a _) rfl (by omega) (by decide) dX12_leaves_114 ?_
          refine lv_topi (fun x70 e71 => ?_)
          obtain rfl : x70 = 35 := e71.trans ((congrFun hw9 _).trans ekp)
          refine lv_bipush (v := 41) hx hb dX12_leaves_115 (by decide) ?_
          refine lv_icmp_ne (tgt := 149) hx hb dX12_leaves_117 (by decide) (fun c72 => ?_) (fun c72 => absurd c72 (by decide))
          refine lv_aload_n hx hb dX12_leaves_149 rfl (lv_at hl 7 rfl) ?_
          refine r_get (v := .ref (a 9)) hx hb hown hq hE hP 17 38 tFX12_17 (by decide) pw_1439 rfl dX12_leaves_150 ?_
          refine lv_iload hx hb dX12_leaves_153 (lv_at hl 0 rfl) ?_
          refine r_ldi (f := (B 9)) (j := p2) hx hb hE hP 9 (ma_9 G a _) rfl (by omega) (by decide) dX12_leaves_155 ?_
          refine lv_topi (fun x73 e74 => ?_)
          obtain rfl : x73 = 35 := e74.trans ((congrFun hw9 _).trans ekp)
          refine lv_bipush (v := 41) hx hb dX12_leaves_156 (by decide) ?_
          refine lv_icmp_ne (tgt := 311) hx hb dX12_leaves_158 (by decide) (fun c75 => ?_) (fun c75 => absurd c75 (by decide))
          refine lv_aload_n hx hb dX12_leaves_311 rfl (lv_at hl 7 rfl) ?_
          refine r_get (v := .ref (a 9)) hx hb hown hq hE hP 17 38 tFX12_17 (by decide) pw_1439 rfl dX12_leaves_312 ?_
          refine lv_iload hx hb dX12_leaves_315 (lv_at hl 0 rfl) ?_
          refine r_ldi (f := (B 9)) (j := p2) hx hb hE hP 9 (ma_9 G a _) rfl (by omega) (by decide) dX12_leaves_317 ?_
          refine lv_topi (fun x76 e77 => ?_)
          obtain rfl : x76 = 35 := e77.trans ((congrFun hw9 _).trans ekp)
          refine lv_bipush (v := 35) hx hb dX12_leaves_318 (by decide) ?_
          refine lv_icmp_eq (tgt := 335) hx hb dX12_leaves_320 (by decide) (fun c78 => ?_) (fun c78 => absurd c78 (by decide))
          refine lv_iload_n hx hb dX12_leaves_335 rfl (lv_at hl 5 rfl) ?_
          refine lv_iconst (v := 3) hx hb dX12_leaves_336 (by decide) ?_
          refine lv_icmp_lt (tgt := 353) hx hb dX12_leaves_337 (by decide) (fun c79 => ?_) (fun c79 => absurd c79 (by decide))
          obtain ⟨hm1, hm2⟩ := hL2.mv2 hp4 hp3 ekp kp4 (fun h => absurd h (by omega))
          refine lv_iload hx hb dX12_leaves_353 (lv_at hl 0 rfl) ?_
          refine lv_istore (lv' := [(5, .int (nI p2)), (7, .int (nI p2)), (6, .int 1), (4, .int (nI b9)), (3, .int x), (2, .int 2), (1, .int (nI c9)), (0, .ref h0)]) hx hb dX12_leaves_355 hl (by decide) rfl (fun ls hl => ?_)
          refine lv_goto (tgt := 6) hx hb dX12_leaves_357 (by decide) ?_
          have hr80 := hm1.room
          have hP : va_P G.1 pCl (mW G h0 a (upd (upd (upd (upd (upd (upd (upd (upd (upd F 102 (nI op2)) 111 (nI (bf (op2 - 1)))) 115 (nI wn2)) 116 (-1)) 117 (nI fu)) 118 rs0) 119 uc0) 125 nw) 126 isn) B) _ := hP
          have hD : va_D A (mW G h0 a (upd (upd (upd (upd (upd (upd (upd (upd (upd F 102 (nI op2)) 111 (nI (bf (op2 - 1)))) 115 (nI wn2)) 116 (-1)) 117 (nI fu)) 118 rs0) 119 uc0) 125 nw) 126 isn) B) := mW_D hD
          exact ih_o (400 * (100 - op2) + gh 1 p2) op2 wn2 p2 (yyU yy2 (op2 - 1) u2) (nI (bf (op2 - 1))) _ _ _ (by omega) (by omega) hm1 ⟨rfl, hr80.2.2.2.2.2.2.2.1, hr80.1, hr80.2.1, hr80.2.2.1, hr80.2.2.2.2.1⟩ hv2 hP hD hS (lv_sub hl [2, 0, 3, 4, 5, 6, 7] rfl)
        · refine lv_istore (lv' := [(7, .int (nI p2)), (6, .int 1), (5, .int (nI c2)), (4, .int (nI b9)), (3, .int x), (2, .int 2), (1, .int (nI c9)), (0, .ref h0)]) hx hb dX12_leaves_33 hl (by decide) rfl (fun ls hl => ?_)
          refine lv_iload hx hb dX12_leaves_35 (lv_at hl 0 rfl) ?_
          refine lv_iconst (v := (-1)) hx hb dX12_leaves_37 (by decide) ?_
          refine lv_icmp_ne (tgt := 59) hx hb dX12_leaves_38 (by decide) (fun c81 => ?_) (fun c81 => absurd c81 (nI_m1 (by omega)))
          refine lv_iload hx hb dX12_leaves_59 (lv_at hl 0 rfl) ?_
          refine lv_iconst (v := (-1)) hx hb dX12_leaves_61 (by decide) ?_
          refine lv_icmp_ne (tgt := 108) hx hb dX12_leaves_62 (by decide) (fun c82 => ?_) (fun c82 => absurd c82 (nI_m1 (by omega)))
          refine lv_aload_n hx hb dX12_leaves_108 rfl (lv_at hl 7 rfl) ?_
          refine r_get (v := .ref (a 9)) hx hb hown hq hE hP 17 38 tFX12_17 (by decide) pw_1439 rfl dX12_leaves_109 ?_
          refine lv_iload hx hb dX12_leaves_112 (lv_at hl 0 rfl) ?_
          refine r_ldi (f := (B 9)) (j := p2) hx hb hE hP 9 (ma_9 G a _) rfl (by omega) (by decide) dX12_leaves_114 ?_
          refine lv_topi (fun x83 e84 => ?_)
          obtain rfl : x83 = 36 := e84.trans ((congrFun hw9 _).trans ekp)
          refine lv_bipush (v := 41) hx hb dX12_leaves_115 (by decide) ?_
          refine lv_icmp_ne (tgt := 149) hx hb dX12_leaves_117 (by decide) (fun c85 => ?_) (fun c85 => absurd c85 (by decide))
          refine lv_aload_n hx hb dX12_leaves_149 rfl (lv_at hl 7 rfl) ?_
          refine r_get (v := .ref (a 9)) hx hb hown hq hE hP 17 38 tFX12_17 (by decide) pw_1439 rfl dX12_leaves_150 ?_
          refine lv_iload hx hb dX12_leaves_153 (lv_at hl 0 rfl) ?_
          refine r_ldi (f := (B 9)) (j := p2) hx hb hE hP 9 (ma_9 G a _) rfl (by omega) (by decide) dX12_leaves_155 ?_
          refine lv_topi (fun x86 e87 => ?_)
          obtain rfl : x86 = 36 := e87.trans ((congrFun hw9 _).trans ekp)
          refine lv_bipush (v := 41) hx hb dX12_leaves_156 (by decide) ?_
          refine lv_icmp_ne (tgt := 311) hx hb dX12_leaves_158 (by decide) (fun c88 => ?_) (fun c88 => absurd c88 (by decide))
          refine lv_aload_n hx hb dX12_leaves_311 rfl (lv_at hl 7 rfl) ?_
          refine r_get (v := .ref (a 9)) hx hb hown hq hE hP 17 38 tFX12_17 (by decide) pw_1439 rfl dX12_leaves_312 ?_
          refine lv_iload hx hb dX12_leaves_315 (lv_at hl 0 rfl) ?_
          refine r_ldi (f := (B 9)) (j := p2) hx hb hE hP 9 (ma_9 G a _) rfl (by omega) (by decide) dX12_leaves_317 ?_
          refine lv_topi (fun x89 e90 => ?_)
          obtain rfl : x89 = 36 := e90.trans ((congrFun hw9 _).trans ekp)
          refine lv_bipush (v := 35) hx hb dX12_leaves_318 (by decide) ?_
          refine lv_icmp_eq (tgt := 335) hx hb dX12_leaves_320 (by decide) (fun c91 => absurd c91 (by decide)) (fun c91 => ?_)
          refine lv_aload_n hx hb dX12_leaves_323 rfl (lv_at hl 7 rfl) ?_
          refine r_get (v := .ref (a 9)) hx hb hown hq hE hP 17 38 tFX12_17 (by decide) pw_1439 rfl dX12_leaves_324 ?_
          refine lv_iload hx hb dX12_leaves_327 (lv_at hl 0 rfl) ?_
          refine r_ldi (f := (B 9)) (j := p2) hx hb hE hP 9 (ma_9 G a _) rfl (by omega) (by decide) dX12_leaves_329 ?_
          refine lv_topi (fun x92 e93 => ?_)
          obtain rfl : x92 = 36 := e93.trans ((congrFun hw9 _).trans ekp)
          refine lv_bipush (v := 36) hx hb dX12_leaves_330 (by decide) ?_
          refine lv_icmp_ne (tgt := 353) hx hb dX12_leaves_332 (by decide) (fun c94 => absurd c94 (by decide)) (fun c94 => ?_)
          refine lv_iload_n hx hb dX12_leaves_335 rfl (lv_at hl 5 rfl) ?_
          refine lv_iconst (v := 3) hx hb dX12_leaves_336 (by decide) ?_
          refine lv_icmp_lt (tgt := 353) hx hb dX12_leaves_337 (by decide) (fun c95 => ?_) (fun c95 => absurd c95 (by decide))
          obtain ⟨hm1, hm2⟩ := hL2.mv2 hp4 hp3 ekp kp4 (fun h => absurd h (by omega))
          refine lv_iload hx hb dX12_leaves_353 (lv_at hl 0 rfl) ?_
          refine lv_istore (lv' := [(5, .int (nI p2)), (7, .int (nI p2)), (6, .int 1), (4, .int (nI b9)), (3, .int x), (2, .int 2), (1, .int (nI c9)), (0, .ref h0)]) hx hb dX12_leaves_355 hl (by decide) rfl (fun ls hl => ?_)
          refine lv_goto (tgt := 6) hx hb dX12_leaves_357 (by decide) ?_
          have hr96 := hm1.room
          have hP : va_P G.1 pCl (mW G h0 a (upd (upd (upd (upd (upd (upd (upd (upd (upd F 102 (nI op2)) 111 (nI (bf (op2 - 1)))) 115 (nI wn2)) 116 (-1)) 117 (nI fu)) 118 rs0) 119 uc0) 125 nw) 126 isn) B) _ := hP
          have hD : va_D A (mW G h0 a (upd (upd (upd (upd (upd (upd (upd (upd (upd F 102 (nI op2)) 111 (nI (bf (op2 - 1)))) 115 (nI wn2)) 116 (-1)) 117 (nI fu)) 118 rs0) 119 uc0) 125 nw) 126 isn) B) := mW_D hD
          exact ih_o (400 * (100 - op2) + gh 1 p2) op2 wn2 p2 (yyU yy2 (op2 - 1) u2) (nI (bf (op2 - 1))) _ _ _ (by omega) (by omega) hm1 ⟨rfl, hr96.2.2.2.2.2.2.2.1, hr96.1, hr96.2.1, hr96.2.2.1, hr96.2.2.2.2.1⟩ hv2 hP hD hS (lv_sub hl [2, 0, 3, 4, 5, 6, 7] rfl)
        · refine lv_istore (lv' := [(7, .int (nI p2)), (6, .int 1), (5, .int (nI c2)), (4, .int (nI b9)), (3, .int x), (2, .int 2), (1, .int (nI c9)), (0, .ref h0)]) hx hb dX12_leaves_33 hl (by decide) rfl (fun ls hl => ?_)
          refine lv_iload hx hb dX12_leaves_35 (lv_at hl 0 rfl) ?_
          refine lv_iconst (v := (-1)) hx hb dX12_leaves_37 (by decide) ?_
          refine lv_icmp_ne (tgt := 59) hx hb dX12_leaves_38 (by decide) (fun c97 => ?_) (fun c97 => absurd c97 (nI_m1 (by omega)))
          refine lv_iload hx hb dX12_leaves_59 (lv_at hl 0 rfl) ?_
          refine lv_iconst (v := (-1)) hx hb dX12_leaves_61 (by decide) ?_
          refine lv_icmp_ne (tgt := 108) hx hb dX12_leaves_62 (by decide) (fun c98 => ?_) (fun c98 => absurd c98 (nI_m1 (by omega)))
          refine lv_aload_n hx hb dX12_leaves_108 rfl (lv_at hl 7 rfl) ?_
          refine r_get (v := .ref (a 9)) hx hb hown hq hE hP 17 38 tFX12_17 (by decide) pw_1439 rfl dX12_leaves_109 ?_
          refine lv_iload hx hb dX12_leaves_112 (lv_at hl 0 rfl) ?_
          refine r_ldi (f := (B 9)) (j := p2) hx hb hE hP 9 (ma_9 G a _) rfl (by omega) (by decide) dX12_leaves_114 ?_
          refine lv_topi (fun x99 e100 => ?_)
          obtain rfl : x99 = nI kp := e100.trans ((congrFun hw9 _).trans ekp)
          refine lv_bipush (v := 41) hx hb dX12_leaves_115 (by decide) ?_
          refine lv_icmp_ne (tgt := 149) hx hb dX12_leaves_117 (by decide) (fun c101 => ?_) (fun c101 => (by have n102 : kp = 41 := (nI_eq (a := kp) (b := 41) (by omega) (by omega)).mp c101; omega))
          refine lv_aload_n hx hb dX12_leaves_149 rfl (lv_at hl 7 rfl) ?_
          refine r_get (v := .ref (a 9)) hx hb hown hq hE hP 17 38 tFX12_17 (by decide) pw_1439 rfl dX12_leaves_150 ?_
          refine lv_iload hx hb dX12_leaves_153 (lv_at hl 0 rfl) ?_
          refine r_ldi (f := (B 9)) (j := p2) hx hb hE hP 9 (ma_9 G a _) rfl (by omega) (by decide) dX12_leaves_155 ?_
          refine lv_topi (fun x103 e104 => ?_)
          obtain rfl : x103 = nI kp := e104.trans ((congrFun hw9 _).trans ekp)
          refine lv_bipush (v := 41) hx hb dX12_leaves_156 (by decide) ?_
          refine lv_icmp_ne (tgt := 311) hx hb dX12_leaves_158 (by decide) (fun c105 => ?_) (fun c105 => (by have n106 : kp = 41 := (nI_eq (a := kp) (b := 41) (by omega) (by omega)).mp c105; omega))
          refine lv_aload_n hx hb dX12_leaves_311 rfl (lv_at hl 7 rfl) ?_
          refine r_get (v := .ref (a 9)) hx hb hown hq hE hP 17 38 tFX12_17 (by decide) pw_1439 rfl dX12_leaves_312 ?_
          refine lv_iload hx hb dX12_leaves_315 (lv_at hl 0 rfl) ?_
          refine r_ldi (f := (B 9)) (j := p2) hx hb hE hP 9 (ma_9 G a _) rfl (by omega) (by decide) dX12_leaves_317 ?_
          refine lv_topi (fun x107 e108 => ?_)
          obtain rfl : x107 = nI kp := e108.trans ((congrFun hw9 _).trans ekp)
          refine lv_bipush (v := 35) hx hb dX12_leaves_318 (by decide) ?_
          refine lv_icmp_eq (tgt := 335) hx hb dX12_leaves_320 (by decide) (fun c109 => (by have n110 : kp = 35 := (nI_eq (a := kp) (b := 35) (by omega) (by omega)).mp c109; omega)) (fun c109 => ?_)
          refine lv_aload_n hx hb dX12_leaves_323 rfl (lv_at hl 7 rfl) ?_
          refine r_get (v := .ref (a 9)) hx hb hown hq hE hP 17 38 tFX12_17 (by decide) pw_1439 rfl dX12_leaves_324 ?_
          refine lv_iload hx hb dX12_leaves_327 (lv_at hl 0 rfl) ?_
          refine r_ldi (f := (B 9)) (j := p2) hx hb hE hP 9 (ma_9 G a _) rfl (by omega) (by decide) dX12_leaves_329 ?_
          refine lv_topi (fun x111 e112 => ?_)
          obtain rfl : x111 = nI kp := e112.trans ((congrFun hw9 _).trans ekp)
          refine lv_bipush (v := 36) hx hb dX12_leaves_330 (by decide) ?_
          refine lv_icmp_ne (tgt := 353) hx hb dX12_leaves_332 (by decide) (fun c113 => ?_) (fun c113 => (by have n114 : kp = 36 := (nI_eq (a := kp) (b := 36) (by omega) (by omega)).mp c113; omega))
          obtain ⟨hm1, hm2⟩ := hL2.mv2 hp4 hp3 ekp kp4 (fun h => absurd h (by omega))
          refine lv_iload hx hb dX12_leaves_353 (lv_at hl 0 rfl) ?_
          refine lv_istore (lv' := [(5, .int (nI p2)), (7, .int (nI p2)), (6, .int 1), (4, .int (nI b9)), (3, .int x), (2, .int 2), (1, .int (nI c9)), (0, .ref h0)]) hx hb dX12_leaves_355 hl (by decide) rfl (fun ls hl => ?_)
          refine lv_goto (tgt := 6) hx hb dX12_leaves_357 (by decide) ?_
          have hr115 := hm1.room
          have hP : va_P G.1 pCl (mW G h0 a (upd (upd (upd (upd (upd (upd (upd (upd (upd F 102 (nI op2)) 111 (nI (bf (op2 - 1)))) 115 (nI wn2)) 116 (-1)) 117 (nI fu)) 118 rs0) 119 uc0) 125 nw) 126 isn) B) _ := hP
          have hD : va_D A (mW G h0 a (upd (upd (upd (upd (upd (upd (upd (upd (upd F 102 (nI op2)) 111 (nI (bf (op2 - 1)))) 115 (nI wn2)) 116 (-1)) 117 (nI fu)) 118 rs0) 119 uc0) 125 nw) 126 isn) B) := mW_D hD
          exact ih_o (400 * (100 - op2) + gh 1 p2) op2 wn2 p2 (yyU yy2 (op2 - 1) u2) (nI (bf (op2 - 1))) _ _ _ (by omega) (by omega) hm1 ⟨rfl, hr115.2.2.2.2.2.2.2.1, hr115.1, hr115.2.1, hr115.2.2.1, hr115.2.2.2.2.1⟩ hv2 hP hD hS (lv_sub hl [2, 0, 3, 4, 5, 6, 7] rfl)
  have hP : va_P G.1 pCl (mW G h0 a (upd (upd (upd (upd (upd (upd (upd (upd (upd F 102 (nI op)) 111 tx) 115 (nI wn)) 116 (-1)) 117 (nI fu)) 118 rs0) 119 uc0) 125 nw) 126 isn) B) _ := hP
  have hD : va_D A (mW G h0 a (upd (upd (upd (upd (upd (upd (upd (upd (upd F 102 (nI op)) 111 tx) 115 (nI wn)) 116 (-1)) 117 (nI fu)) 118 rs0) 119 uc0) 125 nw) 126 isn) B) := mW_D hD
  exact loop_o (40400 + 1) (400 * (100 - op) + gh 1 c9) op wn c9 yy tx _ _ _ (by have z := hL.room; omega) (by omega) hL (by have z := hL.room; exact ⟨rfl, z.2.2.2.2.2.2.2.1, z.1, z.2.1, z.2.2.1, z.2.2.2.2.1⟩) hv9 hP hD hS (lv_sub hl [0, 1, 6, 5, 4, 3, 2] rfl)

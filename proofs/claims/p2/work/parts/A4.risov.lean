theorem dX12_isOver_0 : decode cX12_isOver 0 = .ok (.aload_n 0, 1) := by decide +kernel
theorem dX12_isOver_1 : decode cX12_isOver 1 = .ok (.getfield 168, 3) := by decide +kernel
theorem dX12_isOver_4 : decode cX12_isOver 4 = .ok (.iload_n 1, 1) := by decide +kernel
theorem dX12_isOver_5 : decode cX12_isOver 5 = .ok (.iaload, 1) := by decide +kernel
theorem dX12_isOver_6 : decode cX12_isOver 6 = .ok (.istore_n 2, 1) := by decide +kernel
theorem dX12_isOver_7 : decode cX12_isOver 7 = .ok (.iload_n 2, 1) := by decide +kernel
theorem dX12_isOver_8 : decode cX12_isOver 8 = .ok (.iconst (-1), 1) := by decide +kernel
theorem dX12_isOver_9 : decode cX12_isOver 9 = .ok (.if_icmp .ne 10, 3) := by decide +kernel
theorem dX12_isOver_12 : decode cX12_isOver 12 = .ok (.aload_n 0, 1) := by decide +kernel
theorem dX12_isOver_13 : decode cX12_isOver 13 = .ok (.iconst 0, 1) := by decide +kernel
theorem dX12_isOver_14 : decode cX12_isOver 14 = .ok (.iconst 0, 1) := by decide +kernel
theorem dX12_isOver_15 : decode cX12_isOver 15 = .ok (.invokevirtual 819, 3) := by decide +kernel
theorem dX12_isOver_18 : decode cX12_isOver 18 = .ok (.return_, 1) := by decide +kernel
theorem dX12_isOver_19 : decode cX12_isOver 19 = .ok (.aload_n 0, 1) := by decide +kernel
theorem dX12_isOver_20 : decode cX12_isOver 20 = .ok (.getfield 38, 3) := by decide +kernel
theorem dX12_isOver_23 : decode cX12_isOver 23 = .ok (.iload_n 2, 1) := by decide +kernel
theorem dX12_isOver_24 : decode cX12_isOver 24 = .ok (.iaload, 1) := by decide +kernel
theorem dX12_isOver_25 : decode cX12_isOver 25 = .ok (.bipush 30, 2) := by decide +kernel
theorem dX12_isOver_27 : decode cX12_isOver 27 = .ok (.if_icmp .ge 12, 3) := by decide +kernel
theorem dX12_isOver_39 : decode cX12_isOver 39 = .ok (.aload_n 0, 1) := by decide +kernel
theorem dX12_isOver_40 : decode cX12_isOver 40 = .ok (.iload_n 2, 1) := by decide +kernel
theorem dX12_isOver_41 : decode cX12_isOver 41 = .ok (.iload_n 1, 1) := by decide +kernel
theorem dX12_isOver_42 : decode cX12_isOver 42 = .ok (.invokevirtual 825, 3) := by decide +kernel
theorem dX12_isOver_45 : decode cX12_isOver 45 = .ok (.return_, 1) := by decide +kernel
theorem dX12_isOver_30 : decode cX12_isOver 30 = .ok (.aload_n 0, 1) := by decide +kernel
theorem dX12_isOver_31 : decode cX12_isOver 31 = .ok (.iload_n 2, 1) := by decide +kernel
theorem dX12_isOver_32 : decode cX12_isOver 32 = .ok (.iload_n 1, 1) := by decide +kernel
theorem dX12_isOver_33 : decode cX12_isOver 33 = .ok (.invokevirtual 822, 3) := by decide +kernel
theorem dX12_isOver_36 : decode cX12_isOver 36 = .ok (.goto 9, 3) := by decide +kernel
theorem hV_X12_goesOnIn : yX12_goesOnIn.cls = RX12 ∧ yX12_goesOnIn.cls ≠ "java/lang/invoke/MethodHandle" ∧ yX12_goesOnIn.cls ≠ "java/lang/invoke/VarHandle" ∧ (parseMethodDescriptor yX12_goesOnIn.desc).map (fun d => d.parameters.length) = some 2 := by decide +kernel
theorem hV_X12_goesOn : yX12_goesOn.cls = RX12 ∧ yX12_goesOn.cls ≠ "java/lang/invoke/MethodHandle" ∧ yX12_goesOn.cls ≠ "java/lang/invoke/VarHandle" ∧ (parseMethodDescriptor yX12_goesOn.desc).map (fun d => d.parameters.length) = some 2 := by decide +kernel
set_option maxHeartbeats 20000000 in
set_option maxRecDepth 100000 in
/-- isOver(n) -/
theorem R_isOver (l : Launch) (G : pT) (h0 : Nat) (a : Nat → Nat) (F : Nat → Int32) (B : Nat → Nat → Int32) (Xs : Nat → Nat → Int32) (gh : Nat → Nat → Nat) (nd : Nat) (T : Nat) (nm : Nat) (wr : Nat) (lz : Nat) (dc : Nat) (fd : Nat) (md : Nat) (pr : Nat) (bk : Nat) (M : MTb) (rmm : Nat) (op : Nat) (tp : Nat) (wn : Nat) (fu : Nat) (rd : Nat) (on : Nat) (idn : Nat) (fl : Nat) (ct : Nat) (n9 : Nat) (ou : Nat) (mt : Nat → Nat) (ps : Nat → Nat) (yy : Nat → Ps) (bf : Nat → Nat) (wf : Nat → Nat) (nw : Int32) (isn : Int32) (rs0 : Int32) (uc0 : Int32) (tds : Int32) (ma0 : Int32) (mc0 : Int32) (ca : Int32) (mo : Int32) (hR : Rn Xs B gh nd T nm wr lz dc fd md pr bk M rmm op tp wn fu rd on idn fl ct n9 true mt ps yy bf wf) (hfu : fu ≤ 20000) (hou : ou ≤ 400) : PM l G pX0 yX12_isOver cX12_isOver 3 none ({ frames := 8, cells := 0, slots := 0, locals := 206 }) [.ref h0, .int (nI n9)] (mW G h0 a (upd (upd (upd (upd (upd (upd (upd (upd (upd (upd (upd (upd (upd (upd (upd (upd (upd (upd (upd (upd (upd F 49 (nI md)) 87 (nI ou)) 97 (nI ct)) 98 (nI fl)) 99 (nI rmm)) 101 tds) 102 (nI op)) 111 (nI tp)) 115 (nI wn)) 116 (-1)) 117 (nI fu)) 118 rs0) 119 uc0) 121 ma0) 122 mc0) 123 ca) 124 mo) 125 nw) 126 isn) 128 (nI on)) 130 (nI idn)) B) (fun (v : Option Value) (u : Nat × Nat × Nat × Nat × Int32 × Int32 × Int32 × Int32 × Int32 × Nat × Nat × Nat × Nat × Int32 × Int32 × Int32 × Int32 × Int32 × Nat × (Nat → Nat → Int32)) => v = none ∧ (Nx Xs u.2.2.2.2.2.2.2.2.2.2.2.2.2.2.2.2.2.2.2 gh nd T nm wr lz dc fd md pr bk M rmm fu (Phi gh ps op (rkN gh n9 true)) u.1 u.2.1 u.2.2.1 u.2.2.2.1 rd u.2.2.2.2.2.2.2.2.2.1 u.2.2.2.2.2.2.2.2.2.2.1 u.2.2.2.2.2.2.2.2.2.2.2.1 u.2.2.2.2.2.2.2.2.2.2.2.2.1 u.2.2.2.2.1 u.2.2.2.2.2.1 u.2.2.2.2.2.2.1 u.2.2.2.2.2.2.2.2.1) ∧ (u.2.2.2.2.2.2.2.2.2.2.2.2.2.2.2.2.2.2.1 ≤ 400)) (fun u => (mW G h0 a (upd (upd (upd (upd (upd (upd (upd (upd (upd (upd (upd (upd (upd (upd (upd (upd (upd (upd (upd (upd (upd F 49 (nI md)) 87 (nI u.2.2.2.2.2.2.2.2.2.2.2.2.2.2.2.2.2.2.1)) 97 (nI u.2.2.2.2.2.2.2.2.2.2.2.2.1)) 98 (nI u.2.2.2.2.2.2.2.2.2.2.2.1)) 99 (nI rmm)) 101 u.2.2.2.2.2.2.2.2.2.2.2.2.2.1) 102 (nI u.1)) 111 (nI u.2.1)) 115 (nI u.2.2.1)) 116 u.2.2.2.2.1) 117 (nI u.2.2.2.1)) 118 u.2.2.2.2.2.2.2.1) 119 u.2.2.2.2.2.2.2.2.1) 121 u.2.2.2.2.2.2.2.2.2.2.2.2.2.2.1) 122 u.2.2.2.2.2.2.2.2.2.2.2.2.2.2.2.1) 123 u.2.2.2.2.2.2.2.2.2.2.2.2.2.2.2.2.1) 124 u.2.2.2.2.2.2.2.2.2.2.2.2.2.2.2.2.2.1) 125 u.2.2.2.2.2.1) 126 u.2.2.2.2.2.2.1) 128 (nI u.2.2.2.2.2.2.2.2.2.1)) 130 (nI u.2.2.2.2.2.2.2.2.2.2.1)) u.2.2.2.2.2.2.2.2.2.2.2.2.2.2.2.2.2.2.2)) := by
  intro sz
  refine Met.ofW (cc := cX12_isOver) (maxL := 3) (ret := none) (by decide) rfl ?_
  intro p e s m args below meth c s₁ B9 hml hv
  obtain ⟨rfl, hsz, hP, hD0, hE, hX⟩ := hv
  have hx := B9.exec
  have hb := B9.bytes
  have hr := B9.returns
  have hts := atoms_spec (ws := Cond.code yX12_isOver cX12_isOver 3 none :: pw) B9.pre
  have hq : ∀ w ∈ pw, w.before _ s = true := fun w h => hts w (List.mem_cons_of_mem _ h)
  have hown : s.vm.findClass RX12 = some m.cls := findClass_of_methodNamed B9.named
  have hlocks := B9.notSynchronized
  subst hsz
  have hD := hD0.self (sz := s.heap.size)
  have hA : ∀ q : Nat, s.heap.size ≤ q → va_A (mW G h0 a (upd (upd (upd (upd (upd (upd (upd (upd (upd (upd (upd (upd (upd (upd (upd (upd (upd (upd (upd (upd (upd F 49 (nI md)) 87 (nI ou)) 97 (nI ct)) 98 (nI fl)) 99 (nI rmm)) 101 tds) 102 (nI op)) 111 (nI tp)) 115 (nI wn)) 116 (-1)) 117 (nI fu)) 118 rs0) 119 uc0) 121 ma0) 122 mc0) 123 ca) 124 mo) 125 nw) 126 isn) 128 (nI on)) 130 (nI idn)) B) s.heap.size q := fun q h => Or.inr h
  have hP : va_P G.1 pCl (mW G h0 a (upd (upd (upd (upd (upd (upd (upd (upd (upd (upd (upd (upd (upd (upd (upd (upd (upd (upd (upd (upd (upd F 49 (nI md)) 87 (nI ou)) 97 (nI ct)) 98 (nI fl)) 99 (nI rmm)) 101 tds) 102 (nI op)) 111 (nI tp)) 115 (nI wn)) 116 (-1)) 117 (nI fu)) 118 rs0) 119 uc0) 121 ma0) 122 mc0) 123 ca) 124 mo) 125 nw) 126 isn) 128 (nI on)) 130 (nI idn)) B) s.heap := hP
  generalize va_A (mW G h0 a (upd (upd (upd (upd (upd (upd (upd (upd (upd (upd (upd (upd (upd (upd (upd (upd (upd (upd (upd (upd (upd F 49 (nI md)) 87 (nI ou)) 97 (nI ct)) 98 (nI fl)) 99 (nI rmm)) 101 tds) 102 (nI op)) 111 (nI tp)) 115 (nI wn)) 116 (-1)) 117 (nI fu)) 118 rs0) 119 uc0) 121 ma0) 122 mc0) 123 ca) 124 mo) 125 nw) 126 isn) 128 (nI on)) 130 (nI idn)) B) s.heap.size = A at hD hE hA ⊢
  have hS : va_S A s.heap s.heap [] := va_S.rf
  have hl := lv_entry ([.ref h0, .int (nI n9)]) (n := 3) (Nat.le_of_ble_eq_true rfl)
  rw [lg_entry_eq]
  generalize (lg_sl ([.ref h0, .int (nI n9)]) ++ List.replicate (3 - (lg_sl ([.ref h0, .int (nI n9)])).length) Slot.unset).toArray = ls at hl ⊢
  have hl : lv_has ls 3 [(0, .ref h0), (1, .int (nI n9))] := hl
  have hPg := hR.pg
  have hbd := hPg.bd
  have hrm := hR.room
  have hlr := hR.ln.room
  have hw9 : B 9 = Xs 9 := hPg.row 9 (by omega) (by omega) (by omega) (by omega) (by omega)
  refine lv_aload_n hx hb dX12_isOver_0 rfl (lv_at hl 0 rfl) ?_
  refine r_get (v := .ref (a 52)) hx hb hown hq hE hP 88 168 tFX12_88 (by decide) pw_1483 rfl dX12_isOver_1 ?_
  refine lv_iload_n hx hb dX12_isOver_4 rfl (lv_at hl 1 rfl) ?_
  refine r_ldi (f := (B 52)) (j := n9) hx hb hE hP 52 (ma_52 G a _) rfl (by omega) (by decide) dX12_isOver_5 ?_
  rcases hR.up with ⟨hu1, hu3⟩ | ⟨p2, u2, hp1, hp2, hp3, hp4⟩
  · refine lv_topi (fun x1 e2 => ?_)
    obtain rfl : x1 = (-1) := e2.trans hu1
    refine lv_istore_n (lv' := [(2, .int (-1)), (0, .ref h0), (1, .int (nI n9))]) hx hb dX12_isOver_6 rfl hl (by decide) rfl (fun ls hl => ?_)
    refine lv_iload_n hx hb dX12_isOver_7 rfl (lv_at hl 0 rfl) ?_
    refine lv_iconst (v := (-1)) hx hb dX12_isOver_8 (by decide) ?_
    refine lv_icmp_ne (tgt := 19) hx hb dX12_isOver_9 (by decide) (fun c3 => absurd c3 (by decide)) (fun c3 => ?_)
    refine lv_aload_n hx hb dX12_isOver_12 rfl (lv_at hl 1 rfl) ?_
    refine lv_iconst (v := 0) hx hb dX12_isOver_13 (by decide) ?_
    refine lv_iconst (v := 0) hx hb dX12_isOver_14 (by decide) ?_
    rcases hR.ln.pop hu3 with ⟨ho1, hn1⟩ | ⟨ho2, hn2, hn3, hn4, hn5⟩
    · have hP : va_P G.1 pCl (mW G h0 a (upd (upd (upd (upd (upd (upd (upd (upd (upd (upd (upd (upd (upd (upd (upd (upd (upd (upd (upd (upd (upd (upd (upd (upd (upd (upd F 49 (nI md)) 87 (nI ou)) 97 (nI ct)) 98 (nI fl)) 99 (nI rmm)) 101 tds) 102 (nI op)) 111 (nI tp)) 115 (nI wn)) 116 (-1)) 117 (nI fu)) 118 rs0) 119 uc0) 121 ma0) 122 mc0) 123 ca) 124 mo) 125 nw) 126 isn) 128 (nI on)) 130 (nI idn)) 102 (nI op)) 116 (-1)) 118 rs0) 125 nw) 126 isn) (updA (updA B 68 (B 68)) 69 (B 69))) _ := hP
      have hD : va_D A (mW G h0 a (upd (upd (upd (upd (upd (upd (upd (upd (upd (upd (upd (upd (upd (upd (upd (upd (upd (upd (upd (upd (upd (upd (upd (upd (upd (upd F 49 (nI md)) 87 (nI ou)) 97 (nI ct)) 98 (nI fl)) 99 (nI rmm)) 101 tds) 102 (nI op)) 111 (nI tp)) 115 (nI wn)) 116 (-1)) 117 (nI fu)) 118 rs0) 119 uc0) 121 ma0) 122 mc0) 123 ca) 124 mo) 125 nw) 126 isn) 128 (nI on)) 130 (nI idn)) 102 (nI op)) 116 (-1)) 118 rs0) 125 nw) 126 isn) (updA (updA B 68 (B 68)) 69 (B 69))) := hD
      refine pc_V0 (G := G) (As := [.int 0, .int (nI 0)]) (rest := []) hx hb hml hown hq hE hX pX0_al hP hD hS hA hl.1 (R_returns l G h0 a (upd (upd (upd (upd (upd (upd (upd (upd (upd (upd (upd (upd (upd (upd (upd (upd (upd (upd (upd (upd (upd F 49 (nI md)) 87 (nI ou)) 97 (nI ct)) 98 (nI fl)) 99 (nI rmm)) 101 tds) 102 (nI op)) 111 (nI tp)) 115 (nI wn)) 116 (-1)) 117 (nI fu)) 118 rs0) 119 uc0) 121 ma0) 122 mc0) 123 ca) 124 mo) 125 nw) 126 isn) 128 (nI on)) 130 (nI idn)) B op 0 (bf (op - 1)) 0 (-1) rs0 nw isn (B 68) (B 69) (by omega) (by omega) hlr.2.2.2.2.2.2.1 (by omega) (Or.inl hn1)) (gV pw_2034 pw_2035 pw_2036 pw_1523 pw_2021) hV_X12_returns 0 9 rfl rfl rfl rfl (Nat.le_of_ble_eq_true rfl) dX12_isOver_15 ⟨Nat.le_of_ble_eq_true rfl, Nat.le_of_ble_eq_true rfl⟩ ⟨Nat.le_of_ble_eq_true rfl, Nat.le_of_ble_eq_true rfl⟩ (fun v6 u4 H locs hw5 hP hD hS => ?_)
      obtain ⟨tp7, en8, rs9, nw10, is11, stk12, rf13⟩ := u4
      obtain ⟨hw5, h14, h15⟩ := hw5
      replace h14 : If ((B 65) (op - 1) = -1) (en8 = 0 ∧ rs9 = 0 ∧ stk12 = (B 68) ∧ rf13 = (B 69) ∧ tp7 = (bf (op - 1))) := h14
      replace h15 : ∀ n : Nat, n < 12000 → (B 65) (op - 1) = nI n → en8 = (-1) ∧ nw10 = nI n ∧ is11 = 0 ∧ (((B 17) n = 0 ∧ tp7 = (bf (op - 1)) ∧ stk12 = (B 68) ∧ rf13 = (B 69)) ∨ (¬ (B 17) n = 0 ∧ tp7 = (bf (op - 1)) + 1 ∧ stk12 = upd (B 68) (bf (op - 1)) 0 ∧ rf13 = upd (B 69) (bf (op - 1)) (nI 0))) := h15
      obtain rfl : v6 = none := hw5
      have hP : va_P G.1 pCl (mW G h0 a (upd (upd (upd (upd (upd (upd (upd (upd (upd (upd (upd (upd (upd (upd (upd (upd (upd (upd (upd (upd (upd F 49 (nI md)) 87 (nI ou)) 97 (nI ct)) 98 (nI fl)) 99 (nI rmm)) 101 tds) 102 (nI (op - 1))) 111 (nI tp7)) 115 (nI wn)) 116 en8) 117 (nI fu)) 118 rs9) 119 uc0) 121 ma0) 122 mc0) 123 ca) 124 mo) 125 nw10) 126 is11) 128 (nI on)) 130 (nI idn)) (updA (updA B 68 stk12) 69 rf13)) _ := hP
      have hD : va_D A (mW G h0 a (upd (upd (upd (upd (upd (upd (upd (upd (upd (upd (upd (upd (upd (upd (upd (upd (upd (upd (upd (upd (upd F 49 (nI md)) 87 (nI ou)) 97 (nI ct)) 98 (nI fl)) 99 (nI rmm)) 101 tds) 102 (nI (op - 1))) 111 (nI tp7)) 115 (nI wn)) 116 en8) 117 (nI fu)) 118 rs9) 119 uc0) 121 ma0) 122 mc0) 123 ca) 124 mo) 125 nw10) 126 is11) 128 (nI on)) 130 (nI idn)) (updA (updA B 68 stk12) 69 rf13)) := hD
      refine W.widen (k := 0) (n := 0) (Nat.le_of_ble_eq_true rfl) (Nat.le_of_ble_eq_true rfl) ?_
      refine W.eq (g2 := F0 m 18 ls []) rfl ?_
      have hz16 : Nx Xs (updA (updA B 68 stk12) 69 rf13) gh nd T nm wr lz dc fd md pr bk M rmm fu (Phi gh ps op (rkN gh n9 true)) (op - 1) tp7 wn fu rd on idn fl ct en8 nw10 is11 uc0 := (by obtain ⟨z1, z2, z3, z4, z5⟩ := h14 hn1; exact hR.stop (Sta.up (Sta.up Sta.rfl (by omega)) (by omega)) (by rw [z3, z4]; exact hR.hp) (by rw [z1]; decide) (by rw [z1]; decide))
      have hz17 : ou ≤ 400 := (by omega)
      have hP : va_P G.1 pCl (mW G h0 a (upd (upd (upd (upd (upd (upd (upd (upd (upd (upd (upd (upd (upd (upd (upd (upd (upd (upd (upd (upd (upd F 49 (nI md)) 87 (nI ou)) 97 (nI ct)) 98 (nI fl)) 99 (nI rmm)) 101 tds) 102 (nI (op - 1))) 111 (nI tp7)) 115 (nI wn)) 116 en8) 117 (nI fu)) 118 rs9) 119 uc0) 121 ma0) 122 mc0) 123 ca) 124 mo) 125 nw10) 126 is11) 128 (nI on)) 130 (nI idn)) (updA (updA B 68 stk12) 69 rf13)) _ := hP
      have hD : va_D A (mW G h0 a (upd (upd (upd (upd (upd (upd (upd (upd (upd (upd (upd (upd (upd (upd (upd (upd (upd (upd (upd (upd (upd F 49 (nI md)) 87 (nI ou)) 97 (nI ct)) 98 (nI fl)) 99 (nI rmm)) 101 tds) 102 (nI (op - 1))) 111 (nI tp7)) 115 (nI wn)) 116 en8) 117 (nI fu)) 118 rs9) 119 uc0) 121 ma0) 122 mc0) 123 ca) 124 mo) 125 nw10) 126 is11) 128 (nI on)) 130 (nI idn)) (updA (updA B 68 stk12) 69 rf13)) := hD
      exact W.vret hx hb hr (fun t9 ht9 hW9 => ⟨⟨_, ((op - 1), tp7, wn, fu, en8, nw10, is11, rs9, uc0, on, idn, fl, ct, tds, ma0, mc0, ca, mo, ou, (updA (updA B 68 stk12) 69 rf13)), rfl, ⟨rfl, hz16, hz17⟩, by rw [ht9]; exact hP, hD⟩, hS.F ht9⟩) hS.2.2 dX12_isOver_18
    · have hP : va_P G.1 pCl (mW G h0 a (upd (upd (upd (upd (upd (upd (upd (upd (upd (upd (upd (upd (upd (upd (upd (upd (upd (upd (upd (upd (upd (upd (upd (upd (upd (upd F 49 (nI md)) 87 (nI ou)) 97 (nI ct)) 98 (nI fl)) 99 (nI rmm)) 101 tds) 102 (nI op)) 111 (nI tp)) 115 (nI wn)) 116 (-1)) 117 (nI fu)) 118 rs0) 119 uc0) 121 ma0) 122 mc0) 123 ca) 124 mo) 125 nw) 126 isn) 128 (nI on)) 130 (nI idn)) 102 (nI op)) 116 (-1)) 118 rs0) 125 nw) 126 isn) (updA (updA B 68 (B 68)) 69 (B 69))) _ := hP
      have hD : va_D A (mW G h0 a (upd (upd (upd (upd (upd (upd (upd (upd (upd (upd (upd (upd (upd (upd (upd (upd (upd (upd (upd (upd (upd (upd (upd (upd (upd (upd F 49 (nI md)) 87 (nI ou)) 97 (nI ct)) 98 (nI fl)) 99 (nI rmm)) 101 tds) 102 (nI op)) 111 (nI tp)) 115 (nI wn)) 116 (-1)) 117 (nI fu)) 118 rs0) 119 uc0) 121 ma0) 122 mc0) 123 ca) 124 mo) 125 nw) 126 isn) 128 (nI on)) 130 (nI idn)) 102 (nI op)) 116 (-1)) 118 rs0) 125 nw) 126 isn) (updA (updA B 68 (B 68)) 69 (B 69))) := hD
      refine pc_V0 (G := G) (As := [.int 0, .int (nI 0)]) (rest := []) hx hb hml hown hq hE hX pX0_al hP hD hS hA hl.1 (R_returns l G h0 a (upd (upd (upd (upd (upd (upd (upd (upd (upd (upd (upd (upd (upd (upd (upd (upd (upd (upd (upd (upd (upd F 49 (nI md)) 87 (nI ou)) 97 (nI ct)) 98 (nI fl)) 99 (nI rmm)) 101 tds) 102 (nI op)) 111 (nI tp)) 115 (nI wn)) 116 (-1)) 117 (nI fu)) 118 rs0) 119 uc0) 121 ma0) 122 mc0) 123 ca) 124 mo) 125 nw) 126 isn) 128 (nI on)) 130 (nI idn)) B op 0 (bf (op - 1)) 0 (-1) rs0 nw isn (B 68) (B 69) (by omega) (by omega) hlr.2.2.2.2.2.2.1 (by omega) (Or.inr ⟨_, by omega, hn2⟩)) (gV pw_2034 pw_2035 pw_2036 pw_1523 pw_2021) hV_X12_returns 0 9 rfl rfl rfl rfl (Nat.le_of_ble_eq_true rfl) dX12_isOver_15 ⟨Nat.le_of_ble_eq_true rfl, Nat.le_of_ble_eq_true rfl⟩ ⟨Nat.le_of_ble_eq_true rfl, Nat.le_of_ble_eq_true rfl⟩ (fun v20 u18 H locs hw19 hP hD hS => ?_)
      obtain ⟨tp21, en22, rs23, nw24, is25, stk26, rf27⟩ := u18
      obtain ⟨hw19, h28, h29⟩ := hw19
      replace h28 : If ((B 65) (op - 1) = -1) (en22 = 0 ∧ rs23 = 0 ∧ stk26 = (B 68) ∧ rf27 = (B 69) ∧ tp21 = (bf (op - 1))) := h28
      replace h29 : ∀ n : Nat, n < 12000 → (B 65) (op - 1) = nI n → en22 = (-1) ∧ nw24 = nI n ∧ is25 = 0 ∧ (((B 17) n = 0 ∧ tp21 = (bf (op - 1)) ∧ stk26 = (B 68) ∧ rf27 = (B 69)) ∨ (¬ (B 17) n = 0 ∧ tp21 = (bf (op - 1)) + 1 ∧ stk26 = upd (B 68) (bf (op - 1)) 0 ∧ rf27 = upd (B 69) (bf (op - 1)) (nI 0))) := h29
      obtain rfl : v20 = none := hw19
      have hP : va_P G.1 pCl (mW G h0 a (upd (upd (upd (upd (upd (upd (upd (upd (upd (upd (upd (upd (upd (upd (upd (upd (upd (upd (upd (upd (upd F 49 (nI md)) 87 (nI ou)) 97 (nI ct)) 98 (nI fl)) 99 (nI rmm)) 101 tds) 102 (nI (op - 1))) 111 (nI tp21)) 115 (nI wn)) 116 en22) 117 (nI fu)) 118 rs23) 119 uc0) 121 ma0) 122 mc0) 123 ca) 124 mo) 125 nw24) 126 is25) 128 (nI on)) 130 (nI idn)) (updA (updA B 68 stk26) 69 rf27)) _ := hP
      have hD : va_D A (mW G h0 a (upd (upd (upd (upd (upd (upd (upd (upd (upd (upd (upd (upd (upd (upd (upd (upd (upd (upd (upd (upd (upd F 49 (nI md)) 87 (nI ou)) 97 (nI ct)) 98 (nI fl)) 99 (nI rmm)) 101 tds) 102 (nI (op - 1))) 111 (nI tp21)) 115 (nI wn)) 116 en22) 117 (nI fu)) 118 rs23) 119 uc0) 121 ma0) 122 mc0) 123 ca) 124 mo) 125 nw24) 126 is25) 128 (nI on)) 130 (nI idn)) (updA (updA B 68 stk26) 69 rf27)) := hD
      refine W.widen (k := 0) (n := 0) (Nat.le_of_ble_eq_true rfl) (Nat.le_of_ble_eq_true rfl) ?_
      refine W.eq (g2 := F0 m 18 ls []) rfl ?_
      have hz30 : Nx Xs (updA (updA B 68 stk26) 69 rf27) gh nd T nm wr lz dc fd md pr bk M rmm fu (Phi gh ps op (rkN gh n9 true)) (op - 1) tp21 wn fu rd on idn fl ct en22 nw24 is25 uc0 := (by obtain ⟨z1, z2, z3, z4⟩ := h29 _ (by omega) hn2; rw [z1, z2, z3]; refine hR.ln.back hu3 (Or.inr Slt.zero) ho2 ?_; rcases z4 with ⟨y1, y2, y3, y4⟩ | ⟨y1, y2, y3, y4⟩; exact Or.inl ⟨by rw [y3, y4]; exact upd2_id, y1, y2⟩; exact Or.inr ⟨by rw [y3, y4], y1, y2⟩)
      have hz31 : ou ≤ 400 := (by omega)
      have hP : va_P G.1 pCl (mW G h0 a (upd (upd (upd (upd (upd (upd (upd (upd (upd (upd (upd (upd (upd (upd (upd (upd (upd (upd (upd (upd (upd F 49 (nI md)) 87 (nI ou)) 97 (nI ct)) 98 (nI fl)) 99 (nI rmm)) 101 tds) 102 (nI (op - 1))) 111 (nI tp21)) 115 (nI wn)) 116 en22) 117 (nI fu)) 118 rs23) 119 uc0) 121 ma0) 122 mc0) 123 ca) 124 mo) 125 nw24) 126 is25) 128 (nI on)) 130 (nI idn)) (updA (updA B 68 stk26) 69 rf27)) _ := hP
      have hD : va_D A (mW G h0 a (upd (upd (upd (upd (upd (upd (upd (upd (upd (upd (upd (upd (upd (upd (upd (upd (upd (upd (upd (upd (upd F 49 (nI md)) 87 (nI ou)) 97 (nI ct)) 98 (nI fl)) 99 (nI rmm)) 101 tds) 102 (nI (op - 1))) 111 (nI tp21)) 115 (nI wn)) 116 en22) 117 (nI fu)) 118 rs23) 119 uc0) 121 ma0) 122 mc0) 123 ca) 124 mo) 125 nw24) 126 is25) 128 (nI on)) 130 (nI idn)) (updA (updA B 68 stk26) 69 rf27)) := hD
      exact W.vret hx hb hr (fun t9 ht9 hW9 => ⟨⟨_, ((op - 1), tp21, wn, fu, en22, nw24, is25, rs23, uc0, on, idn, fl, ct, tds, ma0, mc0, ca, mo, ou, (updA (updA B 68 stk26) 69 rf27)), rfl, ⟨rfl, hz30, hz31⟩, by rw [ht9]; exact hP, hD⟩, hS.F ht9⟩) hS.2.2 dX12_isOver_18
  · refine lv_topi (fun x32 e33 => ?_)
    obtain rfl : x32 = nI p2 := e33.trans hp2
    obtain ⟨kp, ekp, -, kp4, -⟩ := hPg.fs.knd hp1
    have hko : 1 ≤ kp ∧ (kp ≤ 23 ∨ 30 ≤ kp) := hPg.fs.kok hp1 ekp kp4
    refine lv_istore_n (lv' := [(2, .int (nI p2)), (0, .ref h0), (1, .int (nI n9))]) hx hb dX12_isOver_6 rfl hl (by decide) rfl (fun ls hl => ?_)
    refine lv_iload_n hx hb dX12_isOver_7 rfl (lv_at hl 0 rfl) ?_
    refine lv_iconst (v := (-1)) hx hb dX12_isOver_8 (by decide) ?_
    refine lv_icmp_ne (tgt := 19) hx hb dX12_isOver_9 (by decide) (fun c34 => ?_) (fun c34 => absurd c34 (nI_m1 (by omega)))
    refine lv_aload_n hx hb dX12_isOver_19 rfl (lv_at hl 1 rfl) ?_
    refine r_get (v := .ref (a 9)) hx hb hown hq hE hP 17 38 tFX12_17 (by decide) pw_1439 rfl dX12_isOver_20 ?_
    refine lv_iload_n hx hb dX12_isOver_23 rfl (lv_at hl 0 rfl) ?_
    refine r_ldi (f := (B 9)) (j := p2) hx hb hE hP 9 (ma_9 G a _) rfl (by omega) (by decide) dX12_isOver_24 ?_
    refine lv_topi (fun x35 e36 => ?_)
    obtain rfl : x35 = nI kp := e36.trans ((congrFun hw9 _).trans ekp)
    refine lv_bipush (v := 30) hx hb dX12_isOver_25 (by decide) ?_
    refine lv_icmp_ge (tgt := 39) hx hb dX12_isOver_27 (by decide) (fun c37 => ?_) (fun c37 => ?_)
    · have n38 : 30 ≤ kp := (nI_leI (a := 30) (b := kp) (by omega) (by omega)).mp c37
      refine lv_aload_n hx hb dX12_isOver_39 rfl (lv_at hl 1 rfl) ?_
      refine lv_iload_n hx hb dX12_isOver_40 rfl (lv_at hl 0 rfl) ?_
      refine lv_iload_n hx hb dX12_isOver_41 rfl (lv_at hl 2 rfl) ?_
      have hP : va_P G.1 pCl (mW G h0 a (upd (upd (upd (upd (upd (upd (upd (upd (upd (upd (upd (upd (upd (upd (upd (upd (upd (upd (upd (upd (upd (upd (upd (upd (upd (upd (upd (upd (upd (upd (upd F 49 (nI md)) 87 (nI ou)) 97 (nI ct)) 98 (nI fl)) 99 (nI rmm)) 101 tds) 102 (nI op)) 111 (nI tp)) 115 (nI wn)) 116 (-1)) 117 (nI fu)) 118 rs0) 119 uc0) 121 ma0) 122 mc0) 123 ca) 124 mo) 125 nw) 126 isn) 128 (nI on)) 130 (nI idn)) 87 (nI ou)) 102 (nI op)) 111 (nI tp)) 115 (nI wn)) 116 (-1)) 117 (nI fu)) 118 rs0) 119 uc0) 125 nw) 126 isn) B) _ := hP
      have hD : va_D A (mW G h0 a (upd (upd (upd (upd (upd (upd (upd (upd (upd (upd (upd (upd (upd (upd (upd (upd (upd (upd (upd (upd (upd (upd (upd (upd (upd (upd (upd (upd (upd (upd (upd F 49 (nI md)) 87 (nI ou)) 97 (nI ct)) 98 (nI fl)) 99 (nI rmm)) 101 tds) 102 (nI op)) 111 (nI tp)) 115 (nI wn)) 116 (-1)) 117 (nI fu)) 118 rs0) 119 uc0) 121 ma0) 122 mc0) 123 ca) 124 mo) 125 nw) 126 isn) 128 (nI on)) 130 (nI idn)) 87 (nI ou)) 102 (nI op)) 111 (nI tp)) 115 (nI wn)) 116 (-1)) 117 (nI fu)) 118 rs0) 119 uc0) 125 nw) 126 isn) B) := hD
      refine pc_V0 (G := G) (As := [.int (nI p2), .int (nI n9)]) (rest := []) hx hb hml hown hq hE hX pX0_al hP hD hS hA hl.1 (R_goesOnIn l G h0 a (upd (upd (upd (upd (upd (upd (upd (upd (upd (upd (upd (upd (upd (upd (upd (upd (upd (upd (upd (upd (upd F 49 (nI md)) 87 (nI ou)) 97 (nI ct)) 98 (nI fl)) 99 (nI rmm)) 101 tds) 102 (nI op)) 111 (nI tp)) 115 (nI wn)) 116 (-1)) 117 (nI fu)) 118 rs0) 119 uc0) 121 ma0) 122 mc0) 123 ca) 124 mo) 125 nw) 126 isn) 128 (nI on)) 130 (nI idn)) B Xs gh nd T nm wr lz dc fd md pr bk M rmm op tp wn fu rd on idn fl ct n9 p2 u2 mt ps yy bf wf nw isn rs0 uc0 kp ou hR hp4 hp3 hfu ekp (by omega) (by omega)) (gV pw_2128 pw_2129 pw_2130 pw_1523 pw_2124) hV_X12_goesOnIn 0 9 rfl rfl rfl rfl (Nat.le_of_ble_eq_true rfl) dX12_isOver_42 ⟨Nat.le_of_ble_eq_true rfl, Nat.le_of_ble_eq_true rfl⟩ ⟨Nat.le_of_ble_eq_true rfl, Nat.le_of_ble_eq_true rfl⟩ (fun v41 u39 H locs hw40 hP hD hS => ?_)
      obtain ⟨op42, tp43, wn44, fu45, en46, nw47, is48, rs49, uc50, ou51, X52⟩ := u39
      obtain ⟨hw40, h53, h54⟩ := hw40
      replace h53 : Nx Xs X52 gh nd T nm wr lz dc fd md pr bk M rmm fu (Phi gh ps op (rkN gh n9 true)) op42 tp43 wn44 fu45 rd on idn fl ct en46 nw47 is48 uc50 := h53
      replace h54 : ou51 ≤ 400 := h54
      obtain rfl : v41 = none := hw40
      have hP : va_P G.1 pCl (mW G h0 a (upd (upd (upd (upd (upd (upd (upd (upd (upd (upd (upd (upd (upd (upd (upd (upd (upd (upd (upd (upd (upd F 49 (nI md)) 87 (nI ou51)) 97 (nI ct)) 98 (nI fl)) 99 (nI rmm)) 101 tds) 102 (nI op42)) 111 (nI tp43)) 115 (nI wn44)) 116 en46) 117 (nI fu45)) 118 rs49) 119 uc50) 121 ma0) 122 mc0) 123 ca) 124 mo) 125 nw47) 126 is48) 128 (nI on)) 130 (nI idn)) X52) _ := hP
      have hD : va_D A (mW G h0 a (upd (upd (upd (upd (upd (upd (upd (upd (upd (upd (upd (upd (upd (upd (upd (upd (upd (upd (upd (upd (upd F 49 (nI md)) 87 (nI ou51)) 97 (nI ct)) 98 (nI fl)) 99 (nI rmm)) 101 tds) 102 (nI op42)) 111 (nI tp43)) 115 (nI wn44)) 116 en46) 117 (nI fu45)) 118 rs49) 119 uc50) 121 ma0) 122 mc0) 123 ca) 124 mo) 125 nw47) 126 is48) 128 (nI on)) 130 (nI idn)) X52) := hD
      refine W.widen (k := 0) (n := 0) (Nat.le_of_ble_eq_true rfl) (Nat.le_of_ble_eq_true rfl) ?_
      refine W.eq (g2 := F0 m 45 ls []) rfl ?_
      have hz55 : Nx Xs X52 gh nd T nm wr lz dc fd md pr bk M rmm fu (Phi gh ps op (rkN gh n9 true)) op42 tp43 wn44 fu45 rd on idn fl ct en46 nw47 is48 uc50 := h53
      have hz56 : ou51 ≤ 400 := (by omega)
      have hP : va_P G.1 pCl (mW G h0 a (upd (upd (upd (upd (upd (upd (upd (upd (upd (upd (upd (upd (upd (upd (upd (upd (upd (upd (upd (upd (upd F 49 (nI md)) 87 (nI ou51)) 97 (nI ct)) 98 (nI fl)) 99 (nI rmm)) 101 tds) 102 (nI op42)) 111 (nI tp43)) 115 (nI wn44)) 116 en46) 117 (nI fu45)) 118 rs49) 119 uc50) 121 ma0) 122 mc0) 123 ca) 124 mo) 125 nw47) 126 is48) 128 (nI on)) 130 (nI idn)) X52) _ := hP
      have hD : va_D A (mW G h0 a (upd (upd (upd (upd (upd (upd (upd (upd (upd (upd (upd (upd (upd (upd (upd (upd (upd (upd (upd (upd (upd F 49 (nI md)) 87 (nI ou51)) 97 (nI ct)) 98 (nI fl)) 99 (nI rmm)) 101 tds) 102 (nI op42)) 111 (nI tp43)) 115 (nI wn44)) 116 en46) 117 (nI fu45)) 118 rs49) 119 uc50) 121 ma0) 122 mc0) 123 ca) 124 mo) 125 nw47) 126 is48) 128 (nI on)) 130 (nI idn)) X52) := hD
      exact W.vret hx hb hr (fun t9 ht9 hW9 => ⟨⟨_, (op42, tp43, wn44, fu45, en46, nw47, is48, rs49, uc50, on, idn, fl, ct, tds, ma0, mc0, ca, mo, ou51, X52), rfl, ⟨rfl, hz55, hz56⟩, by rw [ht9]; exact hP, hD⟩, hS.F ht9⟩) hS.2.2 dX12_isOver_45
    · have n57 : ¬ (30 ≤ kp) := fun h9 => c37 ((nI_leI (a := 30) (b := kp) (by omega) (by omega)).mpr h9)
      refine lv_aload_n hx hb dX12_isOver_30 rfl (lv_at hl 1 rfl) ?_
      refine lv_iload_n hx hb dX12_isOver_31 rfl (lv_at hl 0 rfl) ?_
      refine lv_iload_n hx hb dX12_isOver_32 rfl (lv_at hl 2 rfl) ?_
      have hP : va_P G.1 pCl (mW G h0 a (upd (upd (upd (upd (upd (upd (upd (upd (upd (upd (upd (upd (upd (upd (upd (upd (upd (upd (upd (upd (upd (upd F 49 (nI md)) 87 (nI ou)) 97 (nI ct)) 98 (nI fl)) 99 (nI rmm)) 101 tds) 102 (nI op)) 111 (nI tp)) 115 (nI wn)) 116 (-1)) 117 (nI fu)) 118 rs0) 119 uc0) 121 ma0) 122 mc0) 123 ca) 124 mo) 125 nw) 126 isn) 128 (nI on)) 130 (nI idn)) 130 (nI idn)) B) _ := hP
      have hD : va_D A (mW G h0 a (upd (upd (upd (upd (upd (upd (upd (upd (upd (upd (upd (upd (upd (upd (upd (upd (upd (upd (upd (upd (upd (upd F 49 (nI md)) 87 (nI ou)) 97 (nI ct)) 98 (nI fl)) 99 (nI rmm)) 101 tds) 102 (nI op)) 111 (nI tp)) 115 (nI wn)) 116 (-1)) 117 (nI fu)) 118 rs0) 119 uc0) 121 ma0) 122 mc0) 123 ca) 124 mo) 125 nw) 126 isn) 128 (nI on)) 130 (nI idn)) 130 (nI idn)) B) := hD
      have hP : va_P G.1 pCl (mW G h0 a (upd (upd (upd (upd (upd (upd (upd (upd (upd (upd (upd (upd (upd (upd (upd (upd (upd (upd (upd (upd (upd (upd (upd (upd (upd (upd (upd (upd (upd (upd (upd (upd (upd (upd (upd (upd (upd (upd (upd (upd (upd F 49 (nI md)) 87 (nI ou)) 97 (nI ct)) 98 (nI fl)) 99 (nI rmm)) 101 tds) 102 (nI op)) 111 (nI tp)) 115 (nI wn)) 116 (-1)) 117 (nI fu)) 118 rs0) 119 uc0) 121 ma0) 122 mc0) 123 ca) 124 mo) 125 nw) 126 isn) 128 (nI on)) 130 (nI idn)) 49 (nI md)) 97 (nI ct)) 98 (nI fl)) 99 (nI rmm)) 101 tds) 102 (nI op)) 111 (nI tp)) 115 (nI wn)) 116 (-1)) 117 (nI fu)) 118 rs0) 119 uc0) 121 ma0) 122 mc0) 123 ca) 124 mo) 125 nw) 126 isn) 128 (nI on)) 130 (nI idn)) B) _ := hP
      have hD : va_D A (mW G h0 a (upd (upd (upd (upd (upd (upd (upd (upd (upd (upd (upd (upd (upd (upd (upd (upd (upd (upd (upd (upd (upd (upd (upd (upd (upd (upd (upd (upd (upd (upd (upd (upd (upd (upd (upd (upd (upd (upd (upd (upd (upd F 49 (nI md)) 87 (nI ou)) 97 (nI ct)) 98 (nI fl)) 99 (nI rmm)) 101 tds) 102 (nI op)) 111 (nI tp)) 115 (nI wn)) 116 (-1)) 117 (nI fu)) 118 rs0) 119 uc0) 121 ma0) 122 mc0) 123 ca) 124 mo) 125 nw) 126 isn) 128 (nI on)) 130 (nI idn)) 49 (nI md)) 97 (nI ct)) 98 (nI fl)) 99 (nI rmm)) 101 tds) 102 (nI op)) 111 (nI tp)) 115 (nI wn)) 116 (-1)) 117 (nI fu)) 118 rs0) 119 uc0) 121 ma0) 122 mc0) 123 ca) 124 mo) 125 nw) 126 isn) 128 (nI on)) 130 (nI idn)) B) := hD
      refine pc_V0 (G := G) (As := [.int (nI p2), .int (nI n9)]) (rest := []) hx hb hml hown hq hE hX pX0_al hP hD hS hA hl.1 (R_goesOn l G h0 a (upd (upd (upd (upd (upd (upd (upd (upd (upd (upd (upd (upd (upd (upd (upd (upd (upd (upd (upd (upd (upd F 49 (nI md)) 87 (nI ou)) 97 (nI ct)) 98 (nI fl)) 99 (nI rmm)) 101 tds) 102 (nI op)) 111 (nI tp)) 115 (nI wn)) 116 (-1)) 117 (nI fu)) 118 rs0) 119 uc0) 121 ma0) 122 mc0) 123 ca) 124 mo) 125 nw) 126 isn) 128 (nI on)) 130 (nI idn)) B Xs gh nd T nm wr lz dc fd md pr bk M rmm op tp wn fu rd on idn fl ct n9 p2 u2 mt ps yy bf wf nw isn rs0 uc0 tds ma0 mc0 ca mo kp hR hp4 hp3 hfu ekp (by omega)) (gV pw_2125 pw_2126 pw_2127 pw_1523 pw_2111) hV_X12_goesOn 0 9 rfl rfl rfl rfl (Nat.le_of_ble_eq_true rfl) dX12_isOver_33 ⟨Nat.le_of_ble_eq_true rfl, Nat.le_of_ble_eq_true rfl⟩ ⟨Nat.le_of_ble_eq_true rfl, Nat.le_of_ble_eq_true rfl⟩ (fun v60 u58 H locs hw59 hP hD hS => ?_)
      obtain ⟨op61, tp62, wn63, fu64, en65, nw66, is67, rs68, uc69, on70, idn71, fl72, ct73, td74, ma75, mc76, ca77, mo78, X79⟩ := u58
      obtain ⟨hw59, h80⟩ := hw59
      replace h80 : Nx Xs X79 gh nd T nm wr lz dc fd md pr bk M rmm fu (Phi gh ps op (rkN gh n9 true)) op61 tp62 wn63 fu64 rd on70 idn71 fl72 ct73 en65 nw66 is67 uc69 := h80
      obtain rfl : v60 = none := hw59
      have hP : va_P G.1 pCl (mW G h0 a (upd (upd (upd (upd (upd (upd (upd (upd (upd (upd (upd (upd (upd (upd (upd (upd (upd (upd (upd (upd (upd (upd F 49 (nI md)) 87 (nI ou)) 97 (nI ct73)) 98 (nI fl72)) 99 (nI rmm)) 101 td74) 102 (nI op61)) 111 (nI tp62)) 115 (nI wn63)) 116 en65) 117 (nI fu64)) 118 rs68) 119 uc69) 121 ma75) 122 mc76) 123 ca77) 124 mo78) 125 nw66) 126 is67) 128 (nI on70)) 130 (nI idn71)) 130 (nI idn71)) X79) _ := hP
      have hD : va_D A (mW G h0 a (upd (upd (upd (upd (upd (upd (upd (upd (upd (upd (upd (upd (upd (upd (upd (upd (upd (upd (upd (upd (upd (upd F 49 (nI md)) 87 (nI ou)) 97 (nI ct73)) 98 (nI fl72)) 99 (nI rmm)) 101 td74) 102 (nI op61)) 111 (nI tp62)) 115 (nI wn63)) 116 en65) 117 (nI fu64)) 118 rs68) 119 uc69) 121 ma75) 122 mc76) 123 ca77) 124 mo78) 125 nw66) 126 is67) 128 (nI on70)) 130 (nI idn71)) 130 (nI idn71)) X79) := hD
      have hP : va_P G.1 pCl (mW G h0 a (upd (upd (upd (upd (upd (upd (upd (upd (upd (upd (upd (upd (upd (upd (upd (upd (upd (upd (upd (upd (upd F 49 (nI md)) 87 (nI ou)) 97 (nI ct73)) 98 (nI fl72)) 99 (nI rmm)) 101 td74) 102 (nI op61)) 111 (nI tp62)) 115 (nI wn63)) 116 en65) 117 (nI fu64)) 118 rs68) 119 uc69) 121 ma75) 122 mc76) 123 ca77) 124 mo78) 125 nw66) 126 is67) 128 (nI on70)) 130 (nI idn71)) X79) _ := hP
      have hD : va_D A (mW G h0 a (upd (upd (upd (upd (upd (upd (upd (upd (upd (upd (upd (upd (upd (upd (upd (upd (upd (upd (upd (upd (upd F 49 (nI md)) 87 (nI ou)) 97 (nI ct73)) 98 (nI fl72)) 99 (nI rmm)) 101 td74) 102 (nI op61)) 111 (nI tp62)) 115 (nI wn63)) 116 en65) 117 (nI fu64)) 118 rs68) 119 uc69) 121 ma75) 122 mc76) 123 ca77) 124 mo78) 125 nw66) 126 is67) 128 (nI on70)) 130 (nI idn71)) X79) := hD
      refine W.widen (k := 0) (n := 0) (Nat.le_of_ble_eq_true rfl) (Nat.le_of_ble_eq_true rfl) ?_
      refine W.eq (g2 := F0 m 36 ls []) rfl ?_
      refine lv_goto (tgt := 45) hx hb dX12_isOver_36 (by decide) ?_
      have hz81 : Nx Xs X79 gh nd T nm wr lz dc fd md pr bk M rmm fu (Phi gh ps op (rkN gh n9 true)) op61 tp62 wn63 fu64 rd on70 idn71 fl72 ct73 en65 nw66 is67 uc69 := h80
      have hz82 : ou ≤ 400 := (by omega)
      have hP : va_P G.1 pCl (mW G h0 a (upd (upd (upd (upd (upd (upd (upd (upd (upd (upd (upd (upd (upd (upd (upd (upd (upd (upd (upd (upd (upd F 49 (nI md)) 87 (nI ou)) 97 (nI ct73)) 98 (nI fl72)) 99 (nI rmm)) 101 td74) 102 (nI op61)) 111 (nI tp62)) 115 (nI wn63)) 116 en65) 117 (nI fu64)) 118 rs68) 119 uc69) 121 ma75) 122 mc76) 123 ca77) 124 mo78) 125 nw66) 126 is67) 128 (nI on70)) 130 (nI idn71)) X79) _ := hP
      have hD : va_D A (mW G h0 a (upd (upd (upd (upd (upd (upd (upd (upd (upd (upd (upd (upd (upd (upd (upd (upd (upd (upd (upd (upd (upd F 49 (nI md)) 87 (nI ou)) 97 (nI ct73)) 98 (nI fl72)) 99 (nI rmm)) 101 td74) 102 (nI op61)) 111 (nI tp62)) 115 (nI wn63)) 116 en65) 117 (nI fu64)) 118 rs68) 119 uc69) 121 ma75) 122 mc76) 123 ca77) 124 mo78) 125 nw66) 126 is67) 128 (nI on70)) 130 (nI idn71)) X79) := hD
      exact W.vret hx hb hr (fun t9 ht9 hW9 => ⟨⟨_, (op61, tp62, wn63, fu64, en65, nw66, is67, rs68, uc69, on70, idn71, fl72, ct73, td74, ma75, mc76, ca77, mo78, ou, X79), rfl, ⟨rfl, hz81, hz82⟩, by rw [ht9]; exact hP, hD⟩, hS.F ht9⟩) hS.2.2 dX12_isOver_45

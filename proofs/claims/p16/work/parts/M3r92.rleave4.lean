set_option maxHeartbeats 16000000 in
set_option maxRecDepth 100000 in
/-- leaves, kind 4 -/
theorem R_leaves4 (l : Launch) (G : pT) (h0 : Nat) (a : Nat → Nat) (F : Nat → Int32) (B : Nat → Nat → Int32) (Xs : Nat → Nat → Int32) (gh : Nat → Nat → Nat) (nd : Nat) (T : Nat) (nm : Nat) (wr : Nat) (lz : Nat) (dc : Nat) (fd : Nat) (md : Nat) (pr : Nat) (bk : Nat) (M : MTb) (rmm : Nat) (mu : Nat) (op : Nat) (wn : Nat) (fu : Nat) (rd : Nat) (on : Nat) (idn : Nat) (fl : Nat) (ct : Nat) (c9 : Nat) (x : Int32) (b9 : Nat) (mt : Nat → Nat) (ps : Nat → Nat) (yy : Nat → Ps) (bf : Nat → Nat) (wf : Nat → Nat) (tx : Int32) (nw : Int32) (isn : Int32) (rs0 : Int32) (uc0 : Int32) (hL : Ln Xs B gh nd T nm wr lz dc fd md pr bk M rmm mu op wn fu rd on idn fl ct c9 mt ps yy bf wf) (hfu : fu ≤ 20000) (hb1 : b9 ≤ 1) (hrf : If (¬ b9 = 0) (RfV (B 73) on x)) (hlp : 1 ≤ (yy (op - 1)).1.2.1) (hjk : ∃ k : Nat, Xs 9 c9 = nI k ∧ k ≤ 44 ∧ JK k) : PM l G pX0 yX12_leaves cX12_leaves 9 none ({ frames := 5, cells := 0, slots := 0, locals := 124 }) [.ref h0, .int (nI c9), .int 4, .int x, .int (nI b9)] (mW G h0 a (upd (upd (upd (upd (upd (upd (upd (upd (upd F 102 (nI op)) 111 tx) 115 (nI wn)) 116 (-1)) 117 (nI fu)) 118 rs0) 119 uc0) 125 nw) 126 isn) B) (fun (v : Option Value) (u : Nat × Nat × Nat × Nat × Int32 × Int32 × Int32 × Int32 × Int32 × (Nat → Nat → Int32)) => v = none ∧ (Nx Xs u.2.2.2.2.2.2.2.2.2 gh nd T nm wr lz dc fd md pr bk M rmm fu mu u.1 u.2.1 u.2.2.1 u.2.2.2.1 rd on idn fl ct u.2.2.2.2.1 u.2.2.2.2.2.1 u.2.2.2.2.2.2.1 u.2.2.2.2.2.2.2.2.1)) (fun u => (mW G h0 a (upd (upd (upd (upd (upd (upd (upd (upd (upd F 102 (nI u.1)) 111 (nI u.2.1)) 115 (nI u.2.2.1)) 116 u.2.2.2.2.1) 117 (nI u.2.2.2.1)) 118 u.2.2.2.2.2.2.2.1) 119 u.2.2.2.2.2.2.2.2.1) 125 u.2.2.2.2.2.1) 126 u.2.2.2.2.2.2.1) u.2.2.2.2.2.2.2.2.2)) := by
  intro sz
  refine Met.ofW (cc := cX12_leaves) (maxL := 9) (ret := none) (by decide) rfl ?_
  intro p e s m args below meth c s₁ B9 hml hv
  obtain ⟨rfl, hsz, hP, hD0, hE, hX⟩ := hv
  have hx := B9.exec
  have hb := B9.bytes
  have hr := B9.returns
  have hts := atoms_spec (ws := Cond.code yX12_leaves cX12_leaves 9 none :: pw) B9.pre
  have hq : ∀ w ∈ pw, w.before _ s = true := fun w h => hts w (List.mem_cons_of_mem _ h)
  have hown : s.vm.findClass RX12 = some m.cls := findClass_of_methodNamed B9.named
  have hlocks := B9.notSynchronized
  subst hsz
  have hD := hD0.self (sz := s.heap.size)
  have hA : ∀ q : Nat, s.heap.size ≤ q → va_A (mW G h0 a (upd (upd (upd (upd (upd (upd (upd (upd (upd F 102 (nI op)) 111 tx) 115 (nI wn)) 116 (-1)) 117 (nI fu)) 118 rs0) 119 uc0) 125 nw) 126 isn) B) s.heap.size q := fun q h => Or.inr h
  have hP : va_P G.1 pCl (mW G h0 a (upd (upd (upd (upd (upd (upd (upd (upd (upd F 102 (nI op)) 111 tx) 115 (nI wn)) 116 (-1)) 117 (nI fu)) 118 rs0) 119 uc0) 125 nw) 126 isn) B) s.heap := hP
  generalize va_A (mW G h0 a (upd (upd (upd (upd (upd (upd (upd (upd (upd F 102 (nI op)) 111 tx) 115 (nI wn)) 116 (-1)) 117 (nI fu)) 118 rs0) 119 uc0) 125 nw) 126 isn) B) s.heap.size = A at hD hE hA ⊢
  have hS : va_S A s.heap s.heap [] := va_S.rf
  have hl := lv_entry ([.ref h0, .int (nI c9), .int 4, .int x, .int (nI b9)]) (n := 9) (Nat.le_of_ble_eq_true rfl)
  rw [lg_entry_eq]
  generalize (lg_sl ([.ref h0, .int (nI c9), .int 4, .int x, .int (nI b9)]) ++ List.replicate (9 - (lg_sl ([.ref h0, .int (nI c9), .int 4, .int x, .int (nI b9)])).length) Slot.unset).toArray = ls at hl ⊢
  have hl : lv_has ls 9 [(0, .ref h0), (1, .int (nI c9)), (2, .int 4), (3, .int x), (4, .int (nI b9))] := hl
  have hPg := hL.1
  have hbd := hPg.bd
  have hrm := hL.room
  have hw9 : B 9 = Xs 9 := hPg.row 9 (by omega) (by omega) (by omega) (by omega) (by omega)
  have hw12 : B 12 = Xs 12 := hPg.row 12 (by omega) (by omega) (by omega) (by omega) (by omega)
  have hw13 : B 13 = Xs 13 := hPg.row 13 (by omega) (by omega) (by omega) (by omega) (by omega)
  have hw16 : B 16 = Xs 16 := hPg.row 16 (by omega) (by omega) (by omega) (by omega) (by omega)
  have hw31 : B 31 = Xs 31 := hPg.row 31 (by omega) (by omega) (by omega) (by omega) (by omega)
  refine lv_iload_n hx hb dX12_leaves_0 rfl (lv_at hl 1 rfl) ?_
  refine lv_istore (lv' := [(5, .int (nI c9)), (0, .ref h0), (1, .int (nI c9)), (2, .int 4), (3, .int x), (4, .int (nI b9))]) hx hb dX12_leaves_1 hl (by decide) rfl (fun ls hl => ?_)
  refine lv_iconst (v := 1) hx hb dX12_leaves_3 (by decide) ?_
  refine lv_istore (lv' := [(6, .int 1), (5, .int (nI c9)), (0, .ref h0), (1, .int (nI c9)), (2, .int 4), (3, .int x), (4, .int (nI b9))]) hx hb dX12_leaves_4 hl (by decide) rfl (fun ls hl => ?_)
  have loop_o : ∀ (n_o : Nat) (zq : Nat) (op2 : Nat) (wn2 : Nat) (c2 : Nat) (yy2 : Nat → Ps) (tx2 : Int32) (H : Heap) (locs : List Loc) (ls : Array Slot), zq ≤ 40400 → 40400 + 1 ≤ zq + n_o → (Ln Xs B gh nd T nm wr lz dc fd md pr bk M rmm mu op2 wn2 fu rd on idn fl ct c2 mt ps yy2 bf wf) → (zq = 400 * (100 - op2) + gh 1 c2 ∧ gh 1 c2 ≤ 361 ∧ 1 ≤ op2 ∧ op2 ≤ 100 ∧ c2 < nd ∧ wn2 ≤ 20 * op2) → (1 ≤ (yy2 (op2 - 1)).1.2.1) → (∃ k : Nat, Xs 9 c2 = nI k ∧ k ≤ 44 ∧ JK k) → va_P G.1 pCl (mW G h0 a (upd (upd (upd (upd (upd (upd (upd (upd (upd F 102 (nI op2)) 111 tx2) 115 (nI wn2)) 116 (-1)) 117 (nI fu)) 118 rs0) 119 uc0) 125 nw) 126 isn) B) H → va_D A (mW G h0 a (upd (upd (upd (upd (upd (upd (upd (upd (upd F 102 (nI op2)) 111 tx2) 115 (nI wn2)) 116 (-1)) 117 (nI fu)) 118 rs0) 119 uc0) 125 nw) 126 isn) B) → va_S A s.heap H locs → lv_has ls 9 [(6, .int 1), (5, .int (nI c2)), (4, .int (nI b9)), (3, .int x), (2, .int 4), (1, .int (nI c9)), (0, .ref h0)] → W p l e (headSpec (Cond.code yX12_leaves cX12_leaves 9 none :: pw) ({ frames := 5, cells := 0, slots := 0, locals := 124 } : Room)).room s m ([.ref h0, .int (nI c9), .int 4, .int x, .int (nI b9)] : List Value).toArray below meth c H locs 0 0 (MQ below (pQ G A (fun (v : Option Value) (u : Nat × Nat × Nat × Nat × Int32 × Int32 × Int32 × Int32 × Int32 × (Nat → Nat → Int32)) => v = none ∧ (Nx Xs u.2.2.2.2.2.2.2.2.2 gh nd T nm wr lz dc fd md pr bk M rmm fu mu u.1 u.2.1 u.2.2.1 u.2.2.2.1 rd on idn fl ct u.2.2.2.2.1 u.2.2.2.2.2.1 u.2.2.2.2.2.2.1 u.2.2.2.2.2.2.2.2.1)) (fun u => (mW G h0 a (upd (upd (upd (upd (upd (upd (upd (upd (upd F 102 (nI u.1)) 111 (nI u.2.1)) 115 (nI u.2.2.1)) 116 u.2.2.2.2.1) 117 (nI u.2.2.2.1)) 118 u.2.2.2.2.2.2.2.1) 119 u.2.2.2.2.2.2.2.2.1) 125 u.2.2.2.2.2.1) 126 u.2.2.2.2.2.2.1) u.2.2.2.2.2.2.2.2.2))) ([.ref h0, .int (nI c9), .int 4, .int x, .int (nI b9)] : List Value).toArray s ({ frames := 5, cells := 0, slots := 0, locals := 124 } : Room).cells ({ frames := 5, cells := 0, slots := 0, locals := 124 } : Room).slots A) (F0 m 6 ls []) := by
    intro n_o
    induction n_o with
    | zero => intro zq op2 wn2 c2 yy2 tx2 H locs ls hk_o hn_o; omega
    | succ n_o ih_o =>
      intro zq op2 wn2 c2 yy2 tx2 H locs ls hk_o hn_o hL2 hz2 hlp2 hjk2 hP hD hS hl
      refine lv_iload hx hb dX12_leaves_6 (lv_at hl 0 rfl) ?_
      refine lv_if_eq (tgt := 360) hx hb dX12_leaves_8 (by decide) (fun c1 => absurd c1 (by decide)) (fun c1 => ?_)
      have hrm2 := hL2.room
      refine lv_aload_n hx hb dX12_leaves_11 rfl (lv_at hl 6 rfl) ?_
      refine lv_aload_n hx hb dX12_leaves_12 rfl (lv_at hl 6 rfl) ?_
      refine r_get (v := .ref (a 64)) hx hb hown hq hE hP 105 205 tFX12_105 (by decide) pw_1496 rfl dX12_leaves_13 ?_
      refine lv_aload_n hx hb dX12_leaves_16 rfl (lv_at hl 6 rfl) ?_
      refine r_get (v := .int (nI op2)) hx hb hown hq hE hP 102 707 tFX12_102 (by decide) pw_1969 rfl dX12_leaves_17 ?_
      refine lv_iconst (v := 1) hx hb dX12_leaves_20 (by decide) ?_
      refine lv_isub hx hb dX12_leaves_21 ?_
      refine lv_topi (fun x2 e3 => ?_)
      obtain rfl : x2 = nI (op2 - 1) := e3.trans (nI_subN (a := 1) (b := op2) (by omega))
      refine r_ldi (f := (B 64)) (j := (op2 - 1)) hx hb hE hP 64 (ma_64 G a _) rfl (by omega) (by decide) dX12_leaves_22 ?_
      refine lv_topi (fun x4 e5 => ?_)
      obtain rfl : x4 = nI (bf (op2 - 1)) := e5.trans hrm2.2.2.2.2.2.2.1
      refine r_put (v := (nI (bf (op2 - 1)))) (ty := .int) hx hb hown hq hE hP hD hS 111 698 tFX12_111 (by decide) pw_1964 (by decide) rfl rfl (ms_111 a _ _) dX12_leaves_23 (fun H locs hP hD hS => ?_)
      refine lv_aload_n hx hb dX12_leaves_26 rfl (lv_at hl 6 rfl) ?_
      refine r_get (v := .ref (a 52)) hx hb hown hq hE hP 88 168 tFX12_88 (by decide) pw_1483 rfl dX12_leaves_27 ?_
      refine lv_iload hx hb dX12_leaves_30 (lv_at hl 1 rfl) ?_
      refine r_ldi (f := (B 52)) (j := c2) hx hb hE hP 52 (ma_52 G a _) rfl (by omega) (by decide) dX12_leaves_32 ?_
      rcases hL2.up with ⟨hu1, hu2, hu3⟩ | ⟨p2, u2, hp1, hp2, hp3, hp4, hp5⟩
      · refine lv_topi (fun x6 e7 => ?_)
        obtain rfl : x6 = (-1) := e7.trans hu1
        exact absurd hlp2 (by rw [hu3]; exact Nat.not_succ_le_zero 0)
      · refine lv_topi (fun x8 e9 => ?_)
        obtain rfl : x8 = nI p2 := e9.trans hp2
        obtain ⟨kp, ekp, -, kp4, -⟩ := hPg.fs.knd hp1
        rcases (show kp = 41 ∨ kp = 35 ∨ kp = 36 ∨ (kp ≠ 41 ∧ kp ≠ 35 ∧ kp ≠ 36) by omega) with rfl | rfl | rfl | hk3
        · refine lv_istore (lv' := [(7, .int (nI p2)), (6, .int 1), (5, .int (nI c2)), (4, .int (nI b9)), (3, .int x), (2, .int 4), (1, .int (nI c9)), (0, .ref h0)]) hx hb dX12_leaves_33 hl (by decide) rfl (fun ls hl => ?_)
          refine lv_iload hx hb dX12_leaves_35 (lv_at hl 0 rfl) ?_
          refine lv_iconst (v := (-1)) hx hb dX12_leaves_37 (by decide) ?_
          refine lv_icmp_ne (tgt := 59) hx hb dX12_leaves_38 (by decide) (fun c10 => ?_) (fun c10 => absurd c10 (nI_m1 (by omega)))
          refine lv_iload hx hb dX12_leaves_59 (lv_at hl 0 rfl) ?_
          refine lv_iconst (v := (-1)) hx hb dX12_leaves_61 (by decide) ?_
          refine lv_icmp_ne (tgt := 108) hx hb dX12_leaves_62 (by decide) (fun c11 => ?_) (fun c11 => absurd c11 (nI_m1 (by omega)))
          refine lv_aload_n hx hb dX12_leaves_108 rfl (lv_at hl 7 rfl) ?_
          refine r_get (v := .ref (a 9)) hx hb hown hq hE hP 17 38 tFX12_17 (by decide) pw_1439 rfl dX12_leaves_109 ?_
          refine lv_iload hx hb dX12_leaves_112 (lv_at hl 0 rfl) ?_
          refine r_ldi (f := (B 9)) (j := p2) hx hb hE hP 9 (ma_9 G a _) rfl (by omega) (by decide) dX12_leaves_114 ?_
          refine lv_topi (fun x12 e13 => ?_)
          obtain rfl : x12 = 41 := e13.trans ((congrFun hw9 _).trans ekp)
          refine lv_bipush (v := 41) hx hb dX12_leaves_115 (by decide) ?_
          refine lv_icmp_ne (tgt := 149) hx hb dX12_leaves_117 (by decide) (fun c14 => absurd c14 (by decide)) (fun c14 => ?_)
          refine lv_iload hx hb dX12_leaves_120 (lv_at hl 2 rfl) ?_
          refine lv_aload_n hx hb dX12_leaves_122 rfl (lv_at hl 7 rfl) ?_
          refine r_get (v := .ref (a 14)) hx hb hown hq hE hP 22 53 tFX12_22 (by decide) pw_1444 rfl dX12_leaves_123 ?_
          refine lv_iload hx hb dX12_leaves_126 (lv_at hl 0 rfl) ?_
          refine r_ldi (f := (B 14)) (j := p2) hx hb hE hP 14 (ma_14 G a _) rfl (by omega) (by decide) dX12_leaves_128 ?_
          refine lv_icmp_ne (tgt := 149) hx hb dX12_leaves_129 (by decide) (fun c15 => ?_) (fun c15 => ?_)
          · refine lv_aload_n hx hb dX12_leaves_149 rfl (lv_at hl 7 rfl) ?_
            refine r_get (v := .ref (a 9)) hx hb hown hq hE hP 17 38 tFX12_17 (by decide) pw_1439 rfl dX12_leaves_150 ?_
            refine lv_iload hx hb dX12_leaves_153 (lv_at hl 0 rfl) ?_
            refine r_ldi (f := (B 9)) (j := p2) hx hb hE hP 9 (ma_9 G a _) rfl (by omega) (by decide) dX12_leaves_155 ?_
            refine lv_topi (fun x16 e17 => ?_)
            obtain rfl : x16 = 41 := e17.trans ((congrFun hw9 _).trans ekp)
            refine lv_bipush (v := 41) hx hb dX12_leaves_156 (by decide) ?_
            refine lv_icmp_ne (tgt := 311) hx hb dX12_leaves_158 (by decide) (fun c18 => absurd c18 (by decide)) (fun c18 => ?_)
            refine lv_iload_n hx hb dX12_leaves_161 rfl (lv_at hl 5 rfl) ?_
            refine lv_iconst (v := 1) hx hb dX12_leaves_162 (by decide) ?_
            refine lv_icmp_ne (tgt := 188) hx hb dX12_leaves_163 (by decide) (fun c19 => ?_) (fun c19 => absurd c19 (by decide))
            refine lv_iconst (v := (-1)) hx hb dX12_leaves_188 (by decide) ?_
            refine lv_istore (lv' := [(8, .int (-1)), (7, .int (nI p2)), (6, .int 1), (5, .int (nI c2)), (4, .int (nI b9)), (3, .int x), (2, .int 4), (1, .int (nI c9)), (0, .ref h0)]) hx hb dX12_leaves_189 hl (by decide) rfl (fun ls hl => ?_)
            refine lv_iload hx hb dX12_leaves_191 (lv_at hl 0 rfl) ?_
            refine lv_iconst (v := (-1)) hx hb dX12_leaves_193 (by decide) ?_
            refine lv_icmp_ne (tgt := 212) hx hb dX12_leaves_194 (by decide) (fun c20 => absurd c20 (by decide)) (fun c20 => ?_)
            refine lv_aload_n hx hb dX12_leaves_197 rfl (lv_at hl 8 rfl) ?_
            refine r_get (v := .ref (a 14)) hx hb hown hq hE hP 22 53 tFX12_22 (by decide) pw_1444 rfl dX12_leaves_198 ?_
            refine lv_iload hx hb dX12_leaves_201 (lv_at hl 1 rfl) ?_
            refine r_ldi (f := (B 14)) (j := p2) hx hb hE hP 14 (ma_14 G a _) rfl (by omega) (by decide) dX12_leaves_203 ?_
            refine lv_iconst (v := (-1)) hx hb dX12_leaves_204 (by decide) ?_
            refine lv_icmp_ne (tgt := 212) hx hb dX12_leaves_205 (by decide) (fun c21 => ?_) (fun c21 => ?_)
            · refine lv_iconst (v := 0) hx hb dX12_leaves_212 (by decide) ?_
              refine lv_istore (lv' := [(6, .int 0), (8, .int (-1)), (7, .int (nI p2)), (5, .int (nI c2)), (4, .int (nI b9)), (3, .int x), (2, .int 4), (1, .int (nI c9)), (0, .ref h0)]) hx hb dX12_leaves_213 hl (by decide) rfl (fun ls hl => ?_)
              refine lv_iload hx hb dX12_leaves_215 (lv_at hl 2 rfl) ?_
              refine lv_istore (lv' := [(5, .int (nI p2)), (6, .int 0), (8, .int (-1)), (7, .int (nI p2)), (4, .int (nI b9)), (3, .int x), (2, .int 4), (1, .int (nI c9)), (0, .ref h0)]) hx hb dX12_leaves_217 hl (by decide) rfl (fun ls hl => ?_)
              refine lv_iload hx hb dX12_leaves_219 (lv_at hl 2 rfl) ?_
              refine lv_iconst (v := (-1)) hx hb dX12_leaves_221 (by decide) ?_
              refine lv_icmp_eq (tgt := 293) hx hb dX12_leaves_222 (by decide) (fun c22 => ?_) (fun c22 => absurd c22 (by decide))
              refine lv_iload hx hb dX12_leaves_293 (lv_at hl 1 rfl) ?_
              refine lv_if_ne (tgt := 308) hx hb dX12_leaves_295 (by decide) (fun c23 => absurd c23 (by decide)) (fun c23 => ?_)
              refine lv_aload_n hx hb dX12_leaves_298 rfl (lv_at hl 8 rfl) ?_
              refine lv_iload hx hb dX12_leaves_299 (lv_at hl 3 rfl) ?_
              refine lv_iload_n hx hb dX12_leaves_301 rfl (lv_at hl 6 rfl) ?_
              refine lv_iload_n hx hb dX12_leaves_302 rfl (lv_at hl 5 rfl) ?_
              refine lv_iload hx hb dX12_leaves_303 (lv_at hl 4 rfl) ?_
              obtain ⟨vc, jc, hg1, hg2, hg4, hg5, hg6⟩ := hL2.last (x := x) (b := b9) (kd := 4) (uc := uc0) hp4 hp3 ekp (by rw [← hPg.r14 p2 hp1 (by rw [ekp]; decide)]; exact fun h => c15 h.symm) c21 ⟨hb1, Or.inr (Or.inr (Or.inr ⟨Or.inr rfl, hlp2⟩)), hrf⟩
              have hP : va_P G.1 pCl (mW G h0 a (upd (upd (upd (upd (upd (upd (upd (upd (upd (upd (upd F 102 (nI op2)) 111 (nI (bf (op2 - 1)))) 115 (nI wn2)) 116 (-1)) 117 (nI fu)) 118 rs0) 119 uc0) 125 nw) 126 isn) 102 (nI op2)) 115 (nI wn2)) (updA (updA (updA (updA B 63 (B 63)) 70 (B 70)) 71 (B 71)) 72 (B 72))) _ := hP
              have hD : va_D A (mW G h0 a (upd (upd (upd (upd (upd (upd (upd (upd (upd (upd (upd F 102 (nI op2)) 111 (nI (bf (op2 - 1)))) 115 (nI wn2)) 116 (-1)) 117 (nI fu)) 118 rs0) 119 uc0) 125 nw) 126 isn) 102 (nI op2)) 115 (nI wn2)) (updA (updA (updA (updA B 63 (B 63)) 70 (B 70)) 71 (B 71)) 72 (B 72))) := mW_D hD
              refine pc_V0 (G := G) (As := [.int (nI p2), .int 4, .int x, .int (nI b9)]) (rest := []) hx hb hml hown hq hE hX pX0_al hP hD hS hA hl.1 (R_waitsFor l G h0 a (upd (upd (upd (upd (upd (upd (upd (upd (upd F 102 (nI op2)) 111 (nI (bf (op2 - 1)))) 115 (nI wn2)) 116 (-1)) 117 (nI fu)) 118 rs0) 119 uc0) 125 nw) 126 isn) B p2 op2 wn2 b9 4 x (B 70) (B 71) (B 72) (B 63) (by omega) (by omega) (by omega) (by omega)) (gV pw_2043 pw_2044 pw_2045 pw_1523 pw_2024) hV_X12_waitsFor 0 9 rfl rfl rfl rfl (Nat.le_of_ble_eq_true rfl) dX12_leaves_305 ⟨Nat.le_of_ble_eq_true rfl, Nat.le_of_ble_eq_true rfl⟩ ⟨Nat.le_of_ble_eq_true rfl, Nat.le_of_ble_eq_true rfl⟩ (fun v26 u24 H locs hw25 hP hD hS => ?_)
              obtain ⟨wf27, rfl⟩ : ∃ z, z = u24 := ⟨_, rfl⟩
              obtain ⟨hw25, h28⟩ := hw25
              replace h28 : wf27 = upd (B 72) wn2 (nI b9) := h28
              obtain rfl : v26 = none := hw25
              have hP : va_P G.1 pCl (mW G h0 a (upd (upd (upd (upd (upd (upd (upd (upd (upd F 102 (nI op2)) 111 (nI (bf (op2 - 1)))) 115 (nI (wn2 + 1))) 116 (-1)) 117 (nI fu)) 118 rs0) 119 uc0) 125 ((B 14) p2)) 126 1) (updA (updA (updA (updA B 63 (upd (B 63) (op2 - 1) ((B 18) p2))) 70 (upd (B 70) wn2 4)) 71 (upd (B 71) wn2 x)) 72 wf27)) _ := mW_to (F := F) (l1 := [(102, (nI op2)), (111, (nI (bf (op2 - 1)))), (115, (nI wn2)), (116, (-1)), (117, (nI fu)), (118, rs0), (119, uc0), (125, nw), (126, isn), (102, (nI op2)), (115, (nI (wn2 + 1))), (125, (B 14 p2)), (126, 1)]) (l2 := [(102, (nI op2)), (111, (nI (bf (op2 - 1)))), (115, (nI (wn2 + 1))), (116, (-1)), (117, (nI fu)), (118, rs0), (119, uc0), (125, ((B 14) p2)), (126, 1)]) (V := [(nI op2), (nI (bf (op2 - 1))), (nI (wn2 + 1)), (-1), (nI fu), rs0, uc0, ((B 14) p2), 1, (nI op2), (nI (wn2 + 1)), ((B 14) p2), 1, (nI op2), (nI (bf (op2 - 1))), (nI (wn2 + 1)), (-1), (nI fu), rs0, uc0, ((B 14) p2), 1]) rfl rfl (show (updA (updA (updA (updA B 63 (upd (B 63) (op2 - 1) (B 18 p2))) 70 (upd (B 70) wn2 4)) 71 (upd (B 71) wn2 x)) 72 wf27) = (updA (updA (updA (updA B 63 (upd (B 63) (op2 - 1) ((B 18) p2))) 70 (upd (B 70) wn2 4)) 71 (upd (B 71) wn2 x)) 72 wf27) from updsA_eq2 (F := B) (l1 := [(63, (upd (B 63) (op2 - 1) (B 18 p2))), (70, (upd (B 70) wn2 4)), (71, (upd (B 71) wn2 x)), (72, wf27)]) (l2 := [(63, (upd (B 63) (op2 - 1) ((B 18) p2))), (70, (upd (B 70) wn2 4)), (71, (upd (B 71) wn2 x)), (72, wf27)]) (V := [(upd (B 63) (op2 - 1) ((B 18) p2)), (upd (B 70) wn2 4), (upd (B 71) wn2 x), wf27, (upd (B 63) (op2 - 1) ((B 18) p2)), (upd (B 70) wn2 4), (upd (B 71) wn2 x), wf27]) rfl rfl) hP
              have hD : va_D A (mW G h0 a (upd (upd (upd (upd (upd (upd (upd (upd (upd F 102 (nI op2)) 111 (nI (bf (op2 - 1)))) 115 (nI (wn2 + 1))) 116 (-1)) 117 (nI fu)) 118 rs0) 119 uc0) 125 ((B 14) p2)) 126 1) (updA (updA (updA (updA B 63 (upd (B 63) (op2 - 1) ((B 18) p2))) 70 (upd (B 70) wn2 4)) 71 (upd (B 71) wn2 x)) 72 wf27)) := mW_D hD
              refine W.widen (k := 0) (n := 0) (Nat.le_of_ble_eq_true rfl) (Nat.le_of_ble_eq_true rfl) ?_
              refine W.eq (g2 := F0 m 308 ls []) rfl ?_
              obtain rfl : wf27 = _ := h28
              have hP : va_P G.1 pCl (mW G h0 a (upd (upd (upd (upd (upd (upd (upd (upd (upd F 102 (nI op2)) 111 (nI (bf (op2 - 1)))) 115 (nI (wn2 + 1))) 116 (-1)) 117 (nI fu)) 118 rs0) 119 uc0) 125 ((B 14) p2)) 126 1) (updA (updA (updA (updA B 63 (upd (B 63) (op2 - 1) ((B 18) p2))) 70 (upd (B 70) wn2 4)) 71 (upd (B 71) wn2 x)) 72 (upd (B 72) wn2 (nI b9)))) _ := hP
              have hD : va_D A (mW G h0 a (upd (upd (upd (upd (upd (upd (upd (upd (upd F 102 (nI op2)) 111 (nI (bf (op2 - 1)))) 115 (nI (wn2 + 1))) 116 (-1)) 117 (nI fu)) 118 rs0) 119 uc0) 125 ((B 14) p2)) 126 1) (updA (updA (updA (updA B 63 (upd (B 63) (op2 - 1) ((B 18) p2))) 70 (upd (B 70) wn2 4)) 71 (upd (B 71) wn2 x)) 72 (upd (B 72) wn2 (nI b9)))) := mW_D hD
              refine lv_goto (tgt := 357) hx hb dX12_leaves_308 (by decide) ?_
              refine lv_goto (tgt := 6) hx hb dX12_leaves_357 (by decide) ?_
              refine lv_iload hx hb dX12_leaves_6 (lv_at hl 1 rfl) ?_
              refine lv_if_eq (tgt := 360) hx hb dX12_leaves_8 (by decide) (fun c29 => ?_) (fun c29 => absurd c29 (by decide))
              have hz30 : Nx Xs (updA (updA (updA (updA B 63 (upd (B 63) (op2 - 1) ((B 18) p2))) 70 (upd (B 70) wn2 4)) 71 (upd (B 71) wn2 x)) 72 (upd (B 72) wn2 (nI b9))) gh nd T nm wr lz dc fd md pr bk M rmm fu mu op2 (bf (op2 - 1)) (wn2 + 1) fu rd on idn fl ct ((-1) : Int32) ((B 14) p2) (1 : Int32) uc0 := (by rw [hg4]; exact hg6 _ (upd_eq.trans hg1) (fun i h => if_neg h))
              have hP : va_P G.1 pCl (mW G h0 a (upd (upd (upd (upd (upd (upd (upd (upd (upd F 102 (nI op2)) 111 (nI (bf (op2 - 1)))) 115 (nI (wn2 + 1))) 116 ((-1) : Int32)) 117 (nI fu)) 118 rs0) 119 uc0) 125 ((B 14) p2)) 126 (1 : Int32)) (updA (updA (updA (updA B 63 (upd (B 63) (op2 - 1) ((B 18) p2))) 70 (upd (B 70) wn2 4)) 71 (upd (B 71) wn2 x)) 72 (upd (B 72) wn2 (nI b9)))) _ := mW_to (F := F) (l1 := [(102, (nI op2)), (111, (nI (bf (op2 - 1)))), (115, (nI (wn2 + 1))), (116, (-1)), (117, (nI fu)), (118, rs0), (119, uc0), (125, ((B 14) p2)), (126, 1)]) (l2 := [(102, (nI op2)), (111, (nI (bf (op2 - 1)))), (115, (nI (wn2 + 1))), (116, ((-1) : Int32)), (117, (nI fu)), (118, rs0), (119, uc0), (125, ((B 14) p2)), (126, (1 : Int32))]) (V := [(nI op2), (nI (bf (op2 - 1))), (nI (wn2 + 1)), ((-1) : Int32), (nI fu), rs0, uc0, ((B 14) p2), (1 : Int32), (nI op2), (nI (bf (op2 - 1))), (nI (wn2 + 1)), ((-1) : Int32), (nI fu), rs0, uc0, ((B 14) p2), (1 : Int32)]) rfl rfl rfl hP
              have hD : va_D A (mW G h0 a (upd (upd (upd (upd (upd (upd (upd (upd (upd F 102 (nI op2)) 111 (nI (bf (op2 - 1)))) 115 (nI (wn2 + 1))) 116 ((-1) : Int32)) 117 (nI fu)) 118 rs0) 119 uc0) 125 ((B 14) p2)) 126 (1 : Int32)) (updA (updA (updA (updA B 63 (upd (B 63) (op2 - 1) ((B 18) p2))) 70 (upd (B 70) wn2 4)) 71 (upd (B 71) wn2 x)) 72 (upd (B 72) wn2 (nI b9)))) := mW_D hD
              exact W.vret hx hb hr (fun t9 ht9 hW9 => ⟨⟨_, (op2, (bf (op2 - 1)), (wn2 + 1), fu, ((-1) : Int32), ((B 14) p2), (1 : Int32), rs0, uc0, (updA (updA (updA (updA B 63 (upd (B 63) (op2 - 1) ((B 18) p2))) 70 (upd (B 70) wn2 4)) 71 (upd (B 71) wn2 x)) 72 (upd (B 72) wn2 (nI b9)))), rfl, ⟨rfl, hz30⟩, by rw [ht9]; exact hP, hD⟩, hS.F ht9⟩) hS.2.2 dX12_leaves_360
            · obtain ⟨kc2, hj1, hj2, hj3⟩ := hjk2
              have hj4 : JK 41 := (hp3.jk hPg.fs (by omega) hp1 ekp kp4 hj1 hj2 hj3).1
              have hj5 : (yy2 (op2 - 1)).1.2.1 = u2.1.2.1 := (hp3.jk hPg.fs (by omega) hp1 ekp kp4 hj1 hj2 hj3).2.1 (by omega) (by omega)
              obtain ⟨hm1, hm2⟩ := hL2.mv2 hp4 hp3 ekp kp4 (fun _ h => c15 h.symm)
              refine lv_iconst (v := 1) hx hb dX12_leaves_208 (by decide) ?_
              refine lv_goto (tgt := 213) hx hb dX12_leaves_209 (by decide) ?_
              refine lv_istore (lv' := [(6, .int 1), (8, .int (-1)), (7, .int (nI p2)), (5, .int (nI c2)), (4, .int (nI b9)), (3, .int x), (2, .int 4), (1, .int (nI c9)), (0, .ref h0)]) hx hb dX12_leaves_213 hl (by decide) rfl (fun ls hl => ?_)
              refine lv_iload hx hb dX12_leaves_215 (lv_at hl 2 rfl) ?_
              refine lv_istore (lv' := [(5, .int (nI p2)), (6, .int 1), (8, .int (-1)), (7, .int (nI p2)), (4, .int (nI b9)), (3, .int x), (2, .int 4), (1, .int (nI c9)), (0, .ref h0)]) hx hb dX12_leaves_217 hl (by decide) rfl (fun ls hl => ?_)
              refine lv_iload hx hb dX12_leaves_219 (lv_at hl 2 rfl) ?_
              refine lv_iconst (v := (-1)) hx hb dX12_leaves_221 (by decide) ?_
              refine lv_icmp_eq (tgt := 293) hx hb dX12_leaves_222 (by decide) (fun c31 => ?_) (fun c31 => absurd c31 (by decide))
              refine lv_iload hx hb dX12_leaves_293 (lv_at hl 1 rfl) ?_
              refine lv_if_ne (tgt := 308) hx hb dX12_leaves_295 (by decide) (fun c32 => ?_) (fun c32 => absurd c32 (by decide))
              refine lv_goto (tgt := 357) hx hb dX12_leaves_308 (by decide) ?_
              refine lv_goto (tgt := 6) hx hb dX12_leaves_357 (by decide) ?_
              have hr33 := hm1.room
              have hP : va_P G.1 pCl (mW G h0 a (upd (upd (upd (upd (upd (upd (upd (upd (upd F 102 (nI op2)) 111 (nI (bf (op2 - 1)))) 115 (nI wn2)) 116 (-1)) 117 (nI fu)) 118 rs0) 119 uc0) 125 nw) 126 isn) B) _ := hP
              have hD : va_D A (mW G h0 a (upd (upd (upd (upd (upd (upd (upd (upd (upd F 102 (nI op2)) 111 (nI (bf (op2 - 1)))) 115 (nI wn2)) 116 (-1)) 117 (nI fu)) 118 rs0) 119 uc0) 125 nw) 126 isn) B) := mW_D hD
              exact ih_o (400 * (100 - op2) + gh 1 p2) op2 wn2 p2 (yyU yy2 (op2 - 1) u2) (nI (bf (op2 - 1))) _ _ _ (by omega) (by omega) hm1 ⟨rfl, hr33.2.2.2.2.2.2.2.1, hr33.1, hr33.2.1, hr33.2.2.1, hr33.2.2.2.2.1⟩ (by rw [hm2 rfl]; exact hlp2) ⟨_, ekp, kp4, hj4⟩ hP hD hS (lv_sub hl [1, 0, 4, 5, 6, 7, 8] rfl)
          · obtain ⟨kc2, hj1, hj2, hj3⟩ := hjk2
            have hj4 : JK 41 := (hp3.jk hPg.fs (by omega) hp1 ekp kp4 hj1 hj2 hj3).1
            have hj5 : (yy2 (op2 - 1)).1.2.1 = u2.1.2.1 := (hp3.jk hPg.fs (by omega) hp1 ekp kp4 hj1 hj2 hj3).2.1 (by omega) (by omega)
            obtain ⟨hw1, hm1, hm2⟩ := hL2.mv3 hp4 hp3 ekp c15.symm
            refine lv_aload_n hx hb dX12_leaves_132 rfl (lv_at hl 7 rfl) ?_
            refine lv_dup hx hb dX12_leaves_133 rfl ?_
            refine r_get (v := .int (nI wn2)) hx hb hown hq hE hP 115 713 tFX12_115 (by decide) pw_1970 rfl dX12_leaves_134 ?_
            refine lv_iconst (v := 1) hx hb dX12_leaves_137 (by decide) ?_
            refine lv_isub hx hb dX12_leaves_138 ?_
            refine lv_topi (fun x34 e35 => ?_)
            obtain rfl : x34 = nI (wn2 - 1) := e35.trans (nI_subN (a := 1) (b := wn2) (by omega))
            refine r_put (v := (nI (wn2 - 1))) (ty := .int) hx hb hown hq hE hP hD hS 115 713 tFX12_115 (by decide) pw_1970 (by decide) rfl rfl (ms_115 a _ _) dX12_leaves_139 (fun H locs hP hD hS => ?_)
            refine lv_iload hx hb dX12_leaves_142 (lv_at hl 0 rfl) ?_
            refine lv_istore (lv' := [(5, .int (nI p2)), (7, .int (nI p2)), (6, .int 1), (4, .int (nI b9)), (3, .int x), (2, .int 4), (1, .int (nI c9)), (0, .ref h0)]) hx hb dX12_leaves_144 hl (by decide) rfl (fun ls hl => ?_)
            refine lv_goto (tgt := 357) hx hb dX12_leaves_146 (by decide) ?_
            refine lv_goto (tgt := 6) hx hb dX12_leaves_357 (by decide) ?_
            have hr36 := hm1.room
            have hP : va_P G.1 pCl (mW G h0 a (upd (upd (upd (upd (upd (upd (upd (upd (upd F 102 (nI op2)) 111 (nI (bf (op2 - 1)))) 115 (nI (wn2 - 1))) 116 (-1)) 117 (nI fu)) 118 rs0) 119 uc0) 125 nw) 126 isn) B) _ := hP
            have hD : va_D A (mW G h0 a (upd (upd (upd (upd (upd (upd (upd (upd (upd F 102 (nI op2)) 111 (nI (bf (op2 - 1)))) 115 (nI (wn2 - 1))) 116 (-1)) 117 (nI fu)) 118 rs0) 119 uc0) 125 nw) 126 isn) B) := mW_D hD
            exact ih_o (400 * (100 - op2) + gh 1 p2) op2 (wn2 - 1) p2 (yyU yy2 (op2 - 1) u2) (nI (bf (op2 - 1))) _ _ _ (by omega) (by omega) hm1 ⟨rfl, hr36.2.2.2.2.2.2.2.1, hr36.1, hr36.2.1, hr36.2.2.1, hr36.2.2.2.2.1⟩ (by rw [hm2]; exact hlp2) ⟨_, ekp, kp4, hj4⟩ hP hD hS (lv_sub hl [2, 0, 3, 4, 5, 6, 7] rfl)
        · refine lv_istore (lv' := [(7, .int (nI p2)), (6, .int 1), (5, .int (nI c2)), (4, .int (nI b9)), (3, .int x), (2, .int 4), (1, .int (nI c9)), (0, .ref h0)]) hx hb dX12_leaves_33 hl (by decide) rfl (fun ls hl => ?_)
          refine lv_iload hx hb dX12_leaves_35 (lv_at hl 0 rfl) ?_
          refine lv_iconst (v := (-1)) hx hb dX12_leaves_37 (by decide) ?_
          refine lv_icmp_ne (tgt := 59) hx hb dX12_leaves_38 (by decide) (fun c37 => ?_) (fun c37 => absurd c37 (nI_m1 (by omega)))
          refine lv_iload hx hb dX12_leaves_59 (lv_at hl 0 rfl) ?_
          refine lv_iconst (v := (-1)) hx hb dX12_leaves_61 (by decide) ?_
          refine lv_icmp_ne (tgt := 108) hx hb dX12_leaves_62 (by decide) (fun c38 => ?_) (fun c38 => absurd c38 (nI_m1 (by omega)))
          refine lv_aload_n hx hb dX12_leaves_108 rfl (lv_at hl 7 rfl) ?_
          refine r_get (v := .ref (a 9)) hx hb hown hq hE hP 17 38 tFX12_17 (by decide) pw_1439 rfl dX12_leaves_109 ?_
          refine lv_iload hx hb dX12_leaves_112 (lv_at hl 0 rfl) ?_
          refine r_ldi (f := (B 9)) (j := p2) hx hb hE hP 9 (ma_9 G a _) rfl (by omega) (by decide) dX12_leaves_114 ?_
          refine lv_topi (fun x39 e40 => ?_)
          obtain rfl : x39 = 35 := e40.trans ((congrFun hw9 _).trans ekp)
          refine lv_bipush (v := 41) hx hb dX12_leaves_115 (by decide) ?_
          refine lv_icmp_ne (tgt := 149) hx hb dX12_leaves_117 (by decide) (fun c41 => ?_) (fun c41 => absurd c41 (by decide))
          refine lv_aload_n hx hb dX12_leaves_149 rfl (lv_at hl 7 rfl) ?_
          refine r_get (v := .ref (a 9)) hx hb hown hq hE hP 17 38 tFX12_17 (by decide) pw_1439 rfl dX12_leaves_150 ?_
          refine lv_iload hx hb dX12_leaves_153 (lv_at hl 0 rfl) ?_
          refine r_ldi (f := (B 9)) (j := p2) hx hb hE hP 9 (ma_9 G a _) rfl (by omega) (by decide) dX12_leaves_155 ?_
          refine lv_topi (fun x42 e43 => ?_)
          obtain rfl : x42 = 35 := e43.trans ((congrFun hw9 _).trans ekp)
          refine lv_bipush (v := 41) hx hb dX12_leaves_156 (by decide) ?_
          refine lv_icmp_ne (tgt := 311) hx hb dX12_leaves_158 (by decide) (fun c44 => ?_) (fun c44 => absurd c44 (by decide))
          refine lv_aload_n hx hb dX12_leaves_311 rfl (lv_at hl 7 rfl) ?_
          refine r_get (v := .ref (a 9)) hx hb hown hq hE hP 17 38 tFX12_17 (by decide) pw_1439 rfl dX12_leaves_312 ?_
          refine lv_iload hx hb dX12_leaves_315 (lv_at hl 0 rfl) ?_
          refine r_ldi (f := (B 9)) (j := p2) hx hb hE hP 9 (ma_9 G a _) rfl (by omega) (by decide) dX12_leaves_317 ?_
          refine lv_topi (fun x45 e46 => ?_)
          obtain rfl : x45 = 35 := e46.trans ((congrFun hw9 _).trans ekp)
          refine lv_bipush (v := 35) hx hb dX12_leaves_318 (by decide) ?_
          refine lv_icmp_eq (tgt := 335) hx hb dX12_leaves_320 (by decide) (fun c47 => ?_) (fun c47 => absurd c47 (by decide))
          refine lv_iload_n hx hb dX12_leaves_335 rfl (lv_at hl 5 rfl) ?_
          refine lv_iconst (v := 3) hx hb dX12_leaves_336 (by decide) ?_
          refine lv_icmp_lt (tgt := 353) hx hb dX12_leaves_337 (by decide) (fun c48 => absurd c48 (by decide)) (fun c48 => ?_)
          refine lv_aload_n hx hb dX12_leaves_340 rfl (lv_at hl 7 rfl) ?_
          refine lv_iload hx hb dX12_leaves_341 (lv_at hl 0 rfl) ?_
          refine lv_iload_n hx hb dX12_leaves_343 rfl (lv_at hl 5 rfl) ?_
          obtain ⟨hg1, hg2, hg3, hg6⟩ := hL2.brk (uc := uc0) hp4 hp3 ekp (by omega)
          have hka : OrY (B 12 p2) 12000 := by
            rw [hw12]
            obtain ⟨k2, e2, _, _, hs⟩ := hPg.fs.knd hp1
            have e9 : k2 = 35 := (nI_eq (by omega) (by omega)).mp (e2.symm.trans ekp)
            subst e9
            exact (sok.or (hs 1 (by omega) (by omega)) (by decide)).imp id (fun ⟨q, q1, q2⟩ => ⟨q, q1, by omega⟩)
          have hP : va_P G.1 pCl (mW G h0 a (upd (upd (upd (upd (upd (upd (upd (upd (upd (upd (upd (upd (upd (upd F 102 (nI op2)) 111 (nI (bf (op2 - 1)))) 115 (nI wn2)) 116 (-1)) 117 (nI fu)) 118 rs0) 119 uc0) 125 nw) 126 isn) 102 (nI op2)) 116 (-1)) 117 (nI fu)) 125 nw) 126 isn) (updA B 63 (B 63))) _ := hP
          have hD : va_D A (mW G h0 a (upd (upd (upd (upd (upd (upd (upd (upd (upd (upd (upd (upd (upd (upd F 102 (nI op2)) 111 (nI (bf (op2 - 1)))) 115 (nI wn2)) 116 (-1)) 117 (nI fu)) 118 rs0) 119 uc0) 125 nw) 126 isn) 102 (nI op2)) 116 (-1)) 117 (nI fu)) 125 nw) 126 isn) (updA B 63 (B 63))) := mW_D hD
          refine pc_V0 (G := G) (As := [.int (nI p2), .int 4]) (rest := []) hx hb hml hown hq hE hX pX0_al hP hD hS hA hl.1 (R_loops l G h0 a (upd (upd (upd (upd (upd (upd (upd (upd (upd F 102 (nI op2)) 111 (nI (bf (op2 - 1)))) 115 (nI wn2)) 116 (-1)) 117 (nI fu)) 118 rs0) 119 uc0) 125 nw) 126 isn) B p2 35 op2 u2.1.1 fu 4 (-1) nw isn (B 63) (by omega) (by omega) (by omega) hg1 (by omega) ((congrFun hw9 _).trans ekp) (by omega) hka) (gV pw_2046 pw_2047 pw_2048 pw_1523 pw_2032) hV_X12_loops 0 9 rfl rfl rfl rfl (Nat.le_of_ble_eq_true rfl) dX12_leaves_344 ⟨Nat.le_of_ble_eq_true rfl, Nat.le_of_ble_eq_true rfl⟩ ⟨Nat.le_of_ble_eq_true rfl, Nat.le_of_ble_eq_true rfl⟩ (fun v51 u49 H locs hw50 hP hD hS => ?_)
          obtain ⟨fu52, en53, nw54, is55, csc56⟩ := u49
          obtain ⟨hw50, h57, h58, h59⟩ := hw50
          replace h57 : ∀ i : Nat, i ≠ op2 - 1 → csc56 i = (B 63) i := h57
          replace h58 : If (4 = (3 : Int32)) (csc56 (op2 - 1) = nI u2.1.1 ∧ nw54 = nI p2 ∧ is55 = 0 ∧ en53 = (-1) ∧ fu52 = fu) := h58
          replace h59 : If (¬ 4 = (3 : Int32)) (csc56 (op2 - 1) = nI (u2.1.1 + lpD B p2) ∧ ((35 = 36 ∧ ¬ (B 14) p2 = -1 ∧ nw54 = (B 14) p2 ∧ is55 = 1 ∧ en53 = (-1) ∧ fu52 = fu) ∨ en53 = 2 ∨ (fu52 + 1 = fu ∧ en53 = (-1) ∧ is55 = 1 ∧ nw54 = lkF B p2))) := h59
          obtain rfl : v51 = none := hw50
          have hP : va_P G.1 pCl (mW G h0 a (upd (upd (upd (upd (upd (upd (upd (upd (upd F 102 (nI op2)) 111 (nI (bf (op2 - 1)))) 115 (nI wn2)) 116 en53) 117 (nI fu52)) 118 rs0) 119 uc0) 125 nw54) 126 is55) (updA B 63 csc56)) _ := mW_to (F := F) (l1 := [(102, (nI op2)), (111, (nI (bf (op2 - 1)))), (115, (nI wn2)), (116, (-1)), (117, (nI fu)), (118, rs0), (119, uc0), (125, nw), (126, isn), (102, (nI op2)), (116, en53), (117, (nI fu52)), (125, nw54), (126, is55)]) (l2 := [(102, (nI op2)), (111, (nI (bf (op2 - 1)))), (115, (nI wn2)), (116, en53), (117, (nI fu52)), (118, rs0), (119, uc0), (125, nw54), (126, is55)]) (V := [(nI op2), (nI (bf (op2 - 1))), (nI wn2), en53, (nI fu52), rs0, uc0, nw54, is55, (nI op2), en53, (nI fu52), nw54, is55, (nI op2), (nI (bf (op2 - 1))), (nI wn2), en53, (nI fu52), rs0, uc0, nw54, is55]) rfl rfl rfl hP
          have hD : va_D A (mW G h0 a (upd (upd (upd (upd (upd (upd (upd (upd (upd F 102 (nI op2)) 111 (nI (bf (op2 - 1)))) 115 (nI wn2)) 116 en53) 117 (nI fu52)) 118 rs0) 119 uc0) 125 nw54) 126 is55) (updA B 63 csc56)) := mW_D hD
          refine W.widen (k := 0) (n := 0) (Nat.le_of_ble_eq_true rfl) (Nat.le_of_ble_eq_true rfl) ?_
          refine W.eq (g2 := F0 m 347 ls []) rfl ?_
          refine lv_iconst (v := 0) hx hb dX12_leaves_347 (by decide) ?_
          refine lv_istore (lv' := [(6, .int 0), (7, .int (nI p2)), (5, .int (nI c2)), (4, .int (nI b9)), (3, .int x), (2, .int 4), (1, .int (nI c9)), (0, .ref h0)]) hx hb dX12_leaves_348 hl (by decide) rfl (fun ls hl => ?_)
          refine lv_goto (tgt := 357) hx hb dX12_leaves_350 (by decide) ?_
          refine lv_goto (tgt := 6) hx hb dX12_leaves_357 (by decide) ?_
          refine lv_iload hx hb dX12_leaves_6 (lv_at hl 0 rfl) ?_
          refine lv_if_eq (tgt := 360) hx hb dX12_leaves_8 (by decide) (fun c60 => ?_) (fun c60 => absurd c60 (by decide))
          have hz61 : Nx Xs (updA B 63 csc56) gh nd T nm wr lz dc fd md pr bk M rmm fu mu op2 (bf (op2 - 1)) wn2 fu52 rd on idn fl ct en53 nw54 is55 uc0 := (by
      obtain ⟨z1, z2⟩ := h59 (by decide)
      obtain ⟨kc2, hj1, hj2, hj3⟩ := hjk2
      have hcs : csc56 (op2 - 1) = nI (lpE Xs p2 u2.1 35).1 := by rw [z1]; exact lpD_ok hPg hp1 ekp (by omega) rfl
      obtain ⟨y1, jl, y2, y3⟩ := hL2.cont (uc := uc0) hp4 hp3 ekp (by omega) hj1 hj2 hj3 csc56 hcs h57
      rcases z2 with ⟨x1, x2, x3, x4, x5, x6⟩ | x1 | ⟨x1, x2, x3, x4⟩
      · obtain ⟨jn, jn1, jn2⟩ := c14_ok hPg hp1 ekp (by omega) x2 x1
        rw [x3, x4, x5, x6, jn1]; exact y1 jn x1 ((hPg.r14 p2 hp1 (by rw [ekp]; decide)).symm.trans jn1) (by omega)
      · exact Ln.stop (Z := updA B 63 csc56) hL2 (Sta.up Sta.rfl (by omega)) hL2.2.1 (by rw [x1]; decide) (fun z => by rw [x1] at z; exact absurd z (by decide))
      · rw [x2, x3, x4, y2]; exact y3 _ x1)
          have hP : va_P G.1 pCl (mW G h0 a (upd (upd (upd (upd (upd (upd (upd (upd (upd F 102 (nI op2)) 111 (nI (bf (op2 - 1)))) 115 (nI wn2)) 116 en53) 117 (nI fu52)) 118 rs0) 119 uc0) 125 nw54) 126 is55) (updA B 63 csc56)) _ := hP
          have hD : va_D A (mW G h0 a (upd (upd (upd (upd (upd (upd (upd (upd (upd F 102 (nI op2)) 111 (nI (bf (op2 - 1)))) 115 (nI wn2)) 116 en53) 117 (nI fu52)) 118 rs0) 119 uc0) 125 nw54) 126 is55) (updA B 63 csc56)) := mW_D hD
          exact W.vret hx hb hr (fun t9 ht9 hW9 => ⟨⟨_, (op2, (bf (op2 - 1)), wn2, fu52, en53, nw54, is55, rs0, uc0, (updA B 63 csc56)), rfl, ⟨rfl, hz61⟩, by rw [ht9]; exact hP, hD⟩, hS.F ht9⟩) hS.2.2 dX12_leaves_360
        · refine lv_istore (lv' := [(7, .int (nI p2)), (6, .int 1), (5, .int (nI c2)), (4, .int (nI b9)), (3, .int x), (2, .int 4), (1, .int (nI c9)), (0, .ref h0)]) hx hb dX12_leaves_33 hl (by decide) rfl (fun ls hl => ?_)
          refine lv_iload hx hb dX12_leaves_35 (lv_at hl 0 rfl) ?_
          refine lv_iconst (v := (-1)) hx hb dX12_leaves_37 (by decide) ?_
          refine lv_icmp_ne (tgt := 59) hx hb dX12_leaves_38 (by decide) (fun c62 => ?_) (fun c62 => absurd c62 (nI_m1 (by omega)))
          refine lv_iload hx hb dX12_leaves_59 (lv_at hl 0 rfl) ?_
          refine lv_iconst (v := (-1)) hx hb dX12_leaves_61 (by decide) ?_
          refine lv_icmp_ne (tgt := 108) hx hb dX12_leaves_62 (by decide) (fun c63 => ?_) (fun c63 => absurd c63 (nI_m1 (by omega)))
          refine lv_aload_n hx hb dX12_leaves_108 rfl (lv_at hl 7 rfl) ?_
          refine r_get (v := .ref (a 9)) hx hb hown hq hE hP 17 38 tFX12_17 (by decide) pw_1439 rfl dX12_leaves_109 ?_
          refine lv_iload hx hb dX12_leaves_112 (lv_at hl 0 rfl) ?_
          refine r_ldi (f := (B 9)) (j := p2) hx hb hE hP 9 (ma_9 G a _) rfl (by omega) (by decide) dX12_leaves_114 ?_
          refine lv_topi (fun x64 e65 => ?_)
          obtain rfl : x64 = 36 := e65.trans ((congrFun hw9 _).trans ekp)
          refine lv_bipush (v := 41) hx hb dX12_leaves_115 (by decide) ?_
          refine lv_icmp_ne (tgt := 149) hx hb dX12_leaves_117 (by decide) (fun c66 => ?_) (fun c66 => absurd c66 (by decide))
          refine lv_aload_n hx hb dX12_leaves_149 rfl (lv_at hl 7 rfl) ?_
          refine r_get (v := .ref (a 9)) hx hb hown hq hE hP 17 38 tFX12_17 (by decide) pw_1439 rfl dX12_leaves_150 ?_
          refine lv_iload hx hb dX12_leaves_153 (lv_at hl 0 rfl) ?_
          refine r_ldi (f := (B 9)) (j := p2) hx hb hE hP 9 (ma_9 G a _) rfl (by omega) (by decide) dX12_leaves_155 ?_
          refine lv_topi (fun x67 e68 => ?_)
          obtain rfl : x67 = 36 := e68.trans ((congrFun hw9 _).trans ekp)
          refine lv_bipush (v := 41) hx hb dX12_leaves_156 (by decide) ?_
          refine lv_icmp_ne (tgt := 311) hx hb dX12_leaves_158 (by decide) (fun c69 => ?_) (fun c69 => absurd c69 (by decide))
          refine lv_aload_n hx hb dX12_leaves_311 rfl (lv_at hl 7 rfl) ?_
          refine r_get (v := .ref (a 9)) hx hb hown hq hE hP 17 38 tFX12_17 (by decide) pw_1439 rfl dX12_leaves_312 ?_
          refine lv_iload hx hb dX12_leaves_315 (lv_at hl 0 rfl) ?_
          refine r_ldi (f := (B 9)) (j := p2) hx hb hE hP 9 (ma_9 G a _) rfl (by omega) (by decide) dX12_leaves_317 ?_
          refine lv_topi (fun x70 e71 => ?_)
          obtain rfl : x70 = 36 := e71.trans ((congrFun hw9 _).trans ekp)
          refine lv_bipush (v := 35) hx hb dX12_leaves_318 (by decide) ?_
          refine lv_icmp_eq (tgt := 335) hx hb dX12_leaves_320 (by decide) (fun c72 => absurd c72 (by decide)) (fun c72 => ?_)
          refine lv_aload_n hx hb dX12_leaves_323 rfl (lv_at hl 7 rfl) ?_
          refine r_get (v := .ref (a 9)) hx hb hown hq hE hP 17 38 tFX12_17 (by decide) pw_1439 rfl dX12_leaves_324 ?_
          refine lv_iload hx hb dX12_leaves_327 (lv_at hl 0 rfl) ?_
          refine r_ldi (f := (B 9)) (j := p2) hx hb hE hP 9 (ma_9 G a _) rfl (by omega) (by decide) dX12_leaves_329 ?_
          refine lv_topi (fun x73 e74 => ?_)
          obtain rfl : x73 = 36 := e74.trans ((congrFun hw9 _).trans ekp)
          refine lv_bipush (v := 36) hx hb dX12_leaves_330 (by decide) ?_
          refine lv_icmp_ne (tgt := 353) hx hb dX12_leaves_332 (by decide) (fun c75 => absurd c75 (by decide)) (fun c75 => ?_)
          refine lv_iload_n hx hb dX12_leaves_335 rfl (lv_at hl 5 rfl) ?_
          refine lv_iconst (v := 3) hx hb dX12_leaves_336 (by decide) ?_
          refine lv_icmp_lt (tgt := 353) hx hb dX12_leaves_337 (by decide) (fun c76 => absurd c76 (by decide)) (fun c76 => ?_)
          refine lv_aload_n hx hb dX12_leaves_340 rfl (lv_at hl 7 rfl) ?_
          refine lv_iload hx hb dX12_leaves_341 (lv_at hl 0 rfl) ?_
          refine lv_iload_n hx hb dX12_leaves_343 rfl (lv_at hl 5 rfl) ?_
          obtain ⟨hg1, hg2, hg3, hg6⟩ := hL2.brk (uc := uc0) hp4 hp3 ekp (by omega)
          have hka : OrY (B 12 p2) 12000 := by
            rw [hw12]
            obtain ⟨k2, e2, _, _, hs⟩ := hPg.fs.knd hp1
            have e9 : k2 = 36 := (nI_eq (by omega) (by omega)).mp (e2.symm.trans ekp)
            subst e9
            exact (sok.or (hs 1 (by omega) (by omega)) (by decide)).imp id (fun ⟨q, q1, q2⟩ => ⟨q, q1, by omega⟩)
          have hP : va_P G.1 pCl (mW G h0 a (upd (upd (upd (upd (upd (upd (upd (upd (upd (upd (upd (upd (upd (upd F 102 (nI op2)) 111 (nI (bf (op2 - 1)))) 115 (nI wn2)) 116 (-1)) 117 (nI fu)) 118 rs0) 119 uc0) 125 nw) 126 isn) 102 (nI op2)) 116 (-1)) 117 (nI fu)) 125 nw) 126 isn) (updA B 63 (B 63))) _ := hP
          have hD : va_D A (mW G h0 a (upd (upd (upd (upd (upd (upd (upd (upd (upd (upd (upd (upd (upd (upd F 102 (nI op2)) 111 (nI (bf (op2 - 1)))) 115 (nI wn2)) 116 (-1)) 117 (nI fu)) 118 rs0) 119 uc0) 125 nw) 126 isn) 102 (nI op2)) 116 (-1)) 117 (nI fu)) 125 nw) 126 isn) (updA B 63 (B 63))) := mW_D hD
          refine pc_V0 (G := G) (As := [.int (nI p2), .int 4]) (rest := []) hx hb hml hown hq hE hX pX0_al hP hD hS hA hl.1 (R_loops l G h0 a (upd (upd (upd (upd (upd (upd (upd (upd (upd F 102 (nI op2)) 111 (nI (bf (op2 - 1)))) 115 (nI wn2)) 116 (-1)) 117 (nI fu)) 118 rs0) 119 uc0) 125 nw) 126 isn) B p2 36 op2 u2.1.1 fu 4 (-1) nw isn (B 63) (by omega) (by omega) (by omega) hg1 (by omega) ((congrFun hw9 _).trans ekp) (by omega) hka) (gV pw_2046 pw_2047 pw_2048 pw_1523 pw_2032) hV_X12_loops 0 9 rfl rfl rfl rfl (Nat.le_of_ble_eq_true rfl) dX12_leaves_344 ⟨Nat.le_of_ble_eq_true rfl, Nat.le_of_ble_eq_true rfl⟩ ⟨Nat.le_of_ble_eq_true rfl, Nat.le_of_ble_eq_true rfl⟩ (fun v79 u77 H locs hw78 hP hD hS => ?_)
          obtain ⟨fu80, en81, nw82, is83, csc84⟩ := u77
          obtain ⟨hw78, h85, h86, h87⟩ := hw78
          replace h85 : ∀ i : Nat, i ≠ op2 - 1 → csc84 i = (B 63) i := h85
          replace h86 : If (4 = (3 : Int32)) (csc84 (op2 - 1) = nI u2.1.1 ∧ nw82 = nI p2 ∧ is83 = 0 ∧ en81 = (-1) ∧ fu80 = fu) := h86
          replace h87 : If (¬ 4 = (3 : Int32)) (csc84 (op2 - 1) = nI (u2.1.1 + lpD B p2) ∧ ((36 = 36 ∧ ¬ (B 14) p2 = -1 ∧ nw82 = (B 14) p2 ∧ is83 = 1 ∧ en81 = (-1) ∧ fu80 = fu) ∨ en81 = 2 ∨ (fu80 + 1 = fu ∧ en81 = (-1) ∧ is83 = 1 ∧ nw82 = lkF B p2))) := h87
          obtain rfl : v79 = none := hw78
          have hP : va_P G.1 pCl (mW G h0 a (upd (upd (upd (upd (upd (upd (upd (upd (upd F 102 (nI op2)) 111 (nI (bf (op2 - 1)))) 115 (nI wn2)) 116 en81) 117 (nI fu80)) 118 rs0) 119 uc0) 125 nw82) 126 is83) (updA B 63 csc84)) _ := mW_to (F := F) (l1 := [(102, (nI op2)), (111, (nI (bf (op2 - 1)))), (115, (nI wn2)), (116, (-1)), (117, (nI fu)), (118, rs0), (119, uc0), (125, nw), (126, isn), (102, (nI op2)), (116, en81), (117, (nI fu80)), (125, nw82), (126, is83)]) (l2 := [(102, (nI op2)), (111, (nI (bf (op2 - 1)))), (115, (nI wn2)), (116, en81), (117, (nI fu80)), (118, rs0), (119, uc0), (125, nw82), (126, is83)]) (V := [(nI op2), (nI (bf (op2 - 1))), (nI wn2), en81, (nI fu80), rs0, uc0, nw82, is83, (nI op2), en81, (nI fu80), nw82, is83, (nI op2), (nI (bf (op2 - 1))), (nI wn2), en81, (nI fu80), rs0, uc0, nw82, is83]) rfl rfl rfl hP
          have hD : va_D A (mW G h0 a (upd (upd (upd (upd (upd (upd (upd (upd (upd F 102 (nI op2)) 111 (nI (bf (op2 - 1)))) 115 (nI wn2)) 116 en81) 117 (nI fu80)) 118 rs0) 119 uc0) 125 nw82) 126 is83) (updA B 63 csc84)) := mW_D hD
          refine W.widen (k := 0) (n := 0) (Nat.le_of_ble_eq_true rfl) (Nat.le_of_ble_eq_true rfl) ?_
          refine W.eq (g2 := F0 m 347 ls []) rfl ?_
          refine lv_iconst (v := 0) hx hb dX12_leaves_347 (by decide) ?_
          refine lv_istore (lv' := [(6, .int 0), (7, .int (nI p2)), (5, .int (nI c2)), (4, .int (nI b9)), (3, .int x), (2, .int 4), (1, .int (nI c9)), (0, .ref h0)]) hx hb dX12_leaves_348 hl (by decide) rfl (fun ls hl => ?_)
          refine lv_goto (tgt := 357) hx hb dX12_leaves_350 (by decide) ?_
          refine lv_goto (tgt := 6) hx hb dX12_leaves_357 (by decide) ?_
          refine lv_iload hx hb dX12_leaves_6 (lv_at hl 0 rfl) ?_
          refine lv_if_eq (tgt := 360) hx hb dX12_leaves_8 (by decide) (fun c88 => ?_) (fun c88 => absurd c88 (by decide))
          have hz89 : Nx Xs (updA B 63 csc84) gh nd T nm wr lz dc fd md pr bk M rmm fu mu op2 (bf (op2 - 1)) wn2 fu80 rd on idn fl ct en81 nw82 is83 uc0 := (by
      obtain ⟨z1, z2⟩ := h87 (by decide)
      obtain ⟨kc2, hj1, hj2, hj3⟩ := hjk2
      have hcs : csc84 (op2 - 1) = nI (lpE Xs p2 u2.1 36).1 := by rw [z1]; exact lpD_ok hPg hp1 ekp (by omega) rfl
      obtain ⟨y1, jl, y2, y3⟩ := hL2.cont (uc := uc0) hp4 hp3 ekp (by omega) hj1 hj2 hj3 csc84 hcs h85
      rcases z2 with ⟨x1, x2, x3, x4, x5, x6⟩ | x1 | ⟨x1, x2, x3, x4⟩
      · obtain ⟨jn, jn1, jn2⟩ := c14_ok hPg hp1 ekp (by omega) x2 x1
        rw [x3, x4, x5, x6, jn1]; exact y1 jn x1 ((hPg.r14 p2 hp1 (by rw [ekp]; decide)).symm.trans jn1) (by omega)
      · exact Ln.stop (Z := updA B 63 csc84) hL2 (Sta.up Sta.rfl (by omega)) hL2.2.1 (by rw [x1]; decide) (fun z => by rw [x1] at z; exact absurd z (by decide))
      · rw [x2, x3, x4, y2]; exact y3 _ x1)
          have hP : va_P G.1 pCl (mW G h0 a (upd (upd (upd (upd (upd (upd (upd (upd (upd F 102 (nI op2)) 111 (nI (bf (op2 - 1)))) 115 (nI wn2)) 116 en81) 117 (nI fu80)) 118 rs0) 119 uc0) 125 nw82) 126 is83) (updA B 63 csc84)) _ := hP
          have hD : va_D A (mW G h0 a (upd (upd (upd (upd (upd (upd (upd (upd (upd F 102 (nI op2)) 111 (nI (bf (op2 - 1)))) 115 (nI wn2)) 116 en81) 117 (nI fu80)) 118 rs0) 119 uc0) 125 nw82) 126 is83) (updA B 63 csc84)) := mW_D hD
          exact W.vret hx hb hr (fun t9 ht9 hW9 => ⟨⟨_, (op2, (bf (op2 - 1)), wn2, fu80, en81, nw82, is83, rs0, uc0, (updA B 63 csc84)), rfl, ⟨rfl, hz89⟩, by rw [ht9]; exact hP, hD⟩, hS.F ht9⟩) hS.2.2 dX12_leaves_360
        · refine lv_istore (lv' := [(7, .int (nI p2)), (6, .int 1), (5, .int (nI c2)), (4, .int (nI b9)), (3, .int x), (2, .int 4), (1, .int (nI c9)), (0, .ref h0)]) hx hb dX12_leaves_33 hl (by decide) rfl (fun ls hl => ?_)
          refine lv_iload hx hb dX12_leaves_35 (lv_at hl 0 rfl) ?_
          refine lv_iconst (v := (-1)) hx hb dX12_leaves_37 (by decide) ?_
          refine lv_icmp_ne (tgt := 59) hx hb dX12_leaves_38 (by decide) (fun c90 => ?_) (fun c90 => absurd c90 (nI_m1 (by omega)))
          refine lv_iload hx hb dX12_leaves_59 (lv_at hl 0 rfl) ?_
          refine lv_iconst (v := (-1)) hx hb dX12_leaves_61 (by decide) ?_
          refine lv_icmp_ne (tgt := 108) hx hb dX12_leaves_62 (by decide) (fun c91 => ?_) (fun c91 => absurd c91 (nI_m1 (by omega)))
          refine lv_aload_n hx hb dX12_leaves_108 rfl (lv_at hl 7 rfl) ?_
          refine r_get (v := .ref (a 9)) hx hb hown hq hE hP 17 38 tFX12_17 (by decide) pw_1439 rfl dX12_leaves_109 ?_
          refine lv_iload hx hb dX12_leaves_112 (lv_at hl 0 rfl) ?_
          refine r_ldi (f := (B 9)) (j := p2) hx hb hE hP 9 (ma_9 G a _) rfl (by omega) (by decide) dX12_leaves_114 ?_
          refine lv_topi (fun x92 e93 => ?_)
          obtain rfl : x92 = nI kp := e93.trans ((congrFun hw9 _).trans ekp)
          refine lv_bipush (v := 41) hx hb dX12_leaves_115 (by decide) ?_
          refine lv_icmp_ne (tgt := 149) hx hb dX12_leaves_117 (by decide) (fun c94 => ?_) (fun c94 => (by have n95 : kp = 41 := (nI_eq (a := kp) (b := 41) (by omega) (by omega)).mp c94; omega))
          refine lv_aload_n hx hb dX12_leaves_149 rfl (lv_at hl 7 rfl) ?_
          refine r_get (v := .ref (a 9)) hx hb hown hq hE hP 17 38 tFX12_17 (by decide) pw_1439 rfl dX12_leaves_150 ?_
          refine lv_iload hx hb dX12_leaves_153 (lv_at hl 0 rfl) ?_
          refine r_ldi (f := (B 9)) (j := p2) hx hb hE hP 9 (ma_9 G a _) rfl (by omega) (by decide) dX12_leaves_155 ?_
          refine lv_topi (fun x96 e97 => ?_)
          obtain rfl : x96 = nI kp := e97.trans ((congrFun hw9 _).trans ekp)
          refine lv_bipush (v := 41) hx hb dX12_leaves_156 (by decide) ?_
          refine lv_icmp_ne (tgt := 311) hx hb dX12_leaves_158 (by decide) (fun c98 => ?_) (fun c98 => (by have n99 : kp = 41 := (nI_eq (a := kp) (b := 41) (by omega) (by omega)).mp c98; omega))
          refine lv_aload_n hx hb dX12_leaves_311 rfl (lv_at hl 7 rfl) ?_
          refine r_get (v := .ref (a 9)) hx hb hown hq hE hP 17 38 tFX12_17 (by decide) pw_1439 rfl dX12_leaves_312 ?_
          refine lv_iload hx hb dX12_leaves_315 (lv_at hl 0 rfl) ?_
          refine r_ldi (f := (B 9)) (j := p2) hx hb hE hP 9 (ma_9 G a _) rfl (by omega) (by decide) dX12_leaves_317 ?_
          refine lv_topi (fun x100 e101 => ?_)
          obtain rfl : x100 = nI kp := e101.trans ((congrFun hw9 _).trans ekp)
          refine lv_bipush (v := 35) hx hb dX12_leaves_318 (by decide) ?_
          refine lv_icmp_eq (tgt := 335) hx hb dX12_leaves_320 (by decide) (fun c102 => (by have n103 : kp = 35 := (nI_eq (a := kp) (b := 35) (by omega) (by omega)).mp c102; omega)) (fun c102 => ?_)
          refine lv_aload_n hx hb dX12_leaves_323 rfl (lv_at hl 7 rfl) ?_
          refine r_get (v := .ref (a 9)) hx hb hown hq hE hP 17 38 tFX12_17 (by decide) pw_1439 rfl dX12_leaves_324 ?_
          refine lv_iload hx hb dX12_leaves_327 (lv_at hl 0 rfl) ?_
          refine r_ldi (f := (B 9)) (j := p2) hx hb hE hP 9 (ma_9 G a _) rfl (by omega) (by decide) dX12_leaves_329 ?_
          refine lv_topi (fun x104 e105 => ?_)
          obtain rfl : x104 = nI kp := e105.trans ((congrFun hw9 _).trans ekp)
          refine lv_bipush (v := 36) hx hb dX12_leaves_330 (by decide) ?_
          refine lv_icmp_ne (tgt := 353) hx hb dX12_leaves_332 (by decide) (fun c106 => ?_) (fun c106 => (by have n107 : kp = 36 := (nI_eq (a := kp) (b := 36) (by omega) (by omega)).mp c106; omega))
          obtain ⟨kc2, hj1, hj2, hj3⟩ := hjk2
          have hj4 : JK kp := (hp3.jk hPg.fs (by omega) hp1 ekp kp4 hj1 hj2 hj3).1
          have hj5 : (yy2 (op2 - 1)).1.2.1 = u2.1.2.1 := (hp3.jk hPg.fs (by omega) hp1 ekp kp4 hj1 hj2 hj3).2.1 (by omega) (by omega)
          obtain ⟨hm1, hm2⟩ := hL2.mv2 hp4 hp3 ekp kp4 (fun h => absurd h (by omega))
          refine lv_iload hx hb dX12_leaves_353 (lv_at hl 0 rfl) ?_
          refine lv_istore (lv' := [(5, .int (nI p2)), (7, .int (nI p2)), (6, .int 1), (4, .int (nI b9)), (3, .int x), (2, .int 4), (1, .int (nI c9)), (0, .ref h0)]) hx hb dX12_leaves_355 hl (by decide) rfl (fun ls hl => ?_)
          refine lv_goto (tgt := 6) hx hb dX12_leaves_357 (by decide) ?_
          have hr108 := hm1.room
          have hP : va_P G.1 pCl (mW G h0 a (upd (upd (upd (upd (upd (upd (upd (upd (upd F 102 (nI op2)) 111 (nI (bf (op2 - 1)))) 115 (nI wn2)) 116 (-1)) 117 (nI fu)) 118 rs0) 119 uc0) 125 nw) 126 isn) B) _ := hP
          have hD : va_D A (mW G h0 a (upd (upd (upd (upd (upd (upd (upd (upd (upd F 102 (nI op2)) 111 (nI (bf (op2 - 1)))) 115 (nI wn2)) 116 (-1)) 117 (nI fu)) 118 rs0) 119 uc0) 125 nw) 126 isn) B) := mW_D hD
          exact ih_o (400 * (100 - op2) + gh 1 p2) op2 wn2 p2 (yyU yy2 (op2 - 1) u2) (nI (bf (op2 - 1))) _ _ _ (by omega) (by omega) hm1 ⟨rfl, hr108.2.2.2.2.2.2.2.1, hr108.1, hr108.2.1, hr108.2.2.1, hr108.2.2.2.2.1⟩ (by rw [show yyU yy2 (op2 - 1) u2 (op2 - 1) = u2 from if_pos rfl, ← hj5]; exact hlp2) ⟨_, ekp, kp4, hj4⟩ hP hD hS (lv_sub hl [2, 0, 3, 4, 5, 6, 7] rfl)
  have hP : va_P G.1 pCl (mW G h0 a (upd (upd (upd (upd (upd (upd (upd (upd (upd F 102 (nI op)) 111 tx) 115 (nI wn)) 116 (-1)) 117 (nI fu)) 118 rs0) 119 uc0) 125 nw) 126 isn) B) _ := hP
  have hD : va_D A (mW G h0 a (upd (upd (upd (upd (upd (upd (upd (upd (upd F 102 (nI op)) 111 tx) 115 (nI wn)) 116 (-1)) 117 (nI fu)) 118 rs0) 119 uc0) 125 nw) 126 isn) B) := mW_D hD
  exact loop_o (40400 + 1) (400 * (100 - op) + gh 1 c9) op wn c9 yy tx _ _ _ (by have z := hL.room; omega) (by omega) hL (by have z := hL.room; exact ⟨rfl, z.2.2.2.2.2.2.2.1, z.1, z.2.1, z.2.2.1, z.2.2.2.2.1⟩) hlp hjk hP hD hS (lv_sub hl [0, 1, 6, 5, 4, 3, 2] rfl)

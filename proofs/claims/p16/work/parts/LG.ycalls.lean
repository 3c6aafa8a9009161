theorem StG.array {y : TY} {S1 n1 it : Nat → Nat} {J1 : Nat → Nat → Int64} {f O L R H : Nat → Int32} {hp on j ba pc tp tp1 s o fl fl1 d : Nat} {os : List Nat} {z z1 : Int64} {en1 : Int32} (q : (¬ en1 = 5 ∧ z1 = z) ∨ (en1 = 5 ∧ LoE J1 s o ∧ fl = fl1 + 1 ∧ ((z1 = rfV 6 ∧ tp1 = tp ∧ MIa y H S1 n1 (J1 s) hp f (J1 29) on j ba pc os tp) ∨ (z1 = z ∧ tp1 = tp + 1 ∧ MIa y H S1 n1 (J1 s) hp f (J1 29) on j ba pc (d :: os) (tp + 1))))) (hm : MOy y O L R H j) (g : Go (yfi y) (wos (d :: os) (yA y j pc)) (yA y j (pc + 1))) (ho : ¬ O pc = 0) (hz : z = 0) : StG y it O H (mT O f fl on pc) pc tp1 en1 (nI (pc + 1)) z1 J1 fl1 s o hp f on ba (it j) := by
  rcases q with q | ⟨q1, q2, q3, q4 | q4⟩
  · exact Or.inl ⟨q.1, q.2.trans hz⟩
  · obtain ⟨w1, w2, w3⟩ := q4
    refine Or.inr ⟨q1, q2, S1, n1, j, rfl, Or.inr ⟨?_, ho, w3.thr, ?_⟩⟩
    · rw [w1]; exact RaO.own w3.2.2.2.2.1 (by omega) (by omega)
    · unfold mT
      omega
  · obtain ⟨w1, w2, w3⟩ := q4
    exact w1 ▸ StG.made (z := z) (Or.inr ⟨q1, w2, q2, w3⟩) hm g q3 hz
set_option maxHeartbeats 40000000 in
set_option maxRecDepth 100000 in
theorem Y_callNearest (l : Launch) (G : pT) (h0 : Nat) (a : Nat → Nat) (F : Nat → Int32) (R : Nat → Value) (Z : Int64) (B : Nat → Nat → Int32) (J : Nat → Nat → Int64) (K : PK) (w : va_W) (y : TY) (Sh : Nat → Nat) (nn : Nat → Nat) (on : Nat) (j9 : Nat) (ba : Nat) (pc : Nat) (tp : Nat) (sp : Nat) (op : Nat) (ht : Nat) (fl : Nat) (pq : Nat) (dr : Nat) (ml : Nat) (nd : Nat) (nm : Nat) (cp : Nat) (it : Nat → Nat) (s9 : Nat) (g : Nat → Nat → Nat) (rk : Nat → Nat) (cs : Nat) (rg : Nat) (lm : Nat) (hsp : (sp = 34 ∧ op = 35) ∨ (sp = 35 ∧ op = 34)) (hmi : MIy y (B 19) Sh nn (J sp) ht (B 30) (J 29) on j9 ba pc tp) (hmo : MOy y (B 16) (B 17) (B 18) (B 19) j9) (hZ : Z = 0) (hfl : B 33 5 = nI fl) (hflb : fl ≤ 20000) (hwp : WPr G K g) (hps : PgT G K g (a 1) pq dr ml nd nm cp it s9) (hrk : RkO K rk) (hpy : PrY y K B dr nd nm it cs rg) (hle : LoE J sp op) (hlm : lm ≤ 3008) (hcs9 : cs ≤ 10000) (hop : B 16 pc = nI 23) (hru : IRy y (B 16) (B 17) (B 18) pc j9 23) (hO : OKP G h0 a (upd (upd (upd (upd (upd (upd (upd (upd (upd (upd F 5 (nI cs)) 6 (nI rg)) 18 (nI ba)) 19 (nI tp)) 20 (nI pc)) 21 (nI (pc + 1))) 22 (nI on)) 23 5) 26 (nI ht)) 28 (nI lm)) (updR (updR (updR (updR R 5 (.ref pq)) 6 (.ref (it j9))) 7 (.ref (a sp))) 8 (.ref (a op))) Z B J K w) : PM l G pX0 yX5_callNearest cX5_callNearest 5 none ({ frames := 7, cells := 0, slots := 0, locals := 169 }) [.ref (a 5), .int (B 17 pc), .int (B 18 pc)] w (fun (v : Option Value) (u : va_W × (Nat × Int32 × Int32 × Int64 × (Nat → Nat → Int64) × (Nat → Int32) × Nat × Nat × Nat × Nat × Int32 × Nat × Nat × Nat × (Nat → Int32) × (Nat → Int32))) => v = none ∧ (StG y it (B 16) (B 19) (mT (B 16) (B 30) fl on pc) pc u.2.1 u.2.2.1 u.2.2.2.1 u.2.2.2.2.1 u.2.2.2.2.2.1 u.2.2.2.2.2.2.2.1 u.2.2.2.2.2.2.2.2.1 u.2.2.2.2.2.2.2.2.2.1 u.2.2.2.2.2.2.2.2.2.2.1 u.2.2.2.2.2.2.2.2.2.2.2.2.2.2.2.1 u.2.2.2.2.2.2.2.2.2.2.2.2.2.1 u.2.2.2.2.2.2.2.2.2.2.2.2.1 u.2.2.2.2.2.2.2.2.2.2.2.2.2.2.1) ∧ (u.2.2.2.2.2.2.1 5 = nI u.2.2.2.2.2.2.2.1) ∧ (u.2.2.2.2.2.2.2.1 ≤ fl ∧ u.2.1 ≤ 32000 ∧ (8 ≤ u.2.2.2.2.2.2.2.2.2.2.1 ∧ u.2.2.2.2.2.2.2.2.2.2.1 ≤ 3008) ∧ u.2.2.2.2.2.2.2.2.2.2.2.2.1 ≤ 32000 ∧ u.2.2.2.2.2.2.2.2.2.2.2.2.2.1 ≤ 100) ∧ ((u.2.2.2.2.2.2.2.2.1 = 34 ∧ u.2.2.2.2.2.2.2.2.2.1 = 35) ∨ (u.2.2.2.2.2.2.2.2.1 = 35 ∧ u.2.2.2.2.2.2.2.2.2.1 = 34)) ∧ (LoE u.2.2.2.2.2.1 u.2.2.2.2.2.2.2.2.1 u.2.2.2.2.2.2.2.2.2.1) ∧ (OKP G h0 a (upd (upd (upd (upd (upd (upd (upd (upd (upd (upd (upd F 5 (nI cs)) 6 (nI rg)) 18 (nI u.2.2.2.2.2.2.2.2.2.2.2.2.1)) 19 (nI u.2.1)) 20 (nI pc)) 21 u.2.2.2.1) 22 (nI u.2.2.2.2.2.2.2.2.2.2.2.2.2.1)) 23 u.2.2.1) 26 (nI u.2.2.2.2.2.2.2.2.2.2.1)) 27 u.2.2.2.2.2.2.2.2.2.2.2.1) 28 (nI lm)) (updR (updR (updR (updR R 5 (.ref pq)) 6 (.ref u.2.2.2.2.2.2.2.2.2.2.2.2.2.2.1)) 7 (.ref (a u.2.2.2.2.2.2.2.2.1))) 8 (.ref (a u.2.2.2.2.2.2.2.2.2.1))) u.2.2.2.2.1 (updA (updA (updA B 30 u.2.2.2.2.2.2.2.2.2.2.2.2.2.2.2.1) 32 u.2.2.2.2.2.2.2.2.2.2.2.2.2.2.2.2) 33 u.2.2.2.2.2.2.1) u.2.2.2.2.2.1 K u.1)) (fun u => u.1) := by
  intro sz
  refine Met.ofW (cc := cX5_callNearest) (maxL := 5) (ret := none) (by decide) rfl ?_
  intro p e s m args below meth c s₁ B9 hml hv
  obtain ⟨rfl, hsz, hP, hD0, hE, hX⟩ := hv
  have hx := B9.exec
  have hb := B9.bytes
  have hr := B9.returns
  have hts := atoms_spec (ws := Cond.code yX5_callNearest cX5_callNearest 5 none :: pw) B9.pre
  have hq : ∀ w ∈ pw, w.before _ s = true := fun w h => hts w (List.mem_cons_of_mem _ h)
  have hown : s.vm.findClass RX5 = some m.cls := findClass_of_methodNamed B9.named
  have hlocks := B9.notSynchronized
  subst hsz
  have hD := hD0.self (sz := s.heap.size)
  have hA : ∀ q : Nat, s.heap.size ≤ q → va_A w s.heap.size q := fun q h => Or.inr h
  generalize va_A w s.heap.size = A at hD hE hA ⊢
  have hS : va_S A s.heap s.heap [] := va_S.rf
  have hl := lv_entry ([.ref (a 5), .int (B 17 pc), .int (B 18 pc)]) (n := 5) (Nat.le_of_ble_eq_true rfl)
  rw [lg_entry_eq]
  generalize (lg_sl ([.ref (a 5), .int (B 17 pc), .int (B 18 pc)]) ++ List.replicate (5 - (lg_sl ([.ref (a 5), .int (B 17 pc), .int (B 18 pc)])).length) Slot.unset).toArray = ls at hl ⊢
  have hl : lv_has ls 5 [(0, .ref (a 5)), (1, .int (B 17 pc)), (2, .int (B 18 pc))] := hl
  obtain ⟨hn1, hn2, hn3, hn4, hn5, hn6, hn7, hn8, hn9, hn10, hn11, hn12⟩ := MIy.nums hmi hmo
  have hlo := FFy.lo hmi.ff
  have hpg := hps.1
  have hp1 := hpg.1
  have hp2 := hpg.2.1
  have hp3 := hpg.2.2.1
  have hp4 := hpg.2.2.2.1
  have hp5 := hpg.2.2.2.2.1
  have hp6 := hpg.2.2.2.2.2.1
  have hp8 := hpg.2.2.2.2.2.2.2.1
  have hp9 := hpg.2.2.2.2.2.2.2.2
  have h29 : ¬ sp = 29 ∧ ¬ op = 29 := by omega
  have hht := hmi.1.2.2.2
  have hnm9 := hps.2.2.1.2.2.1
  have hnmE := hpy.1.1
  obtain ⟨c9, u9, os, ar, r1, r2, r3, r4, r5⟩ := hru
  rw [r1] at hl
  have hlen : (yA y j9 pc).2.2.2.length = ar.length + (os.length + 1) := by rw [r2, List.length_append]; rfl
  obtain ⟨hrv, hrl⟩ := FFy.recv hmi.ff r2
  refine lv_aload_n hx hb dX5_callNearest_0 rfl (lv_at hl 0 rfl) ?_
  refine c_get (v := .int (nI tp)) (C := RX5) (Tc := TX5) (N := 19) (ci := 4) hx hb hq pin_wsX50 hown hE hP hO 28 (sg_28 G h0 a _ _ _ _ _) rfl 11 (by decide) (hq _ pw_505) (fun _ h9 => h9) rfl dX5_callNearest_1 ?_
  refine lv_iload_n hx hb dX5_callNearest_4 rfl (lv_at hl 2 rfl) ?_
  refine lv_isub hx hb dX5_callNearest_5 ?_
  refine lv_topi (fun x1 e2 => ?_)
  obtain rfl : x1 = nI (tp - (ar.length)) := e2.trans (nI_subN (a := (ar.length)) (b := tp) (by omega))
  refine lv_iconst (v := 1) hx hb dX5_callNearest_6 (by decide) ?_
  refine lv_isub hx hb dX5_callNearest_7 ?_
  refine lv_topi (fun x3 e4 => ?_)
  obtain rfl : x3 = nI ((tp - (ar.length)) - 1) := e4.trans (nI_subN (a := 1) (b := (tp - (ar.length))) (by omega))
  refine lv_istore_n (lv' := [(3, .int (nI ((tp - (ar.length)) - 1))), (0, .ref (a 5)), (1, .int (B 17 pc)), (2, .int (nI (ar.length)))]) hx hb dX5_callNearest_8 rfl hl (by decide) rfl (fun ls hl => ?_)
  refine lv_iload_n hx hb dX5_callNearest_9 rfl (lv_at hl 0 rfl) ?_
  refine lv_if_ge (tgt := 18) hx hb dX5_callNearest_10 (by decide) (fun c5 => ?_) (fun c5 => (by have n6 : ¬ (0 ≤ ((tp - (ar.length)) - 1)) := fun h9 => c5 ((nI_leI (a := 0) (b := ((tp - (ar.length)) - 1)) (by omega) (by omega)).mpr h9); omega))
  refine lv_aload_n hx hb dX5_callNearest_18 rfl (lv_at hl 1 rfl) ?_
  have hO : OKW G h0 a (upd (upd (upd (upd (upd (upd (upd (upd (upd (upd (upd F 5 (nI cs)) 6 (nI rg)) 18 (nI ba)) 19 (nI tp)) 20 (nI pc)) 21 (nI (pc + 1))) 22 (nI on)) 23 5) 26 (nI ht)) 28 (nI lm)) 23 5) (updR (updR (updR (updR R 5 (.ref pq)) 6 (.ref (it j9))) 7 (.ref (a sp))) 8 (.ref (a op))) Z B J K.1 (fun q99 x99 => x99 = rep G a K q99) w := hO.to rfl
  obtain ⟨_, qr10, hqr11⟩ := hO.2.1 28 _ (sg_28 G h0 a _ _ _ _ _)
  refine pc_V0 (G := G) (As := []) (rest := []) hx hb hml hown hq hE hX pX0_al hP hD hS hA hl.1 (Y_burn l G h0 a (upd (upd (upd (upd (upd (upd (upd (upd (upd (upd F 5 (nI cs)) 6 (nI rg)) 18 (nI ba)) 19 (nI tp)) 20 (nI pc)) 21 (nI (pc + 1))) 22 (nI on)) 23 5) 26 (nI ht)) 28 (nI lm)) (updR (updR (updR (updR R 5 (.ref pq)) 6 (.ref (it j9))) 7 (.ref (a sp))) 8 (.ref (a op))) Z B J K.1 (fun q99 x99 => x99 = rep G a K q99) w fl hfl (by omega) hO) (gV pw_567 pw_568 pw_569 pw_539 pw_560) hV_X5_burn qr10 4 hqr11 rfl rfl rfl (Nat.le_of_ble_eq_true rfl) dX5_callNearest_19 ⟨Nat.le_of_ble_eq_true rfl, Nat.le_of_ble_eq_true rfl⟩ ⟨Nat.le_of_ble_eq_true rfl, Nat.le_of_ble_eq_true rfl⟩ (fun v9 u7 H locs hw8 hP hD hS => ?_)
  obtain ⟨w, r12, fl13, en14, ta15⟩ := u7
  obtain ⟨hw8, h16, h17, h18, h19, hO⟩ := hw8
  have h16 : r12 ≤ 1 := h16
  have h17 : BuQ fl r12 en14 fl13 := h17
  have h18 : ta15 5 = nI fl13 := h18
  have h19 : fl13 ≤ fl := h19
  obtain rfl : v9 = some (.int (nI r12)) := hw8
  have hO : OKP G h0 a (upd (upd (upd (upd (upd (upd (upd (upd (upd (upd F 5 (nI cs)) 6 (nI rg)) 18 (nI ba)) 19 (nI tp)) 20 (nI pc)) 21 (nI (pc + 1))) 22 (nI on)) 23 en14) 26 (nI ht)) 28 (nI lm)) (updR (updR (updR (updR R 5 (.ref pq)) 6 (.ref (it j9))) 7 (.ref (a sp))) 8 (.ref (a op))) Z (updA B 33 ta15) J K w := hO.to rfl
  refine W.widen (k := 0) (n := 0) (Nat.le_of_ble_eq_true rfl) (Nat.le_of_ble_eq_true rfl) ?_
  refine W.eq (g2 := F0 m 22 ls [.int (nI r12)]) rfl ?_
  refine lv_if_ne (tgt := 26) hx hb dX5_callNearest_22 (by decide) (fun c20 => ?_) (fun c20 => ?_)
  · have n21 : ¬ (r12 = 0) := fun h9 => c20 ((nI_eq (a := r12) (b := 0) (by omega) (by omega)).mpr h9)
    obtain ⟨_, hen, hfb⟩ := Or.resolve_right h17 (fun z => by have := z.1; omega)
    subst hen
    refine lv_aload_n hx hb dX5_callNearest_26 rfl (lv_at hl 1 rfl) ?_
    refine c_get (v := .ref (a 29)) (C := RX5) (Tc := TX5) (N := 19) (ci := 4) hx hb hq pin_wsX50 hown hE hP hO 28 (sg_28 G h0 a _ _ _ _ _) rfl 2 (by decide) (hq _ pw_474) (fun _ h9 => h9) rfl dX5_callNearest_27 ?_
    refine lv_iload_n hx hb dX5_callNearest_30 rfl (lv_at hl 0 rfl) ?_
    refine c_ldl (f := (J 29)) (n := 32000) (t0 := 2) hx hb hE hP hO 32 (sg_32 G h0 a _ _ _ _ _) rfl (vp_in_nI (by omega) (by decide)) dX5_callNearest_31 ?_
    rw [(nI_clamp (show ((tp - (ar.length)) - 1) < 2 ^ 31 by omega))]
    rcases VT.rf hrv (Or.inl r3) with hq9 | ⟨p9, d9, hp9, hq9, hS9, hf9⟩
    · skip
      rw [show ((J 29) ((tp - (ar.length)) - 1)) = 0 from hq9]
      refine lv_lconst (v := 0) hx hb dX5_callNearest_32 (by decide) ?_
      refine W.lcmp hx hb dX5_callNearest_33 ?_
      refine lv_topi (fun x22 e23 => ?_)
      obtain rfl : x22 = 0 := e23.trans (by decide)
      refine lv_if_ne (tgt := 43) hx hb dX5_callNearest_34 (by decide) (fun c24 => absurd c24 (by decide)) (fun c24 => ?_)
      refine lv_aload_n hx hb dX5_callNearest_37 rfl (lv_at hl 1 rfl) ?_
      refine lv_iconst (v := 1) hx hb dX5_callNearest_38 (by decide) ?_
      have hO : OKW G h0 a (upd (upd (upd (upd (upd (upd (upd (upd (upd (upd F 5 (nI cs)) 6 (nI rg)) 18 (nI ba)) 19 (nI tp)) 20 (nI pc)) 21 (nI (pc + 1))) 22 (nI on)) 23 5) 26 (nI ht)) 28 (nI lm)) (updR (updR (updR (updR R 5 (.ref pq)) 6 (.ref (it j9))) 7 (.ref (a sp))) 8 (.ref (a op))) Z (updA B 33 ta15) J K.1 (fun q99 x99 => x99 = rep G a K q99) w := hO.to rfl
      obtain ⟨_, qr28, hqr29⟩ := hO.2.1 28 _ (sg_28 G h0 a _ _ _ _ _)
      refine pc_V0 (G := G) (As := [.int (nI 1)]) (rest := []) hx hb hml hown hq hE hX pX0_al hP hD hS hA hl.1 (Y_raise l G h0 a (upd (upd (upd (upd (upd (upd (upd (upd (upd (upd F 5 (nI cs)) 6 (nI rg)) 18 (nI ba)) 19 (nI tp)) 20 (nI pc)) 21 (nI (pc + 1))) 22 (nI on)) 23 5) 26 (nI ht)) 28 (nI lm)) (updR (updR (updR (updR R 5 (.ref pq)) 6 (.ref (it j9))) 7 (.ref (a sp))) 8 (.ref (a op))) Z (updA B 33 ta15) J K.1 (fun q99 x99 => x99 = rep G a K q99) w 1 (by omega) hO) (gV pw_570 pw_571 pw_572 pw_539 pw_561) hV_X5_raise qr28 4 hqr29 rfl rfl rfl (Nat.le_of_ble_eq_true rfl) dX5_callNearest_39 ⟨Nat.le_of_ble_eq_true rfl, Nat.le_of_ble_eq_true rfl⟩ ⟨Nat.le_of_ble_eq_true rfl, Nat.le_of_ble_eq_true rfl⟩ (fun v27 u25 H locs hw26 hP hD hS => ?_)
      obtain ⟨w, _⟩ := u25
      obtain ⟨hw26, hO⟩ := hw26
      obtain rfl : v27 = none := hw26
      have hO : OKP G h0 a (upd (upd (upd (upd (upd (upd (upd (upd (upd (upd F 5 (nI cs)) 6 (nI rg)) 18 (nI ba)) 19 (nI tp)) 20 (nI pc)) 21 (nI (pc + 1))) 22 (nI on)) 23 5) 26 (nI ht)) 28 (nI lm)) (updR (updR (updR (updR R 5 (.ref pq)) 6 (.ref (it j9))) 7 (.ref (a sp))) 8 (.ref (a op))) (rfV 1) (updA B 33 ta15) J K w := hO.to rfl
      refine W.widen (k := 0) (n := 0) (Nat.le_of_ble_eq_true rfl) (Nat.le_of_ble_eq_true rfl) ?_
      refine W.eq (g2 := F0 m 42 ls []) rfl ?_
      have hz30 : StG y it (B 16) (B 19) (mT (B 16) (B 30) fl on pc) pc tp (5 : Int32) (nI (pc + 1)) (rfV 1) J fl13 sp op ht (B 30) on ba (it j9) := (StG.ofQ2 (StQ.thrown hmi hmo (by rw [hop]; decide) (RaO.own hmi.2.1 (by omega) (by omega)) (fun _ _ => rfl) (by omega)) hle (by rw [hop]; decide))
      have hz31 : ta15 5 = nI fl13 := h18
      have hz32 : fl13 ≤ fl ∧ tp ≤ 32000 ∧ (8 ≤ ht ∧ ht ≤ 3008) ∧ ba ≤ 32000 ∧ on ≤ 100 := (by omega)
      have hz33 : (sp = 34 ∧ op = 35) ∨ (sp = 35 ∧ op = 34) := hsp
      have hz34 : LoE J sp op := hle
      have hO : OKP G h0 a (upd (upd (upd (upd (upd (upd (upd (upd (upd (upd (upd F 5 (nI cs)) 6 (nI rg)) 18 (nI ba)) 19 (nI tp)) 20 (nI pc)) 21 (nI (pc + 1))) 22 (nI on)) 23 (5 : Int32)) 26 (nI ht)) 27 (F 27)) 28 (nI lm)) (updR (updR (updR (updR R 5 (.ref pq)) 6 (.ref (it j9))) 7 (.ref (a sp))) 8 (.ref (a op))) (rfV 1) (updA (updA (updA B 30 (B 30)) 32 (B 32)) 33 ta15) J K w := hO.to rfl
      exact W.vret hx hb hr (fun t99 ht99 hW99 => ⟨⟨_, (w, (tp, (5 : Int32), (nI (pc + 1)), (rfV 1), J, ta15, fl13, sp, op, ht, (F 27), ba, on, (it j9), (B 30), (B 32))), rfl, ⟨rfl, hz30, hz31, hz32, hz33, hz34, hO⟩, by rw [ht99]; exact hP, hD⟩, hS.F ht99⟩) hS.2.2 dX5_callNearest_42
    · skip
      rw [show ((J 29) ((tp - (ar.length)) - 1)) = rfV p9 from hq9]
      obtain ⟨n9, hh19, hh29, hh39, hh49, hh59, hh69, hh79⟩ := HT.hd hht hS9
      obtain ⟨hd6, k9, hk1, hk2, hk3, hk4, hk5⟩ := r4 d9 (fun h => hmi.2.1.2 p9 d9 hS9 h) hf9
      have hX9 := hmi.2.1.2 p9 d9 hS9 hd6
      obtain ⟨hkn, q8, hy1, hy2⟩ := hpy.2.2.2.2.1 d9 k9 (B 17 pc) hX9 hk1
      have hnd8 := hpy.1.2.2.1 d9 hX9
      have hT8 : K.1 q8 = 4 := by obtain ⟨d7, h71, h72, _⟩ := hps.2.1 d9 hnd8; rw [← Option.some.inj (h71.symm.trans hy1)]; exact h72
      have hmk := hpy.2.1 k9 hkn
      have hsk : ysl y k9 ≤ 319 := by have := (hmk.1.2.2.2.1 (ylo y k9) (Nat.le_refl _) hmk.1.2.1.1 hmk.1.2.2.2.2.2.2.2.2.1.1).2.2.1; have e9 : ysl y k9 = (yM y).2.1 k9 := rfl; omega
      refine lv_lconst (v := 0) hx hb dX5_callNearest_32 (by decide) ?_
      refine W.lcmp hx hb dX5_callNearest_33 ?_
      refine lv_topi (fun x35 e36 => ?_)
      refine lv_if_ne (tgt := 43) hx hb dX5_callNearest_34 (by decide) (fun c37 => ?_) (fun c37 => (rfV_n0 (p := p9) ((lg_cmp_eq _ _).mp (e36.symm.trans c37))).elim)
      refine lv_aload_n hx hb dX5_callNearest_43 rfl (lv_at hl 1 rfl) ?_
      refine c_get (v := .ref pq) (C := RX5) (Tc := TX5) (N := 19) (ci := 4) hx hb hq pin_wsX50 hown hE hP hO 28 (sg_28 G h0 a _ _ _ _ _) rfl 8 (by decide) (hq _ pw_486) (fun _ h9 => h9) rfl dX5_callNearest_44 ?_
      refine lv_aload_n hx hb dX5_callNearest_47 rfl (lv_at hl 1 rfl) ?_
      refine c_get (v := .ref (a 28)) (C := RX5) (Tc := TX5) (N := 19) (ci := 4) hx hb hq pin_wsX50 hown hE hP hO 28 (sg_28 G h0 a _ _ _ _ _) rfl 1 (by decide) (hq _ pw_473) (fun _ h9 => h9) rfl dX5_callNearest_48 ?_
      refine lv_aload_n hx hb dX5_callNearest_51 rfl (lv_at hl 1 rfl) ?_
      refine c_get (v := .ref (a 29)) (C := RX5) (Tc := TX5) (N := 19) (ci := 4) hx hb hq pin_wsX50 hown hE hP hO 28 (sg_28 G h0 a _ _ _ _ _) rfl 2 (by decide) (hq _ pw_474) (fun _ h9 => h9) rfl dX5_callNearest_52 ?_
      refine lv_iload_n hx hb dX5_callNearest_55 rfl (lv_at hl 0 rfl) ?_
      refine c_ldl (f := (J 29)) (n := 32000) (t0 := 2) hx hb hE hP hO 32 (sg_32 G h0 a _ _ _ _ _) rfl (vp_in_nI (by omega) (by decide)) dX5_callNearest_56 ?_
      rw [(nI_clamp (show ((tp - (ar.length)) - 1) < 2 ^ 31 by omega))]
      rw [show ((J 29) ((tp - (ar.length)) - 1)) = rfV p9 from hq9]
      have hO : OKW G h0 a (upd (upd (upd (upd (upd (upd (upd (upd (upd (upd (upd F 5 (nI cs)) 6 (nI rg)) 18 (nI ba)) 19 (nI tp)) 20 (nI pc)) 21 (nI (pc + 1))) 22 (nI on)) 23 5) 26 (nI ht)) 28 (nI lm)) 26 (nI ht)) (updR (updR (updR (updR (updR (updR R 5 (.ref pq)) 6 (.ref (it j9))) 7 (.ref (a sp))) 8 (.ref (a op))) 7 (.ref (a sp))) 8 (.ref (a op))) Z (updA B 33 ta15) J K.1 (fun q99 x99 => x99 = rep G a K q99) w := hO.to rfl
      obtain ⟨_, qr41, hqr42⟩ := hO.2.1 29 _ (sg_29 G h0 a _ _ _ _ _)
      refine pc_V0 (G := G) (As := [.long (rfV p9)]) (rest := [.ref pq]) hx hb hml hown hq hE hX pX0_al hP hD hS hA hl.1 (Y_typeOf l G h0 a (upd (upd (upd (upd (upd (upd (upd (upd (upd (upd F 5 (nI cs)) 6 (nI rg)) 18 (nI ba)) 19 (nI tp)) 20 (nI pc)) 21 (nI (pc + 1))) 22 (nI on)) 23 5) 26 (nI ht)) 28 (nI lm)) (updR (updR (updR (updR R 5 (.ref pq)) 6 (.ref (it j9))) 7 (.ref (a sp))) 8 (.ref (a op))) Z (updA B 33 ta15) J K.1 (fun q99 x99 => x99 = rep G a K q99) w p9 n9 d9 sp op ht hsp (by omega) (by omega) hh59 hO) (gV pw_489 pw_490 pw_491 pw_440 pw_441) hV_X3_typeOf qr41 3 hqr42 rfl rfl rfl (Nat.le_of_ble_eq_true rfl) dX5_callNearest_57 ⟨Nat.le_of_ble_eq_true rfl, Nat.le_of_ble_eq_true rfl⟩ ⟨Nat.le_of_ble_eq_true rfl, Nat.le_of_ble_eq_true rfl⟩ (fun v40 u38 H locs hw39 hP hD hS => ?_)
      obtain ⟨w, _⟩ := u38
      obtain ⟨hw39, hO⟩ := hw39
      obtain rfl : v40 = some (.int (nI d9)) := hw39
      have hO : OKP G h0 a (upd (upd (upd (upd (upd (upd (upd (upd (upd (upd F 5 (nI cs)) 6 (nI rg)) 18 (nI ba)) 19 (nI tp)) 20 (nI pc)) 21 (nI (pc + 1))) 22 (nI on)) 23 5) 26 (nI ht)) 28 (nI lm)) (updR (updR (updR (updR R 5 (.ref pq)) 6 (.ref (it j9))) 7 (.ref (a sp))) 8 (.ref (a op))) Z (updA B 33 ta15) J K w := hO.to rfl
      refine W.widen (k := 0) (n := 0) (Nat.le_of_ble_eq_true rfl) (Nat.le_of_ble_eq_true rfl) ?_
      refine W.eq (g2 := F0 m 60 ls [.int (nI d9), .ref pq]) rfl ?_
      have hO : OKP G h0 a (upd (upd (upd (upd (upd (upd (upd (upd (upd (upd F 5 (nI cs)) 6 (nI rg)) 18 (nI ba)) 19 (nI tp)) 20 (nI pc)) 21 (nI (pc + 1))) 22 (nI on)) 23 5) 26 (nI ht)) 28 (nI lm)) (updR (updR (updR (updR R 5 (.ref pq)) 6 (.ref (it j9))) 7 (.ref (a sp))) 8 (.ref (a op))) Z (updA B 33 ta15) J K w := hO.to rfl
      obtain ⟨qr46, hqr47⟩ := p_recv hO (by rw [hp1]; decide) (rep_7 hp1)
      refine pc_V0 (G := G) (As := [.int (nI d9)]) (rest := []) hx hb hml hown hq hE hX pX0_al hP hD hS hA hl.1 (Y_decl l G h0 a (upd (upd (upd (upd (upd (upd (upd (upd (upd (upd F 5 (nI cs)) 6 (nI rg)) 18 (nI ba)) 19 (nI tp)) 20 (nI pc)) 21 (nI (pc + 1))) 22 (nI on)) 23 5) 26 (nI ht)) 28 (nI lm)) (updR (updR (updR (updR R 5 (.ref pq)) 6 (.ref (it j9))) 7 (.ref (a sp))) 8 (.ref (a op))) Z (updA B 33 ta15) J K w pq dr ml nd d9 q8 g hps.1 hps.2.1 hnd8 hy1 hO) (gV pw_492 pw_182 pw_183 pw_106 pw_13) hV_X9_decl qr46 6 hqr47 rfl rfl rfl (Nat.le_of_ble_eq_true rfl) dX5_callNearest_60 ⟨Nat.le_of_ble_eq_true rfl, Nat.le_of_ble_eq_true rfl⟩ ⟨Nat.le_of_ble_eq_true rfl, Nat.le_of_ble_eq_true rfl⟩ (fun v45 u43 H locs hw44 hP hD hS => ?_)
      obtain ⟨w, _⟩ := u43
      obtain ⟨hw44, hO⟩ := hw44
      obtain rfl : v45 = some (.ref q8) := hw44
      have hO : OKP G h0 a (upd (upd (upd (upd (upd (upd (upd (upd (upd (upd F 5 (nI cs)) 6 (nI rg)) 18 (nI ba)) 19 (nI tp)) 20 (nI pc)) 21 (nI (pc + 1))) 22 (nI on)) 23 5) 26 (nI ht)) 28 (nI lm)) (updR (updR (updR (updR R 5 (.ref pq)) 6 (.ref (it j9))) 7 (.ref (a sp))) 8 (.ref (a op))) Z (updA B 33 ta15) J K w := hO.to rfl
      refine W.widen (k := 0) (n := 0) (Nat.le_of_ble_eq_true rfl) (Nat.le_of_ble_eq_true rfl) ?_
      refine W.eq (g2 := F0 m 63 ls [.ref q8]) rfl ?_
      refine lv_astore (lv' := [(4, .ref q8), (3, .int (nI ((tp - (ar.length)) - 1))), (0, .ref (a 5)), (1, .int (B 17 pc)), (2, .int (nI (ar.length)))]) hx hb dX5_callNearest_63 hl (by decide) rfl (fun ls hl => ?_)
      refine lv_aload_n hx hb dX5_callNearest_65 rfl (lv_at hl 2 rfl) ?_
      refine lv_aload hx hb dX5_callNearest_66 (lv_at hl 0 rfl) ?_
      refine lv_ifnonnull (tgt := 75) hx hb dX5_callNearest_68 (by decide) ?_
      refine lv_aload hx hb dX5_callNearest_75 (lv_at hl 0 rfl) ?_
      refine lv_iload_n hx hb dX5_callNearest_77 rfl (lv_at hl 3 rfl) ?_
      have hO : OKP G h0 a (upd (upd (upd (upd (upd (upd (upd (upd (upd (upd F 5 (nI cs)) 6 (nI rg)) 18 (nI ba)) 19 (nI tp)) 20 (nI pc)) 21 (nI (pc + 1))) 22 (nI on)) 23 5) 26 (nI ht)) 28 (nI lm)) (updR (updR (updR (updR R 5 (.ref pq)) 6 (.ref (it j9))) 7 (.ref (a sp))) 8 (.ref (a op))) Z (updA B 33 ta15) J K w := hO.to rfl
      obtain ⟨qr51, hqr52⟩ := p_recv hO (by rw [hT8]; decide) (rep_4 hT8)
      refine pc_V0 (G := G) (As := [.int (B 17 pc)]) (rest := [.ref (a 5)]) hx hb hml hown hq hE hX pX0_al hP hD hS hA hl.1 (Y_nearest l G h0 a (upd (upd (upd (upd (upd (upd (upd (upd (upd (upd F 5 (nI cs)) 6 (nI rg)) 18 (nI ba)) 19 (nI tp)) 20 (nI pc)) 21 (nI (pc + 1))) 22 (nI on)) 23 5) 26 (nI ht)) 28 (nI lm)) (updR (updR (updR (updR R 5 (.ref pq)) 6 (.ref (it j9))) 7 (.ref (a sp))) 8 (.ref (a op))) Z (updA B 33 ta15) J K w q8 (it k9) (B 17 pc) g rk hT8 hwp hrk hy2 hO) (gV pw_573 pw_222 pw_223 pw_146 pw_154) hV_X2_nearest qr51 2 hqr52 rfl rfl rfl (Nat.le_of_ble_eq_true rfl) dX5_callNearest_78 ⟨Nat.le_of_ble_eq_true rfl, Nat.le_of_ble_eq_true rfl⟩ ⟨Nat.le_of_ble_eq_true rfl, Nat.le_of_ble_eq_true rfl⟩ (fun v50 u48 H locs hw49 hP hD hS => ?_)
      obtain ⟨w, _⟩ := u48
      obtain ⟨hw49, hO⟩ := hw49
      obtain rfl : v50 = some (.ref (it k9)) := hw49
      have hO : OKP G h0 a (upd (upd (upd (upd (upd (upd (upd (upd (upd (upd F 5 (nI cs)) 6 (nI rg)) 18 (nI ba)) 19 (nI tp)) 20 (nI pc)) 21 (nI (pc + 1))) 22 (nI on)) 23 5) 26 (nI ht)) 28 (nI lm)) (updR (updR (updR (updR R 5 (.ref pq)) 6 (.ref (it j9))) 7 (.ref (a sp))) 8 (.ref (a op))) Z (updA B 33 ta15) J K w := hO.to rfl
      refine W.widen (k := 0) (n := 0) (Nat.le_of_ble_eq_true rfl) (Nat.le_of_ble_eq_true rfl) ?_
      refine W.eq (g2 := F0 m 81 ls [.ref (it k9), .ref (a 5)]) rfl ?_
      refine lv_iload_n hx hb dX5_callNearest_81 rfl (lv_at hl 1 rfl) ?_
      have hO : OKP G h0 a (upd (upd (upd (upd (upd (upd (upd (upd (upd (upd (upd (upd (upd (upd (upd F 5 (nI cs)) 6 (nI rg)) 18 (nI ba)) 19 (nI tp)) 20 (nI pc)) 21 (nI (pc + 1))) 22 (nI on)) 23 5) 26 (nI ht)) 28 (nI lm)) 18 (nI ba)) 19 (nI tp)) 20 (nI pc)) 22 (nI on)) 23 5) (updR (updR (updR (updR (updR (updR R 5 (.ref pq)) 6 (.ref (it j9))) 7 (.ref (a sp))) 8 (.ref (a op))) 5 (.ref pq)) 6 (.ref (it j9))) Z (updA B 33 ta15) J K w := hO.to rfl
      obtain ⟨_, qr56, hqr57⟩ := hO.2.1 28 _ (sg_28 G h0 a _ _ _ _ _)
      refine pc_V0 (G := G) (As := [.ref (it k9), .int (nI ((tp - (ar.length)) - 1))]) (rest := []) hx hb hml hown hq hE hX pX0_al hP hD hS hA hl.1 (Y_begin l G h0 a (upd (upd (upd (upd (upd (upd (upd (upd (upd (upd F 5 (nI cs)) 6 (nI rg)) 18 (nI ba)) 19 (nI tp)) 20 (nI pc)) 21 (nI (pc + 1))) 22 (nI on)) 23 5) 26 (nI ht)) 28 (nI lm)) (updR (updR (updR (updR R 5 (.ref pq)) 6 (.ref (it j9))) 7 (.ref (a sp))) 8 (.ref (a op))) Z (updA B 33 ta15) J K w y on j9 k9 ba pc tp ((tp - (ar.length)) - 1) fl13 pq dr ml nd nm cp it s9 g rk cs rg hwp hps hrk hpy (by omega) (by omega) (by omega) (by omega) h18 hO) (gV pw_574 pw_575 pw_576 pw_539 pw_563) hV_X5_begin qr56 4 hqr57 rfl rfl rfl (Nat.le_of_ble_eq_true rfl) dX5_callNearest_82 ⟨Nat.le_of_ble_eq_true rfl, Nat.le_of_ble_eq_true rfl⟩ ⟨Nat.le_of_ble_eq_true rfl, Nat.le_of_ble_eq_true rfl⟩ (fun v55 u53 H locs hw54 hP hD hS => ?_)
      obtain ⟨w, tp58, en59, nx60, ba61, on62, mr63, ta64, fr65⟩ := u53
      obtain ⟨hw54, h66, h67, h68, hO⟩ := hw54
      have h66 : BgQ on ((tp - (ar.length)) - 1) (ysl y k9) (ylo y k9) (it k9) (nI pc) (nI ba) (nI j9) ((B 30)) tp tp58 en59 (nI (pc + 1)) nx60 ba61 on62 mr63 fr65 := h66
      have h67 : ta64 5 = nI fl13 := h67
      have h68 : tp58 ≤ 32000 ∧ ba61 ≤ 32000 ∧ on62 ≤ 100 := h68
      obtain rfl : v55 = none := hw54
      have hO : OKP G h0 a (upd (upd (upd (upd (upd (upd (upd (upd (upd (upd F 5 (nI cs)) 6 (nI rg)) 18 (nI ba61)) 19 (nI tp58)) 20 (nI pc)) 21 nx60) 22 (nI on62)) 23 en59) 26 (nI ht)) 28 (nI lm)) (updR (updR (updR (updR R 5 (.ref pq)) 6 (.ref mr63)) 7 (.ref (a sp))) 8 (.ref (a op))) Z (updA (updA B 30 fr65) 33 ta64) J K w := hO.to rfl
      refine W.widen (k := 0) (n := 0) (Nat.le_of_ble_eq_true rfl) (Nat.le_of_ble_eq_true rfl) ?_
      refine W.eq (g2 := F0 m 85 ls []) rfl ?_
      have hz69 : StG y it (B 16) (B 19) (mT (B 16) (B 30) fl on pc) pc tp58 en59 nx60 Z J fl13 sp op ht fr65 on62 ba61 mr63 := (StG.begin (J := J) h66 hmi hmo hmk.1 (by omega) r2 hk3 hk2 (Or.inr (Or.inr (Or.inr (Or.inr ⟨Or.inl hmk.2.2.2.2.2.2.2.2.2.2, Or.inr ⟨p9, d9, hp9, hq9, hS9, hk5⟩⟩)))) (by rw [hk4]; exact r5) (Or.inl hop) hle hfb (by omega) hZ)
      have hz70 : ta64 5 = nI fl13 := h67
      have hz71 : fl13 ≤ fl ∧ tp58 ≤ 32000 ∧ (8 ≤ ht ∧ ht ≤ 3008) ∧ ba61 ≤ 32000 ∧ on62 ≤ 100 := (by omega)
      have hz72 : (sp = 34 ∧ op = 35) ∨ (sp = 35 ∧ op = 34) := hsp
      have hz73 : LoE J sp op := hle
      have hO : OKP G h0 a (upd (upd (upd (upd (upd (upd (upd (upd (upd (upd (upd F 5 (nI cs)) 6 (nI rg)) 18 (nI ba61)) 19 (nI tp58)) 20 (nI pc)) 21 nx60) 22 (nI on62)) 23 en59) 26 (nI ht)) 27 (F 27)) 28 (nI lm)) (updR (updR (updR (updR R 5 (.ref pq)) 6 (.ref mr63)) 7 (.ref (a sp))) 8 (.ref (a op))) Z (updA (updA (updA B 30 fr65) 32 (B 32)) 33 ta64) J K w := hO.to rfl
      exact W.vret hx hb hr (fun t99 ht99 hW99 => ⟨⟨_, (w, (tp58, en59, nx60, Z, J, ta64, fl13, sp, op, ht, (F 27), ba61, on62, mr63, fr65, (B 32))), rfl, ⟨rfl, hz69, hz70, hz71, hz72, hz73, hO⟩, by rw [ht99]; exact hP, hD⟩, hS.F ht99⟩) hS.2.2 dX5_callNearest_85
  · have n74 : r12 = 0 := (nI_eq (a := r12) (b := 0) (by omega) (by omega)).mp c20
    have hne5 : ¬ en14 = 5 := by rcases h17 with z | z; (exact absurd z.1 (by omega)); (rw [z.2.1]; decide)
    have hz75 : StG y it (B 16) (B 19) (mT (B 16) (B 30) fl on pc) pc tp en14 (nI (pc + 1)) Z J fl13 sp op ht (B 30) on ba (it j9) := (StG.over hne5 hZ)
    have hz76 : ta15 5 = nI fl13 := h18
    have hz77 : fl13 ≤ fl ∧ tp ≤ 32000 ∧ (8 ≤ ht ∧ ht ≤ 3008) ∧ ba ≤ 32000 ∧ on ≤ 100 := (by omega)
    have hz78 : (sp = 34 ∧ op = 35) ∨ (sp = 35 ∧ op = 34) := hsp
    have hz79 : LoE J sp op := hle
    have hO : OKP G h0 a (upd (upd (upd (upd (upd (upd (upd (upd (upd (upd (upd F 5 (nI cs)) 6 (nI rg)) 18 (nI ba)) 19 (nI tp)) 20 (nI pc)) 21 (nI (pc + 1))) 22 (nI on)) 23 en14) 26 (nI ht)) 27 (F 27)) 28 (nI lm)) (updR (updR (updR (updR R 5 (.ref pq)) 6 (.ref (it j9))) 7 (.ref (a sp))) 8 (.ref (a op))) Z (updA (updA (updA B 30 (B 30)) 32 (B 32)) 33 ta15) J K w := hO.to rfl
    exact W.vret hx hb hr (fun t99 ht99 hW99 => ⟨⟨_, (w, (tp, en14, (nI (pc + 1)), Z, J, ta15, fl13, sp, op, ht, (F 27), ba, on, (it j9), (B 30), (B 32))), rfl, ⟨rfl, hz75, hz76, hz77, hz78, hz79, hO⟩, by rw [ht99]; exact hP, hD⟩, hS.F ht99⟩) hS.2.2 dX5_callNearest_25
set_option maxHeartbeats 40000000 in
set_option maxRecDepth 100000 in
theorem Y_callSuper (l : Launch) (G : pT) (h0 : Nat) (a : Nat → Nat) (F : Nat → Int32) (R : Nat → Value) (Z : Int64) (B : Nat → Nat → Int32) (J : Nat → Nat → Int64) (K : PK) (w : va_W) (y : TY) (Sh : Nat → Nat) (nn : Nat → Nat) (on : Nat) (j9 : Nat) (ba : Nat) (pc : Nat) (tp : Nat) (sp : Nat) (op : Nat) (ht : Nat) (fl : Nat) (pq : Nat) (dr : Nat) (ml : Nat) (nd : Nat) (nm : Nat) (cp : Nat) (it : Nat → Nat) (s9 : Nat) (g : Nat → Nat → Nat) (rk : Nat → Nat) (cs : Nat) (rg : Nat) (lm : Nat) (hsp : (sp = 34 ∧ op = 35) ∨ (sp = 35 ∧ op = 34)) (hmi : MIy y (B 19) Sh nn (J sp) ht (B 30) (J 29) on j9 ba pc tp) (hmo : MOy y (B 16) (B 17) (B 18) (B 19) j9) (hZ : Z = 0) (hfl : B 33 5 = nI fl) (hflb : fl ≤ 20000) (hwp : WPr G K g) (hps : PgT G K g (a 1) pq dr ml nd nm cp it s9) (hrk : RkO K rk) (hpy : PrY y K B dr nd nm it cs rg) (hle : LoE J sp op) (hlm : lm ≤ 3008) (hcs9 : cs ≤ 10000) (hop : B 16 pc = nI 24) (hru : IRy y (B 16) (B 17) (B 18) pc j9 24) (hO : OKP G h0 a (upd (upd (upd (upd (upd (upd (upd (upd (upd (upd F 5 (nI cs)) 6 (nI rg)) 18 (nI ba)) 19 (nI tp)) 20 (nI pc)) 21 (nI (pc + 1))) 22 (nI on)) 23 5) 26 (nI ht)) 28 (nI lm)) (updR (updR (updR (updR R 5 (.ref pq)) 6 (.ref (it j9))) 7 (.ref (a sp))) 8 (.ref (a op))) Z B J K w) : PM l G pX0 yX5_callSuper cX5_callSuper 3 none ({ frames := 6, cells := 0, slots := 0, locals := 145 }) [.ref (a 5), .int (B 17 pc), .int (B 18 pc)] w (fun (v : Option Value) (u : va_W × (Nat × Int32 × Int32 × Int64 × (Nat → Nat → Int64) × (Nat → Int32) × Nat × Nat × Nat × Nat × Int32 × Nat × Nat × Nat × (Nat → Int32) × (Nat → Int32))) => v = none ∧ (StG y it (B 16) (B 19) (mT (B 16) (B 30) fl on pc) pc u.2.1 u.2.2.1 u.2.2.2.1 u.2.2.2.2.1 u.2.2.2.2.2.1 u.2.2.2.2.2.2.2.1 u.2.2.2.2.2.2.2.2.1 u.2.2.2.2.2.2.2.2.2.1 u.2.2.2.2.2.2.2.2.2.2.1 u.2.2.2.2.2.2.2.2.2.2.2.2.2.2.2.1 u.2.2.2.2.2.2.2.2.2.2.2.2.2.1 u.2.2.2.2.2.2.2.2.2.2.2.2.1 u.2.2.2.2.2.2.2.2.2.2.2.2.2.2.1) ∧ (u.2.2.2.2.2.2.1 5 = nI u.2.2.2.2.2.2.2.1) ∧ (u.2.2.2.2.2.2.2.1 ≤ fl ∧ u.2.1 ≤ 32000 ∧ (8 ≤ u.2.2.2.2.2.2.2.2.2.2.1 ∧ u.2.2.2.2.2.2.2.2.2.2.1 ≤ 3008) ∧ u.2.2.2.2.2.2.2.2.2.2.2.2.1 ≤ 32000 ∧ u.2.2.2.2.2.2.2.2.2.2.2.2.2.1 ≤ 100) ∧ ((u.2.2.2.2.2.2.2.2.1 = 34 ∧ u.2.2.2.2.2.2.2.2.2.1 = 35) ∨ (u.2.2.2.2.2.2.2.2.1 = 35 ∧ u.2.2.2.2.2.2.2.2.2.1 = 34)) ∧ (LoE u.2.2.2.2.2.1 u.2.2.2.2.2.2.2.2.1 u.2.2.2.2.2.2.2.2.2.1) ∧ (OKP G h0 a (upd (upd (upd (upd (upd (upd (upd (upd (upd (upd (upd F 5 (nI cs)) 6 (nI rg)) 18 (nI u.2.2.2.2.2.2.2.2.2.2.2.2.1)) 19 (nI u.2.1)) 20 (nI pc)) 21 u.2.2.2.1) 22 (nI u.2.2.2.2.2.2.2.2.2.2.2.2.2.1)) 23 u.2.2.1) 26 (nI u.2.2.2.2.2.2.2.2.2.2.1)) 27 u.2.2.2.2.2.2.2.2.2.2.2.1) 28 (nI lm)) (updR (updR (updR (updR R 5 (.ref pq)) 6 (.ref u.2.2.2.2.2.2.2.2.2.2.2.2.2.2.1)) 7 (.ref (a u.2.2.2.2.2.2.2.2.1))) 8 (.ref (a u.2.2.2.2.2.2.2.2.2.1))) u.2.2.2.2.1 (updA (updA (updA B 30 u.2.2.2.2.2.2.2.2.2.2.2.2.2.2.2.1) 32 u.2.2.2.2.2.2.2.2.2.2.2.2.2.2.2.2) 33 u.2.2.2.2.2.2.1) u.2.2.2.2.2.1 K u.1)) (fun u => u.1) := by
  intro sz
  refine Met.ofW (cc := cX5_callSuper) (maxL := 3) (ret := none) (by decide) rfl ?_
  intro p e s m args below meth c s₁ B9 hml hv
  obtain ⟨rfl, hsz, hP, hD0, hE, hX⟩ := hv
  have hx := B9.exec
  have hb := B9.bytes
  have hr := B9.returns
  have hts := atoms_spec (ws := Cond.code yX5_callSuper cX5_callSuper 3 none :: pw) B9.pre
  have hq : ∀ w ∈ pw, w.before _ s = true := fun w h => hts w (List.mem_cons_of_mem _ h)
  have hown : s.vm.findClass RX5 = some m.cls := findClass_of_methodNamed B9.named
  have hlocks := B9.notSynchronized
  subst hsz
  have hD := hD0.self (sz := s.heap.size)
  have hA : ∀ q : Nat, s.heap.size ≤ q → va_A w s.heap.size q := fun q h => Or.inr h
  generalize va_A w s.heap.size = A at hD hE hA ⊢
  have hS : va_S A s.heap s.heap [] := va_S.rf
  have hl := lv_entry ([.ref (a 5), .int (B 17 pc), .int (B 18 pc)]) (n := 3) (Nat.le_of_ble_eq_true rfl)
  rw [lg_entry_eq]
  generalize (lg_sl ([.ref (a 5), .int (B 17 pc), .int (B 18 pc)]) ++ List.replicate (3 - (lg_sl ([.ref (a 5), .int (B 17 pc), .int (B 18 pc)])).length) Slot.unset).toArray = ls at hl ⊢
  have hl : lv_has ls 3 [(0, .ref (a 5)), (1, .int (B 17 pc)), (2, .int (B 18 pc))] := hl
  obtain ⟨hn1, hn2, hn3, hn4, hn5, hn6, hn7, hn8, hn9, hn10, hn11, hn12⟩ := MIy.nums hmi hmo
  have hlo := FFy.lo hmi.ff
  have hpg := hps.1
  have hp1 := hpg.1
  have hp2 := hpg.2.1
  have hp3 := hpg.2.2.1
  have hp4 := hpg.2.2.2.1
  have hp5 := hpg.2.2.2.2.1
  have hp6 := hpg.2.2.2.2.2.1
  have hp8 := hpg.2.2.2.2.2.2.2.1
  have hp9 := hpg.2.2.2.2.2.2.2.2
  have h29 : ¬ sp = 29 ∧ ¬ op = 29 := by omega
  have hht := hmi.1.2.2.2
  have hnm9 := hps.2.2.1.2.2.1
  have hnmE := hpy.1.1
  obtain ⟨c9, u9, k9, os, ar, r0, r1, r2, r3, r4, r5, ru6, ⟨d8, x8, hX8, hs8⟩, ru8⟩ := hru
  rw [r1] at hl
  rw [r0] at hl
  have hlen : (yA y j9 pc).2.2.2.length = ar.length + (os.length + 1) := by rw [r2, List.length_append]; rfl
  obtain ⟨hrv, hrl⟩ := FFy.recv hmi.ff r2
  have hkn := (hpy.2.2.2.2.1 d8 k9 x8 hX8 hs8).1
  have hmk := hpy.2.1 k9 hkn
  have hsk : ysl y k9 ≤ 319 := by have := (hmk.1.2.2.2.1 (ylo y k9) (Nat.le_refl _) hmk.1.2.1.1 hmk.1.2.2.2.2.2.2.2.2.1.1).2.2.1; have e9 : ysl y k9 = (yM y).2.1 k9 := rfl; omega
  refine lv_aload_n hx hb dX5_callSuper_0 rfl (lv_at hl 0 rfl) ?_
  have hO : OKW G h0 a (upd (upd (upd (upd (upd (upd (upd (upd (upd (upd (upd F 5 (nI cs)) 6 (nI rg)) 18 (nI ba)) 19 (nI tp)) 20 (nI pc)) 21 (nI (pc + 1))) 22 (nI on)) 23 5) 26 (nI ht)) 28 (nI lm)) 23 5) (updR (updR (updR (updR R 5 (.ref pq)) 6 (.ref (it j9))) 7 (.ref (a sp))) 8 (.ref (a op))) Z B J K.1 (fun q99 x99 => x99 = rep G a K q99) w := hO.to rfl
  obtain ⟨_, qr4, hqr5⟩ := hO.2.1 28 _ (sg_28 G h0 a _ _ _ _ _)
  refine pc_V0 (G := G) (As := []) (rest := []) hx hb hml hown hq hE hX pX0_al hP hD hS hA hl.1 (Y_burn l G h0 a (upd (upd (upd (upd (upd (upd (upd (upd (upd (upd F 5 (nI cs)) 6 (nI rg)) 18 (nI ba)) 19 (nI tp)) 20 (nI pc)) 21 (nI (pc + 1))) 22 (nI on)) 23 5) 26 (nI ht)) 28 (nI lm)) (updR (updR (updR (updR R 5 (.ref pq)) 6 (.ref (it j9))) 7 (.ref (a sp))) 8 (.ref (a op))) Z B J K.1 (fun q99 x99 => x99 = rep G a K q99) w fl hfl (by omega) hO) (gV pw_567 pw_568 pw_569 pw_539 pw_560) hV_X5_burn qr4 4 hqr5 rfl rfl rfl (Nat.le_of_ble_eq_true rfl) dX5_callSuper_1 ⟨Nat.le_of_ble_eq_true rfl, Nat.le_of_ble_eq_true rfl⟩ ⟨Nat.le_of_ble_eq_true rfl, Nat.le_of_ble_eq_true rfl⟩ (fun v3 u1 H locs hw2 hP hD hS => ?_)
  obtain ⟨w, r6, fl7, en8, ta9⟩ := u1
  obtain ⟨hw2, h10, h11, h12, h13, hO⟩ := hw2
  have h10 : r6 ≤ 1 := h10
  have h11 : BuQ fl r6 en8 fl7 := h11
  have h12 : ta9 5 = nI fl7 := h12
  have h13 : fl7 ≤ fl := h13
  obtain rfl : v3 = some (.int (nI r6)) := hw2
  have hO : OKP G h0 a (upd (upd (upd (upd (upd (upd (upd (upd (upd (upd F 5 (nI cs)) 6 (nI rg)) 18 (nI ba)) 19 (nI tp)) 20 (nI pc)) 21 (nI (pc + 1))) 22 (nI on)) 23 en8) 26 (nI ht)) 28 (nI lm)) (updR (updR (updR (updR R 5 (.ref pq)) 6 (.ref (it j9))) 7 (.ref (a sp))) 8 (.ref (a op))) Z (updA B 33 ta9) J K w := hO.to rfl
  refine W.widen (k := 0) (n := 0) (Nat.le_of_ble_eq_true rfl) (Nat.le_of_ble_eq_true rfl) ?_
  refine W.eq (g2 := F0 m 4 ls [.int (nI r6)]) rfl ?_
  refine lv_if_eq (tgt := 27) hx hb dX5_callSuper_4 (by decide) (fun c14 => ?_) (fun c14 => ?_)
  · have n15 : r6 = 0 := (nI_eq (a := r6) (b := 0) (by omega) (by omega)).mp c14
    have hne5 : ¬ en8 = 5 := by rcases h11 with z | z; (exact absurd z.1 (by omega)); (rw [z.2.1]; decide)
    have hz16 : StG y it (B 16) (B 19) (mT (B 16) (B 30) fl on pc) pc tp en8 (nI (pc + 1)) Z J fl7 sp op ht (B 30) on ba (it j9) := (StG.over hne5 hZ)
    have hz17 : ta9 5 = nI fl7 := h12
    have hz18 : fl7 ≤ fl ∧ tp ≤ 32000 ∧ (8 ≤ ht ∧ ht ≤ 3008) ∧ ba ≤ 32000 ∧ on ≤ 100 := (by omega)
    have hz19 : (sp = 34 ∧ op = 35) ∨ (sp = 35 ∧ op = 34) := hsp
    have hz20 : LoE J sp op := hle
    have hO : OKP G h0 a (upd (upd (upd (upd (upd (upd (upd (upd (upd (upd (upd F 5 (nI cs)) 6 (nI rg)) 18 (nI ba)) 19 (nI tp)) 20 (nI pc)) 21 (nI (pc + 1))) 22 (nI on)) 23 en8) 26 (nI ht)) 27 (F 27)) 28 (nI lm)) (updR (updR (updR (updR R 5 (.ref pq)) 6 (.ref (it j9))) 7 (.ref (a sp))) 8 (.ref (a op))) Z (updA (updA (updA B 30 (B 30)) 32 (B 32)) 33 ta9) J K w := hO.to rfl
    exact W.vret hx hb hr (fun t99 ht99 hW99 => ⟨⟨_, (w, (tp, en8, (nI (pc + 1)), Z, J, ta9, fl7, sp, op, ht, (F 27), ba, on, (it j9), (B 30), (B 32))), rfl, ⟨rfl, hz16, hz17, hz18, hz19, hz20, hO⟩, by rw [ht99]; exact hP, hD⟩, hS.F ht99⟩) hS.2.2 dX5_callSuper_27
  · have n21 : ¬ (r6 = 0) := fun h9 => c14 ((nI_eq (a := r6) (b := 0) (by omega) (by omega)).mpr h9)
    obtain ⟨_, hen, hfb⟩ := Or.resolve_right h11 (fun z => by have := z.1; omega)
    subst hen
    refine lv_aload_n hx hb dX5_callSuper_7 rfl (lv_at hl 0 rfl) ?_
    refine lv_aload_n hx hb dX5_callSuper_8 rfl (lv_at hl 0 rfl) ?_
    refine c_get (v := .ref pq) (C := RX5) (Tc := TX5) (N := 19) (ci := 4) hx hb hq pin_wsX50 hown hE hP hO 28 (sg_28 G h0 a _ _ _ _ _) rfl 8 (by decide) (hq _ pw_486) (fun _ h9 => h9) rfl dX5_callSuper_9 ?_
    refine lv_iload_n hx hb dX5_callSuper_12 rfl (lv_at hl 1 rfl) ?_
    have hO : OKP G h0 a (upd (upd (upd (upd (upd (upd (upd (upd (upd (upd F 5 (nI cs)) 6 (nI rg)) 18 (nI ba)) 19 (nI tp)) 20 (nI pc)) 21 (nI (pc + 1))) 22 (nI on)) 23 5) 26 (nI ht)) 28 (nI lm)) (updR (updR (updR (updR R 5 (.ref pq)) 6 (.ref (it j9))) 7 (.ref (a sp))) 8 (.ref (a op))) Z (updA B 33 ta9) J K w := hO.to rfl
    obtain ⟨qr25, hqr26⟩ := p_recv hO (by rw [hp1]; decide) (rep_7 hp1)
    refine pc_V0 (G := G) (As := [.int (nI k9)]) (rest := [.ref (a 5)]) hx hb hml hown hq hE hX pX0_al hP hD hS hA hl.1 (Y_method l G h0 a (upd (upd (upd (upd (upd (upd (upd (upd (upd (upd F 5 (nI cs)) 6 (nI rg)) 18 (nI ba)) 19 (nI tp)) 20 (nI pc)) 21 (nI (pc + 1))) 22 (nI on)) 23 5) 26 (nI ht)) 28 (nI lm)) (updR (updR (updR (updR R 5 (.ref pq)) 6 (.ref (it j9))) 7 (.ref (a sp))) 8 (.ref (a op))) Z (updA B 33 ta9) J K w pq dr ml nd k9 nm cp it g hps.1 hps.2.2.1 hkn hO) (gV pw_528 pw_529 pw_530 pw_106 pw_518) hV_X9_method qr25 6 hqr26 rfl rfl rfl (Nat.le_of_ble_eq_true rfl) dX5_callSuper_13 ⟨Nat.le_of_ble_eq_true rfl, Nat.le_of_ble_eq_true rfl⟩ ⟨Nat.le_of_ble_eq_true rfl, Nat.le_of_ble_eq_true rfl⟩ (fun v24 u22 H locs hw23 hP hD hS => ?_)
    obtain ⟨w, _⟩ := u22
    obtain ⟨hw23, hO⟩ := hw23
    obtain rfl : v24 = some (.ref (it k9)) := hw23
    have hO : OKP G h0 a (upd (upd (upd (upd (upd (upd (upd (upd (upd (upd F 5 (nI cs)) 6 (nI rg)) 18 (nI ba)) 19 (nI tp)) 20 (nI pc)) 21 (nI (pc + 1))) 22 (nI on)) 23 5) 26 (nI ht)) 28 (nI lm)) (updR (updR (updR (updR R 5 (.ref pq)) 6 (.ref (it j9))) 7 (.ref (a sp))) 8 (.ref (a op))) Z (updA B 33 ta9) J K w := hO.to rfl
    refine W.widen (k := 0) (n := 0) (Nat.le_of_ble_eq_true rfl) (Nat.le_of_ble_eq_true rfl) ?_
    refine W.eq (g2 := F0 m 16 ls [.ref (it k9), .ref (a 5)]) rfl ?_
    refine lv_aload_n hx hb dX5_callSuper_16 rfl (lv_at hl 0 rfl) ?_
    refine c_get (v := .int (nI tp)) (C := RX5) (Tc := TX5) (N := 19) (ci := 4) hx hb hq pin_wsX50 hown hE hP hO 28 (sg_28 G h0 a _ _ _ _ _) rfl 11 (by decide) (hq _ pw_505) (fun _ h9 => h9) rfl dX5_callSuper_17 ?_
    refine lv_iload_n hx hb dX5_callSuper_20 rfl (lv_at hl 2 rfl) ?_
    refine lv_isub hx hb dX5_callSuper_21 ?_
    refine lv_topi (fun x27 e28 => ?_)
    obtain rfl : x27 = nI (tp - (ar.length)) := e28.trans (nI_subN (a := (ar.length)) (b := tp) (by omega))
    refine lv_iconst (v := 1) hx hb dX5_callSuper_22 (by decide) ?_
    refine lv_isub hx hb dX5_callSuper_23 ?_
    refine lv_topi (fun x29 e30 => ?_)
    obtain rfl : x29 = nI ((tp - (ar.length)) - 1) := e30.trans (nI_subN (a := 1) (b := (tp - (ar.length))) (by omega))
    have hO : OKP G h0 a (upd (upd (upd (upd (upd (upd (upd (upd (upd (upd (upd (upd (upd (upd (upd F 5 (nI cs)) 6 (nI rg)) 18 (nI ba)) 19 (nI tp)) 20 (nI pc)) 21 (nI (pc + 1))) 22 (nI on)) 23 5) 26 (nI ht)) 28 (nI lm)) 18 (nI ba)) 19 (nI tp)) 20 (nI pc)) 22 (nI on)) 23 5) (updR (updR (updR (updR (updR (updR R 5 (.ref pq)) 6 (.ref (it j9))) 7 (.ref (a sp))) 8 (.ref (a op))) 5 (.ref pq)) 6 (.ref (it j9))) Z (updA B 33 ta9) J K w := hO.to rfl
    obtain ⟨_, qr34, hqr35⟩ := hO.2.1 28 _ (sg_28 G h0 a _ _ _ _ _)
    refine pc_V0 (G := G) (As := [.ref (it k9), .int (nI ((tp - (ar.length)) - 1))]) (rest := []) hx hb hml hown hq hE hX pX0_al hP hD hS hA hl.1 (Y_begin l G h0 a (upd (upd (upd (upd (upd (upd (upd (upd (upd (upd F 5 (nI cs)) 6 (nI rg)) 18 (nI ba)) 19 (nI tp)) 20 (nI pc)) 21 (nI (pc + 1))) 22 (nI on)) 23 5) 26 (nI ht)) 28 (nI lm)) (updR (updR (updR (updR R 5 (.ref pq)) 6 (.ref (it j9))) 7 (.ref (a sp))) 8 (.ref (a op))) Z (updA B 33 ta9) J K w y on j9 k9 ba pc tp ((tp - (ar.length)) - 1) fl7 pq dr ml nd nm cp it s9 g rk cs rg hwp hps hrk hpy (by omega) (by omega) (by omega) (by omega) h12 hO) (gV pw_574 pw_575 pw_576 pw_539 pw_563) hV_X5_begin qr34 4 hqr35 rfl rfl rfl (Nat.le_of_ble_eq_true rfl) dX5_callSuper_24 ⟨Nat.le_of_ble_eq_true rfl, Nat.le_of_ble_eq_true rfl⟩ ⟨Nat.le_of_ble_eq_true rfl, Nat.le_of_ble_eq_true rfl⟩ (fun v33 u31 H locs hw32 hP hD hS => ?_)
    obtain ⟨w, tp36, en37, nx38, ba39, on40, mr41, ta42, fr43⟩ := u31
    obtain ⟨hw32, h44, h45, h46, hO⟩ := hw32
    have h44 : BgQ on ((tp - (ar.length)) - 1) (ysl y k9) (ylo y k9) (it k9) (nI pc) (nI ba) (nI j9) ((B 30)) tp tp36 en37 (nI (pc + 1)) nx38 ba39 on40 mr41 fr43 := h44
    have h45 : ta42 5 = nI fl7 := h45
    have h46 : tp36 ≤ 32000 ∧ ba39 ≤ 32000 ∧ on40 ≤ 100 := h46
    obtain rfl : v33 = none := hw32
    have hO : OKP G h0 a (upd (upd (upd (upd (upd (upd (upd (upd (upd (upd F 5 (nI cs)) 6 (nI rg)) 18 (nI ba39)) 19 (nI tp36)) 20 (nI pc)) 21 nx38) 22 (nI on40)) 23 en37) 26 (nI ht)) 28 (nI lm)) (updR (updR (updR (updR R 5 (.ref pq)) 6 (.ref mr41)) 7 (.ref (a sp))) 8 (.ref (a op))) Z (updA (updA B 30 fr43) 33 ta42) J K w := hO.to rfl
    refine W.widen (k := 0) (n := 0) (Nat.le_of_ble_eq_true rfl) (Nat.le_of_ble_eq_true rfl) ?_
    refine W.eq (g2 := F0 m 27 ls []) rfl ?_
    have hz47 : StG y it (B 16) (B 19) (mT (B 16) (B 30) fl on pc) pc tp36 en37 nx38 Z J fl7 sp op ht fr43 on40 ba39 mr41 := (StG.begin (J := J) h44 hmi hmo hmk.1 (by omega) r2 r4 r3 (ru6 _ _ hrv) (by rw [r5]; exact ru8) (Or.inr hop) hle hfb (by omega) hZ)
    have hz48 : ta42 5 = nI fl7 := h45
    have hz49 : fl7 ≤ fl ∧ tp36 ≤ 32000 ∧ (8 ≤ ht ∧ ht ≤ 3008) ∧ ba39 ≤ 32000 ∧ on40 ≤ 100 := (by omega)
    have hz50 : (sp = 34 ∧ op = 35) ∨ (sp = 35 ∧ op = 34) := hsp
    have hz51 : LoE J sp op := hle
    have hO : OKP G h0 a (upd (upd (upd (upd (upd (upd (upd (upd (upd (upd (upd F 5 (nI cs)) 6 (nI rg)) 18 (nI ba39)) 19 (nI tp36)) 20 (nI pc)) 21 nx38) 22 (nI on40)) 23 en37) 26 (nI ht)) 27 (F 27)) 28 (nI lm)) (updR (updR (updR (updR R 5 (.ref pq)) 6 (.ref mr41)) 7 (.ref (a sp))) 8 (.ref (a op))) Z (updA (updA (updA B 30 fr43) 32 (B 32)) 33 ta42) J K w := hO.to rfl
    exact W.vret hx hb hr (fun t99 ht99 hW99 => ⟨⟨_, (w, (tp36, en37, nx38, Z, J, ta42, fl7, sp, op, ht, (F 27), ba39, on40, mr41, fr43, (B 32))), rfl, ⟨rfl, hz47, hz48, hz49, hz50, hz51, hO⟩, by rw [ht99]; exact hP, hD⟩, hS.F ht99⟩) hS.2.2 dX5_callSuper_27
set_option maxHeartbeats 60000000 in
set_option maxRecDepth 100000 in
theorem Y_makeArray (l : Launch) (G : pT) (h0 : Nat) (a : Nat → Nat) (F : Nat → Int32) (R : Nat → Value) (Z : Int64) (B : Nat → Nat → Int32) (J : Nat → Nat → Int64) (K : PK) (w : va_W) (y : TY) (Sh : Nat → Nat) (nn : Nat → Nat) (on : Nat) (j9 : Nat) (ba : Nat) (pc : Nat) (tp : Nat) (sp : Nat) (op : Nat) (ht : Nat) (os : List Nat) (pq : Nat) (dr : Nat) (ml : Nat) (nd : Nat) (nm : Nat) (cp : Nat) (it : Nat → Nat) (s9 : Nat) (g : Nat → Nat → Nat) (rk : Nat → Nat) (cs : Nat) (rg : Nat) (fl : Nat) (lm : Nat) (d9 : Nat) (x : Int32) (hsp : (sp = 34 ∧ op = 35) ∨ (sp = 35 ∧ op = 34)) (hma : MIa y (B 19) Sh nn (J sp) ht (B 30) (J 29) on j9 ba pc os tp) (hle : LoE J sp op) (hhe : B 19 pc = nI (yA y j9 pc).2.1) (hwp : WPr G K g) (hps : PgT G K g (a 1) pq dr ml nd nm cp it s9) (hrk : RkO K rk) (hpy : PrY y K B dr nd nm it cs rg) (hcs9 : cs ≤ 10000) (hfl : B 33 5 = nI fl) (hflb : fl ≤ 20000) (hlm : lm ≤ 3008) (hdk : 64 ≤ d9 ∧ d9 < 128 ∧ (d9 - 64 = 60 ∨ d9 - 64 = 61 ∨ RfT (d9 - 64))) (hsf : yfi y d9 d9) (hrm : tp + 2 ≤ 320 * on) (hO : OKP G h0 a (upd (upd (upd (upd (upd (upd (upd (upd (upd F 5 (nI cs)) 6 (nI rg)) 18 (nI ba)) 19 (nI tp)) 20 (nI pc)) 22 (nI on)) 23 5) 26 (nI ht)) 28 (nI lm)) (updR (updR (updR (updR R 5 (.ref pq)) 6 (.ref (it j9))) 7 (.ref (a sp))) 8 (.ref (a op))) Z B J K w) : PM l G pX0 yX5_makeArray cX5_makeArray 3 none ({ frames := 8, cells := 0, slots := 0, locals := 196 }) [.ref (a 5), .int (nI d9), .int x] w (fun (v : Option Value) (u : va_W × (Nat × Int32 × (Nat → Nat → Int64) × (Nat → Int32) × Nat × Nat × Nat × Int32 × (Nat → Nat) × (Nat → Nat) × Int64 × Nat)) => v = none ∧ ((¬ u.2.2.1 = 5 ∧ u.2.2.2.2.2.2.2.2.2.2.2.1 = Z) ∨ (u.2.2.1 = 5 ∧ LoE u.2.2.2.1 u.2.2.2.2.2.1 u.2.2.2.2.2.2.1 ∧ fl = u.2.2.2.2.2.2.2.2.2.2.2.2 + 1 ∧ ((u.2.2.2.2.2.2.2.2.2.2.2.1 = rfV 6 ∧ u.2.1 = tp ∧ MIa y (B 19) u.2.2.2.2.2.2.2.2.2.1 u.2.2.2.2.2.2.2.2.2.2.1 (u.2.2.2.1 u.2.2.2.2.2.1) u.2.2.2.2.2.2.2.1 (B 30) (u.2.2.2.1 29) on j9 ba pc os tp) ∨ (u.2.2.2.2.2.2.2.2.2.2.2.1 = Z ∧ u.2.1 = tp + 1 ∧ MIa y (B 19) u.2.2.2.2.2.2.2.2.2.1 u.2.2.2.2.2.2.2.2.2.2.1 (u.2.2.2.1 u.2.2.2.2.2.1) u.2.2.2.2.2.2.2.1 (B 30) (u.2.2.2.1 29) on j9 ba pc (d9 :: os) (tp + 1))))) ∧ (u.2.2.2.2.1 5 = nI u.2.2.2.2.2.2.2.2.2.2.2.2) ∧ ((u.2.2.2.2.2.1 = 34 ∧ u.2.2.2.2.2.2.1 = 35) ∨ (u.2.2.2.2.2.1 = 35 ∧ u.2.2.2.2.2.2.1 = 34)) ∧ ((8 ≤ u.2.2.2.2.2.2.2.1 ∧ u.2.2.2.2.2.2.2.1 ≤ 3008) ∧ u.2.1 ≤ 32000 ∧ u.2.2.2.2.2.2.2.2.2.2.2.2 ≤ fl) ∧ (LoE u.2.2.2.1 u.2.2.2.2.2.1 u.2.2.2.2.2.2.1) ∧ (OKP G h0 a (upd (upd (upd (upd (upd (upd (upd (upd (upd (upd F 5 (nI cs)) 6 (nI rg)) 18 (nI ba)) 19 (nI u.2.1)) 20 (nI pc)) 22 (nI on)) 23 u.2.2.1) 26 (nI u.2.2.2.2.2.2.2.1)) 27 u.2.2.2.2.2.2.2.2.1) 28 (nI lm)) (updR (updR (updR (updR R 5 (.ref pq)) 6 (.ref (it j9))) 7 (.ref (a u.2.2.2.2.2.1))) 8 (.ref (a u.2.2.2.2.2.2.1))) u.2.2.2.2.2.2.2.2.2.2.2.1 (updA B 33 u.2.2.2.2.1) u.2.2.2.1 K u.1)) (fun u => u.1) := by
  intro sz
  refine Met.ofW (cc := cX5_makeArray) (maxL := 3) (ret := none) (by decide) rfl ?_
  intro p e s m args below meth c s₁ B9 hml hv
  obtain ⟨rfl, hsz, hP, hD0, hE, hX⟩ := hv
  have hx := B9.exec
  have hb := B9.bytes
  have hr := B9.returns
  have hts := atoms_spec (ws := Cond.code yX5_makeArray cX5_makeArray 3 none :: pw) B9.pre
  have hq : ∀ w ∈ pw, w.before _ s = true := fun w h => hts w (List.mem_cons_of_mem _ h)
  have hown : s.vm.findClass RX5 = some m.cls := findClass_of_methodNamed B9.named
  have hlocks := B9.notSynchronized
  subst hsz
  have hD := hD0.self (sz := s.heap.size)
  have hA : ∀ q : Nat, s.heap.size ≤ q → va_A w s.heap.size q := fun q h => Or.inr h
  generalize va_A w s.heap.size = A at hD hE hA ⊢
  have hS : va_S A s.heap s.heap [] := va_S.rf
  have hl := lv_entry ([.ref (a 5), .int (nI d9), .int x]) (n := 3) (Nat.le_of_ble_eq_true rfl)
  rw [lg_entry_eq]
  generalize (lg_sl ([.ref (a 5), .int (nI d9), .int x]) ++ List.replicate (3 - (lg_sl ([.ref (a 5), .int (nI d9), .int x])).length) Slot.unset).toArray = ls at hl ⊢
  have hl : lv_has ls 3 [(0, .ref (a 5)), (1, .int (nI d9)), (2, .int x)] := hl
  have hpg := hps.1
  have hp1 := hpg.1
  have hp2 := hpg.2.1
  have hp3 := hpg.2.2.1
  have hp4 := hpg.2.2.2.1
  have hp5 := hpg.2.2.2.2.1
  have hp6 := hpg.2.2.2.2.2.1
  have hp8 := hpg.2.2.2.2.2.2.2.1
  have hp9 := hpg.2.2.2.2.2.2.2.2
  obtain ⟨hb1, hb2, hb3, hb4, hb5, hb6, hb7⟩ := hma.1
  have hh9 := hma.2.2.2.1.1
  refine lv_aload_n hx hb dX5_makeArray_0 rfl (lv_at hl 0 rfl) ?_
  have hO : OKW G h0 a (upd (upd (upd (upd (upd (upd (upd (upd (upd (upd F 5 (nI cs)) 6 (nI rg)) 18 (nI ba)) 19 (nI tp)) 20 (nI pc)) 22 (nI on)) 23 5) 26 (nI ht)) 28 (nI lm)) 23 5) (updR (updR (updR (updR R 5 (.ref pq)) 6 (.ref (it j9))) 7 (.ref (a sp))) 8 (.ref (a op))) Z B J K.1 (fun q99 x99 => x99 = rep G a K q99) w := hO.to rfl
  obtain ⟨_, qr4, hqr5⟩ := hO.2.1 28 _ (sg_28 G h0 a _ _ _ _ _)
  refine pc_V0 (G := G) (As := []) (rest := []) hx hb hml hown hq hE hX pX0_al hP hD hS hA hl.1 (Y_burn l G h0 a (upd (upd (upd (upd (upd (upd (upd (upd (upd F 5 (nI cs)) 6 (nI rg)) 18 (nI ba)) 19 (nI tp)) 20 (nI pc)) 22 (nI on)) 23 5) 26 (nI ht)) 28 (nI lm)) (updR (updR (updR (updR R 5 (.ref pq)) 6 (.ref (it j9))) 7 (.ref (a sp))) 8 (.ref (a op))) Z B J K.1 (fun q99 x99 => x99 = rep G a K q99) w fl hfl (by omega) hO) (gV pw_567 pw_568 pw_569 pw_539 pw_560) hV_X5_burn qr4 4 hqr5 rfl rfl rfl (Nat.le_of_ble_eq_true rfl) dX5_makeArray_1 ⟨Nat.le_of_ble_eq_true rfl, Nat.le_of_ble_eq_true rfl⟩ ⟨Nat.le_of_ble_eq_true rfl, Nat.le_of_ble_eq_true rfl⟩ (fun v3 u1 H locs hw2 hP hD hS => ?_)
  obtain ⟨w, r6, fl7, en8, ta9⟩ := u1
  obtain ⟨hw2, h10, h11, h12, h13, hO⟩ := hw2
  have h10 : r6 ≤ 1 := h10
  have h11 : BuQ fl r6 en8 fl7 := h11
  have h12 : ta9 5 = nI fl7 := h12
  have h13 : fl7 ≤ fl := h13
  obtain rfl : v3 = some (.int (nI r6)) := hw2
  have hO : OKP G h0 a (upd (upd (upd (upd (upd (upd (upd (upd (upd F 5 (nI cs)) 6 (nI rg)) 18 (nI ba)) 19 (nI tp)) 20 (nI pc)) 22 (nI on)) 23 en8) 26 (nI ht)) 28 (nI lm)) (updR (updR (updR (updR R 5 (.ref pq)) 6 (.ref (it j9))) 7 (.ref (a sp))) 8 (.ref (a op))) Z (updA B 33 ta9) J K w := hO.to rfl
  refine W.widen (k := 0) (n := 0) (Nat.le_of_ble_eq_true rfl) (Nat.le_of_ble_eq_true rfl) ?_
  refine W.eq (g2 := F0 m 4 ls [.int (nI r6)]) rfl ?_
  refine lv_if_ne (tgt := 8) hx hb dX5_makeArray_4 (by decide) (fun c14 => ?_) (fun c14 => ?_)
  · have n15 : ¬ (r6 = 0) := fun h9 => c14 ((nI_eq (a := r6) (b := 0) (by omega) (by omega)).mpr h9)
    obtain ⟨_, hen, hfb⟩ := Or.resolve_right h11 (fun z => by have := z.1; omega)
    subst hen
    refine lv_iload_n hx hb dX5_makeArray_8 rfl (lv_at hl 2 rfl) ?_
    refine lv_if_ge (tgt := 21) hx hb dX5_makeArray_9 (by decide) (fun c16 => ?_) (fun c16 => ?_)
    · obtain ⟨k7, hk7, hkb⟩ := nI_nn2 (nn_le c16)
      rw [hk7] at hl
      refine lv_aload_n hx hb dX5_makeArray_21 rfl (lv_at hl 0 rfl) ?_
      refine lv_iload_n hx hb dX5_makeArray_22 rfl (lv_at hl 1 rfl) ?_
      refine lv_ldc2 (v := 2) hx hb hown (hq _ pw_659) dX5_makeArray_23 ?_
      refine lv_iload_n hx hb dX5_makeArray_26 rfl (lv_at hl 2 rfl) ?_
      refine lv_i2l hx hb dX5_makeArray_27 rfl ?_
      refine lv_topl (fun x17 e18 => ?_)
      rw [show x17 = lN k7 from e18.trans (nI_l (by omega))]
      refine lv_ladd hx hb dX5_makeArray_28 ?_
      refine lv_topl (fun x19 e20 => ?_)
      rw [show x19 = lN (2 + k7) from e20.trans (lN_add 2 k7)]
      have hO : OKP G h0 a (upd (upd (upd (upd (upd (upd (upd (upd (upd (upd (upd (upd (upd (upd (upd (upd (upd (upd F 5 (nI cs)) 6 (nI rg)) 18 (nI ba)) 19 (nI tp)) 20 (nI pc)) 22 (nI on)) 23 5) 26 (nI ht)) 28 (nI lm)) 5 (nI cs)) 6 (nI rg)) 18 (nI ba)) 19 (nI tp)) 20 (nI pc)) 22 (nI on)) 23 5) 26 (nI ht)) 28 (nI lm)) (updR (updR (updR (updR (updR (updR (updR (updR R 5 (.ref pq)) 6 (.ref (it j9))) 7 (.ref (a sp))) 8 (.ref (a op))) 5 (.ref pq)) 6 (.ref (it j9))) 7 (.ref (a sp))) 8 (.ref (a op))) Z (updA B 33 ta9) J K w := hO.to rfl
      obtain ⟨_, qr24, hqr25⟩ := hO.2.1 28 _ (sg_28 G h0 a _ _ _ _ _)
      refine pc_V0 (G := G) (As := [.int (nI d9), .long (lN (2 + k7))]) (rest := []) hx hb hml hown hq hE hX pX0_al hP hD hS hA hl.1 (Y_make l G h0 a (upd (upd (upd (upd (upd (upd (upd (upd (upd F 5 (nI cs)) 6 (nI rg)) 18 (nI ba)) 19 (nI tp)) 20 (nI pc)) 22 (nI on)) 23 5) 26 (nI ht)) 28 (nI lm)) (updR (updR (updR (updR R 5 (.ref pq)) 6 (.ref (it j9))) 7 (.ref (a sp))) 8 (.ref (a op))) Z (updA B 33 ta9) J K w y Sh nn on j9 ba pc tp sp op ht os pq dr ml nd nm cp it s9 g rk cs rg fl7 lm d9 (2 + k7) hsp hma hle hhe hwp hps hrk hpy hcs9 h12 hlm (Or.inr ⟨hdk.1, hdk.2.1, by omega, hdk.2.2⟩) (fun z => absurd z (by omega)) hsf hrm (by omega) hO) (gV pw_556 pw_557 pw_558 pw_539 pw_552) hV_X5_make qr24 4 hqr25 rfl rfl rfl (Nat.le_of_ble_eq_true rfl) dX5_makeArray_29 ⟨Nat.le_of_ble_eq_true rfl, Nat.le_of_ble_eq_true rfl⟩ ⟨Nat.le_of_ble_eq_true rfl, Nat.le_of_ble_eq_true rfl⟩ (fun v23 u21 H locs hw22 hP hD hS => ?_)
      obtain ⟨w, tp26, en27, J28, ta29, sp30, op31, ht32, ot33, S34, n35⟩ := u21
      obtain ⟨hw22, h36, h37, h38, h39, h40, hO⟩ := hw22
      have h36 : (en27 = 3 ∧ tp26 = tp) ∨ (en27 = 5 ∧ tp26 = tp + 1 ∧ LoE J28 sp30 op31 ∧ MIa y ((B 19)) S34 n35 (J28 sp30) ht32 ((B 30)) (J28 29) on j9 ba pc (d9 :: os) (tp + 1)) := h36
      have h37 : ta29 5 = nI fl7 := h37
      have h38 : (sp30 = 34 ∧ op31 = 35) ∨ (sp30 = 35 ∧ op31 = 34) := h38
      have h39 : (8 ≤ ht32 ∧ ht32 ≤ 3008) ∧ tp26 ≤ 32000 := h39
      have h40 : LoE J28 sp30 op31 := h40
      obtain rfl : v23 = none := hw22
      have hO : OKP G h0 a (upd (upd (upd (upd (upd (upd (upd (upd (upd (upd F 5 (nI cs)) 6 (nI rg)) 18 (nI ba)) 19 (nI tp26)) 20 (nI pc)) 22 (nI on)) 23 en27) 26 (nI ht32)) 27 ot33) 28 (nI lm)) (updR (updR (updR (updR R 5 (.ref pq)) 6 (.ref (it j9))) 7 (.ref (a sp30))) 8 (.ref (a op31))) Z (updA B 33 ta29) J28 K w := hO.to rfl
      refine W.widen (k := 0) (n := 0) (Nat.le_of_ble_eq_true rfl) (Nat.le_of_ble_eq_true rfl) ?_
      refine W.eq (g2 := F0 m 32 ls []) rfl ?_
      have hz41 : (¬ en27 = 5 ∧ Z = Z) ∨ (en27 = 5 ∧ LoE J28 sp30 op31 ∧ fl = fl7 + 1 ∧ ((Z = rfV 6 ∧ tp26 = tp ∧ MIa y (B 19) S34 n35 (J28 sp30) ht32 (B 30) (J28 29) on j9 ba pc os tp) ∨ (Z = Z ∧ tp26 = tp + 1 ∧ MIa y (B 19) S34 n35 (J28 sp30) ht32 (B 30) (J28 29) on j9 ba pc (d9 :: os) (tp + 1)))) := (by rcases h36 with z | ⟨z1, z2, z3, z4⟩; (exact Or.inl ⟨by rw [z.1]; decide, rfl⟩); (exact Or.inr ⟨z1, z3, hfb, Or.inr ⟨rfl, z2, z4⟩⟩))
      have hz42 : ta29 5 = nI fl7 := h37
      have hz43 : (sp30 = 34 ∧ op31 = 35) ∨ (sp30 = 35 ∧ op31 = 34) := h38
      have hz44 : (8 ≤ ht32 ∧ ht32 ≤ 3008) ∧ tp26 ≤ 32000 ∧ fl7 ≤ fl := (by omega)
      have hz45 : LoE J28 sp30 op31 := h40
      have hO : OKP G h0 a (upd (upd (upd (upd (upd (upd (upd (upd (upd (upd F 5 (nI cs)) 6 (nI rg)) 18 (nI ba)) 19 (nI tp26)) 20 (nI pc)) 22 (nI on)) 23 en27) 26 (nI ht32)) 27 ot33) 28 (nI lm)) (updR (updR (updR (updR R 5 (.ref pq)) 6 (.ref (it j9))) 7 (.ref (a sp30))) 8 (.ref (a op31))) Z (updA B 33 ta29) J28 K w := hO.to rfl
      exact W.vret hx hb hr (fun t99 ht99 hW99 => ⟨⟨_, (w, (tp26, en27, J28, ta29, sp30, op31, ht32, ot33, S34, n35, Z, fl7)), rfl, ⟨rfl, hz41, hz42, hz43, hz44, hz45, hO⟩, by rw [ht99]; exact hP, hD⟩, hS.F ht99⟩) hS.2.2 dX5_makeArray_32
    · refine lv_aload_n hx hb dX5_makeArray_12 rfl (lv_at hl 0 rfl) ?_
      refine lv_bipush (v := 6) hx hb dX5_makeArray_13 (by decide) ?_
      have hO : OKW G h0 a (upd (upd (upd (upd (upd (upd (upd (upd (upd F 5 (nI cs)) 6 (nI rg)) 18 (nI ba)) 19 (nI tp)) 20 (nI pc)) 22 (nI on)) 23 5) 26 (nI ht)) 28 (nI lm)) (updR (updR (updR (updR R 5 (.ref pq)) 6 (.ref (it j9))) 7 (.ref (a sp))) 8 (.ref (a op))) Z (updA B 33 ta9) J K.1 (fun q99 x99 => x99 = rep G a K q99) w := hO.to rfl
      obtain ⟨_, qr49, hqr50⟩ := hO.2.1 28 _ (sg_28 G h0 a _ _ _ _ _)
      refine pc_V0 (G := G) (As := [.int (nI 6)]) (rest := []) hx hb hml hown hq hE hX pX0_al hP hD hS hA hl.1 (Y_raise l G h0 a (upd (upd (upd (upd (upd (upd (upd (upd (upd F 5 (nI cs)) 6 (nI rg)) 18 (nI ba)) 19 (nI tp)) 20 (nI pc)) 22 (nI on)) 23 5) 26 (nI ht)) 28 (nI lm)) (updR (updR (updR (updR R 5 (.ref pq)) 6 (.ref (it j9))) 7 (.ref (a sp))) 8 (.ref (a op))) Z (updA B 33 ta9) J K.1 (fun q99 x99 => x99 = rep G a K q99) w 6 (by omega) hO) (gV pw_570 pw_571 pw_572 pw_539 pw_561) hV_X5_raise qr49 4 hqr50 rfl rfl rfl (Nat.le_of_ble_eq_true rfl) dX5_makeArray_15 ⟨Nat.le_of_ble_eq_true rfl, Nat.le_of_ble_eq_true rfl⟩ ⟨Nat.le_of_ble_eq_true rfl, Nat.le_of_ble_eq_true rfl⟩ (fun v48 u46 H locs hw47 hP hD hS => ?_)
      obtain ⟨w, _⟩ := u46
      obtain ⟨hw47, hO⟩ := hw47
      obtain rfl : v48 = none := hw47
      have hO : OKP G h0 a (upd (upd (upd (upd (upd (upd (upd (upd (upd F 5 (nI cs)) 6 (nI rg)) 18 (nI ba)) 19 (nI tp)) 20 (nI pc)) 22 (nI on)) 23 5) 26 (nI ht)) 28 (nI lm)) (updR (updR (updR (updR R 5 (.ref pq)) 6 (.ref (it j9))) 7 (.ref (a sp))) 8 (.ref (a op))) (rfV 6) (updA B 33 ta9) J K w := hO.to rfl
      refine W.widen (k := 0) (n := 0) (Nat.le_of_ble_eq_true rfl) (Nat.le_of_ble_eq_true rfl) ?_
      refine W.eq (g2 := F0 m 18 ls []) rfl ?_
      refine lv_goto (tgt := 32) hx hb dX5_makeArray_18 (by decide) ?_
      have hz51 : (¬ (5 : Int32) = 5 ∧ (rfV 6) = Z) ∨ ((5 : Int32) = 5 ∧ LoE J sp op ∧ fl = fl7 + 1 ∧ (((rfV 6) = rfV 6 ∧ tp = tp ∧ MIa y (B 19) Sh nn (J sp) ht (B 30) (J 29) on j9 ba pc os tp) ∨ ((rfV 6) = Z ∧ tp = tp + 1 ∧ MIa y (B 19) Sh nn (J sp) ht (B 30) (J 29) on j9 ba pc (d9 :: os) (tp + 1)))) := (Or.inr ⟨rfl, hle, hfb, Or.inl ⟨rfl, rfl, hma⟩⟩)
      have hz52 : ta9 5 = nI fl7 := h12
      have hz53 : (sp = 34 ∧ op = 35) ∨ (sp = 35 ∧ op = 34) := hsp
      have hz54 : (8 ≤ ht ∧ ht ≤ 3008) ∧ tp ≤ 32000 ∧ fl7 ≤ fl := (by omega)
      have hz55 : LoE J sp op := hle
      have hO : OKP G h0 a (upd (upd (upd (upd (upd (upd (upd (upd (upd (upd F 5 (nI cs)) 6 (nI rg)) 18 (nI ba)) 19 (nI tp)) 20 (nI pc)) 22 (nI on)) 23 (5 : Int32)) 26 (nI ht)) 27 (F 27)) 28 (nI lm)) (updR (updR (updR (updR R 5 (.ref pq)) 6 (.ref (it j9))) 7 (.ref (a sp))) 8 (.ref (a op))) (rfV 6) (updA B 33 ta9) J K w := hO.to rfl
      exact W.vret hx hb hr (fun t99 ht99 hW99 => ⟨⟨_, (w, (tp, (5 : Int32), J, ta9, sp, op, ht, (F 27), Sh, nn, (rfV 6), fl7)), rfl, ⟨rfl, hz51, hz52, hz53, hz54, hz55, hO⟩, by rw [ht99]; exact hP, hD⟩, hS.F ht99⟩) hS.2.2 dX5_makeArray_32
  · have n56 : r6 = 0 := (nI_eq (a := r6) (b := 0) (by omega) (by omega)).mp c14
    have hne5 : ¬ en8 = 5 := by rcases h11 with z | z; (exact absurd z.1 (by omega)); (rw [z.2.1]; decide)
    have hz57 : (¬ en8 = 5 ∧ Z = Z) ∨ (en8 = 5 ∧ LoE J sp op ∧ fl = fl7 + 1 ∧ ((Z = rfV 6 ∧ tp = tp ∧ MIa y (B 19) Sh nn (J sp) ht (B 30) (J 29) on j9 ba pc os tp) ∨ (Z = Z ∧ tp = tp + 1 ∧ MIa y (B 19) Sh nn (J sp) ht (B 30) (J 29) on j9 ba pc (d9 :: os) (tp + 1)))) := (Or.inl ⟨hne5, rfl⟩)
    have hz58 : ta9 5 = nI fl7 := h12
    have hz59 : (sp = 34 ∧ op = 35) ∨ (sp = 35 ∧ op = 34) := hsp
    have hz60 : (8 ≤ ht ∧ ht ≤ 3008) ∧ tp ≤ 32000 ∧ fl7 ≤ fl := (by omega)
    have hz61 : LoE J sp op := hle
    have hO : OKP G h0 a (upd (upd (upd (upd (upd (upd (upd (upd (upd (upd F 5 (nI cs)) 6 (nI rg)) 18 (nI ba)) 19 (nI tp)) 20 (nI pc)) 22 (nI on)) 23 en8) 26 (nI ht)) 27 (F 27)) 28 (nI lm)) (updR (updR (updR (updR R 5 (.ref pq)) 6 (.ref (it j9))) 7 (.ref (a sp))) 8 (.ref (a op))) Z (updA B 33 ta9) J K w := hO.to rfl
    exact W.vret hx hb hr (fun t99 ht99 hW99 => ⟨⟨_, (w, (tp, en8, J, ta9, sp, op, ht, (F 27), Sh, nn, Z, fl7)), rfl, ⟨rfl, hz57, hz58, hz59, hz60, hz61, hO⟩, by rw [ht99]; exact hP, hD⟩, hS.F ht99⟩) hS.2.2 dX5_makeArray_7
